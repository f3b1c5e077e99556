/-! ===== what stands in the two memories and never changes ===== -/
def vd_SC (M : vd_M) (ow fa lo lf : Nat) : Prop := ((((((((vd_k M 9 = 32) ∧ (vd_k M 10 = 0)) ∧ ((vd_k M 11 = 33) ∧ ((vd_l M 11 = 65536) ∧ (vd_k M 12 = 36)))) ∧ (((vd_l M 12 = 10) ∧ (vd_k M 13 = 36)) ∧ ((vd_l M 13 = 8) ∧ ((vd_k M 14 = 32) ∧ (vd_l M 14 = 11764))))) ∧ ((((vd_k M 15 = 32) ∧ (vd_l M 15 = 256)) ∧ ((vd_k M 16 = 8) ∧ ((vd_k M 17 = 5) ∧ (vd_k M 18 = 32)))) ∧ (((vd_l M 18 = 3) ∧ ((vd_k M 19 = 32) ∧ (vd_l M 19 = 3))) ∧ ((vd_k M 20 = 10) ∧ ((vd_k M 21 = 32) ∧ (vd_l M 21 = 6)))))) ∧ (((((vd_k M 22 = 32) ∧ (vd_l M 22 = 3)) ∧ ((vd_k M 23 = 32) ∧ ((vd_l M 23 = 7) ∧ (vd_k M 24 = 32)))) ∧ (((vd_l M 24 = 3) ∧ ((vd_k M 25 = 32) ∧ (vd_l M 25 = 32))) ∧ ((vd_k M 26 = 32) ∧ ((vd_l M 26 = 32) ∧ (vd_k M 27 = 10))))) ∧ ((((vd_k M 28 = 32) ∧ (vd_l M 28 = 6)) ∧ ((vd_k M 29 = 32) ∧ ((vd_l M 29 = 3) ∧ (vd_k M 30 = 32)))) ∧ (((vd_l M 30 = 7) ∧ ((vd_k M 31 = 32) ∧ (vd_l M 31 = 3))) ∧ ((vd_k M 32 = 32) ∧ ((vd_l M 32 = 32) ∧ (vd_k M 33 = 32))))))) ∧ ((((((vd_l M 33 = 32) ∧ (vd_k M 34 = 2)) ∧ ((vd_k M 35 = 32) ∧ ((vd_l M 35 = 2941) ∧ (vd_k M 36 = 32)))) ∧ (((vd_l M 36 = 5882) ∧ (vd_k M 37 = 4)) ∧ ((vd_k M 42 = 32) ∧ ((vd_l M 42 = 576) ∧ (vd_k M 43 = 33))))) ∧ ((((vd_l M 43 = 6912) ∧ (vd_k M 44 = 1)) ∧ ((vd_k M 45 = 9) ∧ ((vd_k M 46 = 32) ∧ (vd_l M 46 = 1520)))) ∧ (((vd_k M 47 = 32) ∧ ((vd_l M 47 = 1024) ∧ (vd_k M 48 = 32))) ∧ ((vd_l M 48 = 1024) ∧ ((vd_k M 49 = 32) ∧ (vd_l M 49 = 1024)))))) ∧ (((((vd_k M 50 = 32) ∧ (vd_l M 50 = 1024)) ∧ ((vd_k M 51 = 32) ∧ ((vd_l M 51 = 4) ∧ (vd_k M 52 = 11)))) ∧ (((vd_k M 53 = 32) ∧ ((vd_l M 53 = 129) ∧ (vd_k M 54 = 6))) ∧ ((vd_k M 55 = 36) ∧ ((vd_l M 55 = 3) ∧ (vd_k M 56 = 32))))) ∧ ((((vd_l M 56 = 4) ∧ (vd_k M 57 = 32)) ∧ ((vd_l M 57 = 256) ∧ ((vd_k M 58 = 32) ∧ (vd_l M 58 = 72)))) ∧ (((vd_k M 59 = 32) ∧ ((vd_l M 59 = 4608) ∧ (vd_k M 60 = 3))) ∧ ((vd_k M 61 = 32) ∧ ((vd_l M 61 = 576) ∧ (vd_k M 62 = 32)))))))) ∧ (((((((vd_l M 62 = 16) ∧ (vd_r M 10 0 = some 11)) ∧ ((vd_r M 10 7 = some 12) ∧ ((vd_r M 10 8 = some 13) ∧ (vd_r M 10 10 = some 14)))) ∧ (((vd_r M 10 11 = some 15) ∧ (vd_r M 10 12 = some 16)) ∧ ((vd_r M 10 13 = some 17) ∧ ((vd_r M 10 14 = some 20) ∧ (vd_r M 10 15 = some 27))))) ∧ ((((vd_r M 10 16 = some 34) ∧ (vd_r M 10 17 = some 37)) ∧ ((vd_r M 10 18 = some 44) ∧ ((vd_r M 10 19 = some 60) ∧ (vd_r M 16 0 = some 11)))) ∧ (((vd_r M 17 8 = some 18) ∧ ((vd_r M 17 9 = some 19) ∧ (vd_r M 20 3 = some 21))) ∧ ((vd_r M 20 5 = some 22) ∧ ((vd_r M 20 9 = some 23) ∧ (vd_r M 20 10 = some 24)))))) ∧ (((((vd_r M 20 12 = some 25) ∧ (vd_r M 20 13 = some 26)) ∧ ((vd_r M 27 3 = some 28) ∧ ((vd_r M 27 5 = some 29) ∧ (vd_r M 27 9 = some 30)))) ∧ (((vd_r M 27 10 = some 31) ∧ ((vd_r M 27 12 = some 32) ∧ (vd_r M 27 13 = some 33))) ∧ ((vd_r M 34 0 = some 11) ∧ ((vd_r M 34 1 = some 35) ∧ (vd_r M 34 2 = some 36))))) ∧ ((((vd_r M 37 11 = some 42) ∧ (vd_r M 37 12 = some 43)) ∧ ((vd_r M 44 0 = some 34) ∧ ((vd_r M 44 1 = some 17) ∧ (vd_r M 44 2 = some 20)))) ∧ (((vd_r M 44 3 = some 37) ∧ ((vd_r M 44 4 = some 45) ∧ (vd_r M 44 5 = some 52))) ∧ ((vd_r M 44 6 = some 54) ∧ ((vd_r M 45 0 = some 34) ∧ (vd_r M 45 1 = some 20))))))) ∧ ((((((vd_r M 45 2 = some 37) ∧ (vd_r M 45 4 = some 46)) ∧ ((vd_r M 45 5 = some 47) ∧ ((vd_r M 45 6 = some 48) ∧ (vd_r M 45 7 = some 49)))) ∧ (((vd_r M 45 8 = some 50) ∧ (vd_r M 45 9 = some 51)) ∧ ((vd_r M 52 0 = some 37) ∧ ((vd_r M 52 1 = some 53) ∧ (vd_r M 54 0 = some 17))))) ∧ ((((vd_r M 54 1 = some 37) ∧ (vd_r M 54 2 = some 55)) ∧ ((vd_r M 54 3 = some 56) ∧ ((vd_r M 54 5 = some 57) ∧ (vd_r M 54 6 = some 58)))) ∧ (((vd_r M 54 7 = some 59) ∧ ((vd_r M 60 0 = some 20) ∧ (vd_r M 60 1 = some 37))) ∧ ((vd_r M 60 3 = some 61) ∧ ((vd_r M 60 4 = some 62) ∧ (vd_r M 37 7 = some ow)))))) ∧ (((((vd_k M ow = 32) ∧ (vd_l M ow = 576)) ∧ ((vd_r M 37 8 = some fa) ∧ ((vd_k M fa = 32) ∧ (vd_l M fa = 10368)))) ∧ (((vd_r M 37 9 = some lo) ∧ ((vd_k M lo = 32) ∧ (vd_l M lo = 576))) ∧ ((vd_r M 37 10 = some lf) ∧ ((vd_k M lf = 32) ∧ (vd_l M lf = 10368))))) ∧ (((((ow = 38 ∧ fa = 39 ∧ lo = 40 ∧ lf = 41) ∨ (ow = 40 ∧ fa = 41 ∧ lo = 38 ∧ lf = 39)) ∧ (vd_k M 0 = 32)) ∧ ((vd_l M 0 = 33) ∧ ((vd_k M 1 = 32) ∧ (vd_l M 1 = 16)))) ∧ (((vd_k M 2 = 32) ∧ ((vd_l M 2 = 21) ∧ (vd_k M 3 = 32))) ∧ ((vd_l M 3 = 11) ∧ ((vd_k M 4 = 32) ∧ (vd_l M 4 = 72)))))))))
section vd_SC_P
variable {M : vd_M} {ow fa lo lf : Nat}
theorem vd_SC.k9 (h : vd_SC M ow fa lo lf) : vd_k M 9 = 32 := h.1.1.1.1.1.1.1
theorem vd_SC.k10 (h : vd_SC M ow fa lo lf) : vd_k M 10 = 0 := h.1.1.1.1.1.1.2
theorem vd_SC.k11 (h : vd_SC M ow fa lo lf) : vd_k M 11 = 33 := h.1.1.1.1.1.2.1
theorem vd_SC.l11 (h : vd_SC M ow fa lo lf) : vd_l M 11 = 65536 := h.1.1.1.1.1.2.2.1
theorem vd_SC.k12 (h : vd_SC M ow fa lo lf) : vd_k M 12 = 36 := h.1.1.1.1.1.2.2.2
theorem vd_SC.l12 (h : vd_SC M ow fa lo lf) : vd_l M 12 = 10 := h.1.1.1.1.2.1.1
theorem vd_SC.k13 (h : vd_SC M ow fa lo lf) : vd_k M 13 = 36 := h.1.1.1.1.2.1.2
theorem vd_SC.l13 (h : vd_SC M ow fa lo lf) : vd_l M 13 = 8 := h.1.1.1.1.2.2.1
theorem vd_SC.k14 (h : vd_SC M ow fa lo lf) : vd_k M 14 = 32 := h.1.1.1.1.2.2.2.1
theorem vd_SC.l14 (h : vd_SC M ow fa lo lf) : vd_l M 14 = 11764 := h.1.1.1.1.2.2.2.2
theorem vd_SC.k15 (h : vd_SC M ow fa lo lf) : vd_k M 15 = 32 := h.1.1.1.2.1.1.1
theorem vd_SC.l15 (h : vd_SC M ow fa lo lf) : vd_l M 15 = 256 := h.1.1.1.2.1.1.2
theorem vd_SC.k16 (h : vd_SC M ow fa lo lf) : vd_k M 16 = 8 := h.1.1.1.2.1.2.1
theorem vd_SC.k17 (h : vd_SC M ow fa lo lf) : vd_k M 17 = 5 := h.1.1.1.2.1.2.2.1
theorem vd_SC.k18 (h : vd_SC M ow fa lo lf) : vd_k M 18 = 32 := h.1.1.1.2.1.2.2.2
theorem vd_SC.l18 (h : vd_SC M ow fa lo lf) : vd_l M 18 = 3 := h.1.1.1.2.2.1.1
theorem vd_SC.k19 (h : vd_SC M ow fa lo lf) : vd_k M 19 = 32 := h.1.1.1.2.2.1.2.1
theorem vd_SC.l19 (h : vd_SC M ow fa lo lf) : vd_l M 19 = 3 := h.1.1.1.2.2.1.2.2
theorem vd_SC.k20 (h : vd_SC M ow fa lo lf) : vd_k M 20 = 10 := h.1.1.1.2.2.2.1
theorem vd_SC.k21 (h : vd_SC M ow fa lo lf) : vd_k M 21 = 32 := h.1.1.1.2.2.2.2.1
theorem vd_SC.l21 (h : vd_SC M ow fa lo lf) : vd_l M 21 = 6 := h.1.1.1.2.2.2.2.2
theorem vd_SC.k22 (h : vd_SC M ow fa lo lf) : vd_k M 22 = 32 := h.1.1.2.1.1.1.1
theorem vd_SC.l22 (h : vd_SC M ow fa lo lf) : vd_l M 22 = 3 := h.1.1.2.1.1.1.2
theorem vd_SC.k23 (h : vd_SC M ow fa lo lf) : vd_k M 23 = 32 := h.1.1.2.1.1.2.1
theorem vd_SC.l23 (h : vd_SC M ow fa lo lf) : vd_l M 23 = 7 := h.1.1.2.1.1.2.2.1
theorem vd_SC.k24 (h : vd_SC M ow fa lo lf) : vd_k M 24 = 32 := h.1.1.2.1.1.2.2.2
theorem vd_SC.l24 (h : vd_SC M ow fa lo lf) : vd_l M 24 = 3 := h.1.1.2.1.2.1.1
theorem vd_SC.k25 (h : vd_SC M ow fa lo lf) : vd_k M 25 = 32 := h.1.1.2.1.2.1.2.1
theorem vd_SC.l25 (h : vd_SC M ow fa lo lf) : vd_l M 25 = 32 := h.1.1.2.1.2.1.2.2
theorem vd_SC.k26 (h : vd_SC M ow fa lo lf) : vd_k M 26 = 32 := h.1.1.2.1.2.2.1
theorem vd_SC.l26 (h : vd_SC M ow fa lo lf) : vd_l M 26 = 32 := h.1.1.2.1.2.2.2.1
theorem vd_SC.k27 (h : vd_SC M ow fa lo lf) : vd_k M 27 = 10 := h.1.1.2.1.2.2.2.2
theorem vd_SC.k28 (h : vd_SC M ow fa lo lf) : vd_k M 28 = 32 := h.1.1.2.2.1.1.1
theorem vd_SC.l28 (h : vd_SC M ow fa lo lf) : vd_l M 28 = 6 := h.1.1.2.2.1.1.2
theorem vd_SC.k29 (h : vd_SC M ow fa lo lf) : vd_k M 29 = 32 := h.1.1.2.2.1.2.1
theorem vd_SC.l29 (h : vd_SC M ow fa lo lf) : vd_l M 29 = 3 := h.1.1.2.2.1.2.2.1
theorem vd_SC.k30 (h : vd_SC M ow fa lo lf) : vd_k M 30 = 32 := h.1.1.2.2.1.2.2.2
theorem vd_SC.l30 (h : vd_SC M ow fa lo lf) : vd_l M 30 = 7 := h.1.1.2.2.2.1.1
theorem vd_SC.k31 (h : vd_SC M ow fa lo lf) : vd_k M 31 = 32 := h.1.1.2.2.2.1.2.1
theorem vd_SC.l31 (h : vd_SC M ow fa lo lf) : vd_l M 31 = 3 := h.1.1.2.2.2.1.2.2
theorem vd_SC.k32 (h : vd_SC M ow fa lo lf) : vd_k M 32 = 32 := h.1.1.2.2.2.2.1
theorem vd_SC.l32 (h : vd_SC M ow fa lo lf) : vd_l M 32 = 32 := h.1.1.2.2.2.2.2.1
theorem vd_SC.k33 (h : vd_SC M ow fa lo lf) : vd_k M 33 = 32 := h.1.1.2.2.2.2.2.2
theorem vd_SC.l33 (h : vd_SC M ow fa lo lf) : vd_l M 33 = 32 := h.1.2.1.1.1.1.1
theorem vd_SC.k34 (h : vd_SC M ow fa lo lf) : vd_k M 34 = 2 := h.1.2.1.1.1.1.2
theorem vd_SC.k35 (h : vd_SC M ow fa lo lf) : vd_k M 35 = 32 := h.1.2.1.1.1.2.1
theorem vd_SC.l35 (h : vd_SC M ow fa lo lf) : vd_l M 35 = 2941 := h.1.2.1.1.1.2.2.1
theorem vd_SC.k36 (h : vd_SC M ow fa lo lf) : vd_k M 36 = 32 := h.1.2.1.1.1.2.2.2
theorem vd_SC.l36 (h : vd_SC M ow fa lo lf) : vd_l M 36 = 5882 := h.1.2.1.1.2.1.1
theorem vd_SC.k37 (h : vd_SC M ow fa lo lf) : vd_k M 37 = 4 := h.1.2.1.1.2.1.2
theorem vd_SC.k42 (h : vd_SC M ow fa lo lf) : vd_k M 42 = 32 := h.1.2.1.1.2.2.1
theorem vd_SC.l42 (h : vd_SC M ow fa lo lf) : vd_l M 42 = 576 := h.1.2.1.1.2.2.2.1
theorem vd_SC.k43 (h : vd_SC M ow fa lo lf) : vd_k M 43 = 33 := h.1.2.1.1.2.2.2.2
theorem vd_SC.l43 (h : vd_SC M ow fa lo lf) : vd_l M 43 = 6912 := h.1.2.1.2.1.1.1
theorem vd_SC.k44 (h : vd_SC M ow fa lo lf) : vd_k M 44 = 1 := h.1.2.1.2.1.1.2
theorem vd_SC.k45 (h : vd_SC M ow fa lo lf) : vd_k M 45 = 9 := h.1.2.1.2.1.2.1
theorem vd_SC.k46 (h : vd_SC M ow fa lo lf) : vd_k M 46 = 32 := h.1.2.1.2.1.2.2.1
theorem vd_SC.l46 (h : vd_SC M ow fa lo lf) : vd_l M 46 = 1520 := h.1.2.1.2.1.2.2.2
theorem vd_SC.k47 (h : vd_SC M ow fa lo lf) : vd_k M 47 = 32 := h.1.2.1.2.2.1.1
theorem vd_SC.l47 (h : vd_SC M ow fa lo lf) : vd_l M 47 = 1024 := h.1.2.1.2.2.1.2.1
theorem vd_SC.k48 (h : vd_SC M ow fa lo lf) : vd_k M 48 = 32 := h.1.2.1.2.2.1.2.2
theorem vd_SC.l48 (h : vd_SC M ow fa lo lf) : vd_l M 48 = 1024 := h.1.2.1.2.2.2.1
theorem vd_SC.k49 (h : vd_SC M ow fa lo lf) : vd_k M 49 = 32 := h.1.2.1.2.2.2.2.1
theorem vd_SC.l49 (h : vd_SC M ow fa lo lf) : vd_l M 49 = 1024 := h.1.2.1.2.2.2.2.2
theorem vd_SC.k50 (h : vd_SC M ow fa lo lf) : vd_k M 50 = 32 := h.1.2.2.1.1.1.1
theorem vd_SC.l50 (h : vd_SC M ow fa lo lf) : vd_l M 50 = 1024 := h.1.2.2.1.1.1.2
theorem vd_SC.k51 (h : vd_SC M ow fa lo lf) : vd_k M 51 = 32 := h.1.2.2.1.1.2.1
theorem vd_SC.l51 (h : vd_SC M ow fa lo lf) : vd_l M 51 = 4 := h.1.2.2.1.1.2.2.1
theorem vd_SC.k52 (h : vd_SC M ow fa lo lf) : vd_k M 52 = 11 := h.1.2.2.1.1.2.2.2
theorem vd_SC.k53 (h : vd_SC M ow fa lo lf) : vd_k M 53 = 32 := h.1.2.2.1.2.1.1
theorem vd_SC.l53 (h : vd_SC M ow fa lo lf) : vd_l M 53 = 129 := h.1.2.2.1.2.1.2.1
theorem vd_SC.k54 (h : vd_SC M ow fa lo lf) : vd_k M 54 = 6 := h.1.2.2.1.2.1.2.2
theorem vd_SC.k55 (h : vd_SC M ow fa lo lf) : vd_k M 55 = 36 := h.1.2.2.1.2.2.1
theorem vd_SC.l55 (h : vd_SC M ow fa lo lf) : vd_l M 55 = 3 := h.1.2.2.1.2.2.2.1
theorem vd_SC.k56 (h : vd_SC M ow fa lo lf) : vd_k M 56 = 32 := h.1.2.2.1.2.2.2.2
theorem vd_SC.l56 (h : vd_SC M ow fa lo lf) : vd_l M 56 = 4 := h.1.2.2.2.1.1.1
theorem vd_SC.k57 (h : vd_SC M ow fa lo lf) : vd_k M 57 = 32 := h.1.2.2.2.1.1.2
theorem vd_SC.l57 (h : vd_SC M ow fa lo lf) : vd_l M 57 = 256 := h.1.2.2.2.1.2.1
theorem vd_SC.k58 (h : vd_SC M ow fa lo lf) : vd_k M 58 = 32 := h.1.2.2.2.1.2.2.1
theorem vd_SC.l58 (h : vd_SC M ow fa lo lf) : vd_l M 58 = 72 := h.1.2.2.2.1.2.2.2
theorem vd_SC.k59 (h : vd_SC M ow fa lo lf) : vd_k M 59 = 32 := h.1.2.2.2.2.1.1
theorem vd_SC.l59 (h : vd_SC M ow fa lo lf) : vd_l M 59 = 4608 := h.1.2.2.2.2.1.2.1
theorem vd_SC.k60 (h : vd_SC M ow fa lo lf) : vd_k M 60 = 3 := h.1.2.2.2.2.1.2.2
theorem vd_SC.k61 (h : vd_SC M ow fa lo lf) : vd_k M 61 = 32 := h.1.2.2.2.2.2.1
theorem vd_SC.l61 (h : vd_SC M ow fa lo lf) : vd_l M 61 = 576 := h.1.2.2.2.2.2.2.1
theorem vd_SC.k62 (h : vd_SC M ow fa lo lf) : vd_k M 62 = 32 := h.1.2.2.2.2.2.2.2
theorem vd_SC.l62 (h : vd_SC M ow fa lo lf) : vd_l M 62 = 16 := h.2.1.1.1.1.1.1
theorem vd_SC.r10_0 (h : vd_SC M ow fa lo lf) : vd_r M 10 0 = some 11 := h.2.1.1.1.1.1.2
theorem vd_SC.r10_7 (h : vd_SC M ow fa lo lf) : vd_r M 10 7 = some 12 := h.2.1.1.1.1.2.1
theorem vd_SC.r10_8 (h : vd_SC M ow fa lo lf) : vd_r M 10 8 = some 13 := h.2.1.1.1.1.2.2.1
theorem vd_SC.r10_10 (h : vd_SC M ow fa lo lf) : vd_r M 10 10 = some 14 := h.2.1.1.1.1.2.2.2
theorem vd_SC.r10_11 (h : vd_SC M ow fa lo lf) : vd_r M 10 11 = some 15 := h.2.1.1.1.2.1.1
theorem vd_SC.r10_12 (h : vd_SC M ow fa lo lf) : vd_r M 10 12 = some 16 := h.2.1.1.1.2.1.2
theorem vd_SC.r10_13 (h : vd_SC M ow fa lo lf) : vd_r M 10 13 = some 17 := h.2.1.1.1.2.2.1
theorem vd_SC.r10_14 (h : vd_SC M ow fa lo lf) : vd_r M 10 14 = some 20 := h.2.1.1.1.2.2.2.1
theorem vd_SC.r10_15 (h : vd_SC M ow fa lo lf) : vd_r M 10 15 = some 27 := h.2.1.1.1.2.2.2.2
theorem vd_SC.r10_16 (h : vd_SC M ow fa lo lf) : vd_r M 10 16 = some 34 := h.2.1.1.2.1.1.1
theorem vd_SC.r10_17 (h : vd_SC M ow fa lo lf) : vd_r M 10 17 = some 37 := h.2.1.1.2.1.1.2
theorem vd_SC.r10_18 (h : vd_SC M ow fa lo lf) : vd_r M 10 18 = some 44 := h.2.1.1.2.1.2.1
theorem vd_SC.r10_19 (h : vd_SC M ow fa lo lf) : vd_r M 10 19 = some 60 := h.2.1.1.2.1.2.2.1
theorem vd_SC.r16_0 (h : vd_SC M ow fa lo lf) : vd_r M 16 0 = some 11 := h.2.1.1.2.1.2.2.2
theorem vd_SC.r17_8 (h : vd_SC M ow fa lo lf) : vd_r M 17 8 = some 18 := h.2.1.1.2.2.1.1
theorem vd_SC.r17_9 (h : vd_SC M ow fa lo lf) : vd_r M 17 9 = some 19 := h.2.1.1.2.2.1.2.1
theorem vd_SC.r20_3 (h : vd_SC M ow fa lo lf) : vd_r M 20 3 = some 21 := h.2.1.1.2.2.1.2.2
theorem vd_SC.r20_5 (h : vd_SC M ow fa lo lf) : vd_r M 20 5 = some 22 := h.2.1.1.2.2.2.1
theorem vd_SC.r20_9 (h : vd_SC M ow fa lo lf) : vd_r M 20 9 = some 23 := h.2.1.1.2.2.2.2.1
theorem vd_SC.r20_10 (h : vd_SC M ow fa lo lf) : vd_r M 20 10 = some 24 := h.2.1.1.2.2.2.2.2
theorem vd_SC.r20_12 (h : vd_SC M ow fa lo lf) : vd_r M 20 12 = some 25 := h.2.1.2.1.1.1.1
theorem vd_SC.r20_13 (h : vd_SC M ow fa lo lf) : vd_r M 20 13 = some 26 := h.2.1.2.1.1.1.2
theorem vd_SC.r27_3 (h : vd_SC M ow fa lo lf) : vd_r M 27 3 = some 28 := h.2.1.2.1.1.2.1
theorem vd_SC.r27_5 (h : vd_SC M ow fa lo lf) : vd_r M 27 5 = some 29 := h.2.1.2.1.1.2.2.1
theorem vd_SC.r27_9 (h : vd_SC M ow fa lo lf) : vd_r M 27 9 = some 30 := h.2.1.2.1.1.2.2.2
theorem vd_SC.r27_10 (h : vd_SC M ow fa lo lf) : vd_r M 27 10 = some 31 := h.2.1.2.1.2.1.1
theorem vd_SC.r27_12 (h : vd_SC M ow fa lo lf) : vd_r M 27 12 = some 32 := h.2.1.2.1.2.1.2.1
theorem vd_SC.r27_13 (h : vd_SC M ow fa lo lf) : vd_r M 27 13 = some 33 := h.2.1.2.1.2.1.2.2
theorem vd_SC.r34_0 (h : vd_SC M ow fa lo lf) : vd_r M 34 0 = some 11 := h.2.1.2.1.2.2.1
theorem vd_SC.r34_1 (h : vd_SC M ow fa lo lf) : vd_r M 34 1 = some 35 := h.2.1.2.1.2.2.2.1
theorem vd_SC.r34_2 (h : vd_SC M ow fa lo lf) : vd_r M 34 2 = some 36 := h.2.1.2.1.2.2.2.2
theorem vd_SC.r37_11 (h : vd_SC M ow fa lo lf) : vd_r M 37 11 = some 42 := h.2.1.2.2.1.1.1
theorem vd_SC.r37_12 (h : vd_SC M ow fa lo lf) : vd_r M 37 12 = some 43 := h.2.1.2.2.1.1.2
theorem vd_SC.r44_0 (h : vd_SC M ow fa lo lf) : vd_r M 44 0 = some 34 := h.2.1.2.2.1.2.1
theorem vd_SC.r44_1 (h : vd_SC M ow fa lo lf) : vd_r M 44 1 = some 17 := h.2.1.2.2.1.2.2.1
theorem vd_SC.r44_2 (h : vd_SC M ow fa lo lf) : vd_r M 44 2 = some 20 := h.2.1.2.2.1.2.2.2
theorem vd_SC.r44_3 (h : vd_SC M ow fa lo lf) : vd_r M 44 3 = some 37 := h.2.1.2.2.2.1.1
theorem vd_SC.r44_4 (h : vd_SC M ow fa lo lf) : vd_r M 44 4 = some 45 := h.2.1.2.2.2.1.2.1
theorem vd_SC.r44_5 (h : vd_SC M ow fa lo lf) : vd_r M 44 5 = some 52 := h.2.1.2.2.2.1.2.2
theorem vd_SC.r44_6 (h : vd_SC M ow fa lo lf) : vd_r M 44 6 = some 54 := h.2.1.2.2.2.2.1
theorem vd_SC.r45_0 (h : vd_SC M ow fa lo lf) : vd_r M 45 0 = some 34 := h.2.1.2.2.2.2.2.1
theorem vd_SC.r45_1 (h : vd_SC M ow fa lo lf) : vd_r M 45 1 = some 20 := h.2.1.2.2.2.2.2.2
theorem vd_SC.r45_2 (h : vd_SC M ow fa lo lf) : vd_r M 45 2 = some 37 := h.2.2.1.1.1.1.1
theorem vd_SC.r45_4 (h : vd_SC M ow fa lo lf) : vd_r M 45 4 = some 46 := h.2.2.1.1.1.1.2
theorem vd_SC.r45_5 (h : vd_SC M ow fa lo lf) : vd_r M 45 5 = some 47 := h.2.2.1.1.1.2.1
theorem vd_SC.r45_6 (h : vd_SC M ow fa lo lf) : vd_r M 45 6 = some 48 := h.2.2.1.1.1.2.2.1
theorem vd_SC.r45_7 (h : vd_SC M ow fa lo lf) : vd_r M 45 7 = some 49 := h.2.2.1.1.1.2.2.2
theorem vd_SC.r45_8 (h : vd_SC M ow fa lo lf) : vd_r M 45 8 = some 50 := h.2.2.1.1.2.1.1
theorem vd_SC.r45_9 (h : vd_SC M ow fa lo lf) : vd_r M 45 9 = some 51 := h.2.2.1.1.2.1.2
theorem vd_SC.r52_0 (h : vd_SC M ow fa lo lf) : vd_r M 52 0 = some 37 := h.2.2.1.1.2.2.1
theorem vd_SC.r52_1 (h : vd_SC M ow fa lo lf) : vd_r M 52 1 = some 53 := h.2.2.1.1.2.2.2.1
theorem vd_SC.r54_0 (h : vd_SC M ow fa lo lf) : vd_r M 54 0 = some 17 := h.2.2.1.1.2.2.2.2
theorem vd_SC.r54_1 (h : vd_SC M ow fa lo lf) : vd_r M 54 1 = some 37 := h.2.2.1.2.1.1.1
theorem vd_SC.r54_2 (h : vd_SC M ow fa lo lf) : vd_r M 54 2 = some 55 := h.2.2.1.2.1.1.2
theorem vd_SC.r54_3 (h : vd_SC M ow fa lo lf) : vd_r M 54 3 = some 56 := h.2.2.1.2.1.2.1
theorem vd_SC.r54_5 (h : vd_SC M ow fa lo lf) : vd_r M 54 5 = some 57 := h.2.2.1.2.1.2.2.1
theorem vd_SC.r54_6 (h : vd_SC M ow fa lo lf) : vd_r M 54 6 = some 58 := h.2.2.1.2.1.2.2.2
theorem vd_SC.r54_7 (h : vd_SC M ow fa lo lf) : vd_r M 54 7 = some 59 := h.2.2.1.2.2.1.1
theorem vd_SC.r60_0 (h : vd_SC M ow fa lo lf) : vd_r M 60 0 = some 20 := h.2.2.1.2.2.1.2.1
theorem vd_SC.r60_1 (h : vd_SC M ow fa lo lf) : vd_r M 60 1 = some 37 := h.2.2.1.2.2.1.2.2
theorem vd_SC.r60_3 (h : vd_SC M ow fa lo lf) : vd_r M 60 3 = some 61 := h.2.2.1.2.2.2.1
theorem vd_SC.r60_4 (h : vd_SC M ow fa lo lf) : vd_r M 60 4 = some 62 := h.2.2.1.2.2.2.2.1
theorem vd_SC.r37_7 (h : vd_SC M ow fa lo lf) : vd_r M 37 7 = some ow := h.2.2.1.2.2.2.2.2
theorem vd_SC.kow (h : vd_SC M ow fa lo lf) : vd_k M ow = 32 := h.2.2.2.1.1.1.1
theorem vd_SC.low (h : vd_SC M ow fa lo lf) : vd_l M ow = 576 := h.2.2.2.1.1.1.2
theorem vd_SC.r37_8 (h : vd_SC M ow fa lo lf) : vd_r M 37 8 = some fa := h.2.2.2.1.1.2.1
theorem vd_SC.kfa (h : vd_SC M ow fa lo lf) : vd_k M fa = 32 := h.2.2.2.1.1.2.2.1
theorem vd_SC.lfa (h : vd_SC M ow fa lo lf) : vd_l M fa = 10368 := h.2.2.2.1.1.2.2.2
theorem vd_SC.r37_9 (h : vd_SC M ow fa lo lf) : vd_r M 37 9 = some lo := h.2.2.2.1.2.1.1
theorem vd_SC.klo (h : vd_SC M ow fa lo lf) : vd_k M lo = 32 := h.2.2.2.1.2.1.2.1
theorem vd_SC.llo (h : vd_SC M ow fa lo lf) : vd_l M lo = 576 := h.2.2.2.1.2.1.2.2
theorem vd_SC.r37_10 (h : vd_SC M ow fa lo lf) : vd_r M 37 10 = some lf := h.2.2.2.1.2.2.1
theorem vd_SC.klf (h : vd_SC M ow fa lo lf) : vd_k M lf = 32 := h.2.2.2.1.2.2.2.1
theorem vd_SC.llf (h : vd_SC M ow fa lo lf) : vd_l M lf = 10368 := h.2.2.2.1.2.2.2.2
theorem vd_SC.par (h : vd_SC M ow fa lo lf) : (ow = 38 ∧ fa = 39 ∧ lo = 40 ∧ lf = 41) ∨ (ow = 40 ∧ fa = 41 ∧ lo = 38 ∧ lf = 39) := h.2.2.2.2.1.1.1
theorem vd_SC.k0 (h : vd_SC M ow fa lo lf) : vd_k M 0 = 32 := h.2.2.2.2.1.1.2
theorem vd_SC.l0 (h : vd_SC M ow fa lo lf) : vd_l M 0 = 33 := h.2.2.2.2.1.2.1
theorem vd_SC.k1 (h : vd_SC M ow fa lo lf) : vd_k M 1 = 32 := h.2.2.2.2.1.2.2.1
theorem vd_SC.l1 (h : vd_SC M ow fa lo lf) : vd_l M 1 = 16 := h.2.2.2.2.1.2.2.2
theorem vd_SC.k2 (h : vd_SC M ow fa lo lf) : vd_k M 2 = 32 := h.2.2.2.2.2.1.1
theorem vd_SC.l2 (h : vd_SC M ow fa lo lf) : vd_l M 2 = 21 := h.2.2.2.2.2.1.2.1
theorem vd_SC.k3 (h : vd_SC M ow fa lo lf) : vd_k M 3 = 32 := h.2.2.2.2.2.1.2.2
theorem vd_SC.l3 (h : vd_SC M ow fa lo lf) : vd_l M 3 = 11 := h.2.2.2.2.2.2.1
theorem vd_SC.k4 (h : vd_SC M ow fa lo lf) : vd_k M 4 = 32 := h.2.2.2.2.2.2.2.1
theorem vd_SC.l4 (h : vd_SC M ow fa lo lf) : vd_l M 4 = 72 := h.2.2.2.2.2.2.2.2
end vd_SC_P
def vd_SR (M : vd_M) : Prop := (((((((((vd_k M 63 = 12) ∧ ((vd_k M 64 = 33) ∧ (vd_l M 64 = 65536))) ∧ ((vd_k M 65 = 37) ∧ ((vd_l M 65 = 11) ∧ (vd_k M 66 = 37)))) ∧ (((vd_l M 66 = 8) ∧ ((vd_k M 67 = 38) ∧ (vd_l M 67 = 4))) ∧ ((vd_k M 68 = 32) ∧ ((vd_l M 68 = 2941) ∧ (vd_k M 69 = 32))))) ∧ ((((vd_l M 69 = 2941) ∧ ((vd_k M 70 = 32) ∧ (vd_l M 70 = 2941))) ∧ ((vd_k M 71 = 32) ∧ ((vd_l M 71 = 2941) ∧ (vd_k M 72 = 32)))) ∧ (((vd_l M 72 = 576) ∧ ((vd_k M 73 = 32) ∧ (vd_l M 73 = 6))) ∧ ((vd_k M 74 = 34) ∧ ((vd_l M 74 = 32) ∧ (vd_k M 75 = 32)))))) ∧ (((((vd_l M 75 = 32) ∧ ((vd_k M 76 = 32) ∧ (vd_l M 76 = 1152))) ∧ ((vd_k M 77 = 32) ∧ ((vd_l M 77 = 1152) ∧ (vd_k M 78 = 32)))) ∧ (((vd_l M 78 = 1152) ∧ ((vd_k M 79 = 32) ∧ (vd_l M 79 = 5))) ∧ ((vd_k M 80 = 32) ∧ ((vd_l M 80 = 2941) ∧ (vd_k M 81 = 32))))) ∧ ((((vd_l M 81 = 2941) ∧ ((vd_k M 82 = 32) ∧ (vd_l M 82 = 2941))) ∧ ((vd_k M 83 = 37) ∧ ((vd_l M 83 = 3) ∧ (vd_k M 84 = 32)))) ∧ (((vd_l M 84 = 3) ∧ ((vd_k M 85 = 32) ∧ (vd_l M 85 = 3))) ∧ (((vd_k M 86 = 32) ∧ (vd_l M 86 = 7)) ∧ ((vd_k M 87 = 32) ∧ (vd_l M 87 = 3))))))) ∧ ((((((vd_k M 88 = 34) ∧ ((vd_l M 88 = 576) ∧ (vd_k M 89 = 34))) ∧ ((vd_l M 89 = 576) ∧ ((vd_k M 90 = 34) ∧ (vd_l M 90 = 576)))) ∧ (((vd_k M 91 = 34) ∧ ((vd_l M 91 = 576) ∧ (vd_k M 92 = 32))) ∧ ((vd_l M 92 = 576) ∧ ((vd_k M 93 = 32) ∧ (vd_l M 93 = 576))))) ∧ ((((vd_k M 94 = 32) ∧ ((vd_l M 94 = 576) ∧ (vd_k M 95 = 32))) ∧ ((vd_l M 95 = 576) ∧ ((vd_k M 96 = 32) ∧ (vd_l M 96 = 576)))) ∧ (((vd_k M 97 = 32) ∧ ((vd_l M 97 = 576) ∧ (vd_k M 98 = 32))) ∧ ((vd_l M 98 = 576) ∧ ((vd_k M 99 = 32) ∧ (vd_l M 99 = 576)))))) ∧ (((((vd_k M 100 = 32) ∧ ((vd_l M 100 = 576) ∧ (vd_k M 101 = 32))) ∧ ((vd_l M 101 = 576) ∧ ((vd_k M 102 = 32) ∧ (vd_l M 102 = 1152)))) ∧ (((vd_k M 103 = 32) ∧ ((vd_l M 103 = 1152) ∧ (vd_k M 104 = 32))) ∧ ((vd_l M 104 = 1152) ∧ ((vd_k M 105 = 40) ∧ (vd_l M 105 = 3))))) ∧ ((((vd_k M 106 = 34) ∧ ((vd_l M 106 = 36864) ∧ (vd_k M 107 = 34))) ∧ ((vd_l M 107 = 9216) ∧ ((vd_k M 108 = 34) ∧ (vd_l M 108 = 9216)))) ∧ (((vd_k M 109 = 40) ∧ ((vd_l M 109 = 3) ∧ (vd_k M 110 = 34))) ∧ (((vd_l M 110 = 2304) ∧ (vd_k M 111 = 34)) ∧ ((vd_l M 111 = 576) ∧ (vd_k M 112 = 34)))))))) ∧ (((((((vd_l M 112 = 576) ∧ ((vd_k M 113 = 34) ∧ (vd_l M 113 = 6))) ∧ ((vd_k M 114 = 34) ∧ ((vd_l M 114 = 32) ∧ (vd_k M 115 = 32)))) ∧ (((vd_l M 115 = 6) ∧ ((vd_k M 116 = 32) ∧ (vd_l M 116 = 32))) ∧ ((vd_k M 117 = 32) ∧ ((vd_l M 117 = 2) ∧ (vd_k M 118 = 32))))) ∧ ((((vd_l M 118 = 2) ∧ ((vd_k M 119 = 32) ∧ (vd_l M 119 = 2))) ∧ ((vd_k M 120 = 32) ∧ ((vd_l M 120 = 2) ∧ (vd_k M 121 = 32)))) ∧ (((vd_l M 121 = 2) ∧ ((vd_k M 122 = 38) ∧ (vd_l M 122 = 12))) ∧ ((vd_k M 123 = 32) ∧ ((vd_l M 123 = 1024) ∧ (vd_k M 124 = 32)))))) ∧ (((((vd_l M 124 = 1024) ∧ ((vd_k M 125 = 32) ∧ (vd_l M 125 = 1024))) ∧ ((vd_k M 126 = 32) ∧ ((vd_l M 126 = 64) ∧ (vd_k M 127 = 32)))) ∧ (((vd_l M 127 = 32) ∧ ((vd_k M 128 = 32) ∧ (vd_l M 128 = 16))) ∧ ((vd_k M 129 = 13) ∧ ((vd_k M 130 = 39) ∧ (vd_l M 130 = 3))))) ∧ ((((vd_k M 131 = 33) ∧ ((vd_l M 131 = 36864) ∧ (vd_k M 132 = 33))) ∧ ((vd_l M 132 = 9216) ∧ ((vd_k M 133 = 33) ∧ (vd_l M 133 = 9216)))) ∧ (((vd_k M 134 = 13) ∧ ((vd_k M 135 = 39) ∧ (vd_l M 135 = 3))) ∧ (((vd_k M 136 = 33) ∧ (vd_l M 136 = 36864)) ∧ ((vd_k M 137 = 33) ∧ (vd_l M 137 = 9216))))))) ∧ ((((((vd_k M 138 = 33) ∧ ((vd_l M 138 = 9216) ∧ (vd_k M 139 = 13))) ∧ ((vd_k M 140 = 39) ∧ ((vd_l M 140 = 3) ∧ (vd_k M 141 = 33)))) ∧ (((vd_l M 141 = 36864) ∧ ((vd_k M 142 = 33) ∧ (vd_l M 142 = 9216))) ∧ ((vd_k M 143 = 33) ∧ ((vd_l M 143 = 9216) ∧ (vd_k M 144 = 13))))) ∧ ((((vd_k M 145 = 39) ∧ ((vd_l M 145 = 3) ∧ (vd_k M 146 = 33))) ∧ ((vd_l M 146 = 36864) ∧ ((vd_k M 147 = 33) ∧ (vd_l M 147 = 9216)))) ∧ (((vd_k M 148 = 33) ∧ ((vd_l M 148 = 9216) ∧ (vd_k M 149 = 13))) ∧ ((vd_k M 150 = 39) ∧ ((vd_l M 150 = 3) ∧ (vd_k M 151 = 33)))))) ∧ (((((vd_l M 151 = 36864) ∧ ((vd_k M 152 = 33) ∧ (vd_l M 152 = 9216))) ∧ ((vd_k M 153 = 33) ∧ ((vd_l M 153 = 9216) ∧ (vd_k M 154 = 13)))) ∧ (((vd_k M 155 = 39) ∧ ((vd_l M 155 = 3) ∧ (vd_k M 156 = 33))) ∧ ((vd_l M 156 = 36864) ∧ ((vd_k M 157 = 33) ∧ (vd_l M 157 = 9216))))) ∧ ((((vd_k M 158 = 33) ∧ ((vd_l M 158 = 9216) ∧ (vd_k M 159 = 13))) ∧ ((vd_k M 160 = 39) ∧ ((vd_l M 160 = 3) ∧ (vd_k M 161 = 33)))) ∧ (((vd_l M 161 = 36864) ∧ ((vd_k M 162 = 33) ∧ (vd_l M 162 = 9216))) ∧ (((vd_k M 163 = 33) ∧ (vd_l M 163 = 9216)) ∧ ((vd_k M 164 = 13) ∧ (vd_k M 165 = 39))))))))) ∧ ((((((((vd_l M 165 = 3) ∧ ((vd_k M 166 = 33) ∧ (vd_l M 166 = 36864))) ∧ ((vd_k M 167 = 33) ∧ ((vd_l M 167 = 9216) ∧ (vd_k M 168 = 33)))) ∧ (((vd_l M 168 = 9216) ∧ ((vd_k M 169 = 13) ∧ (vd_k M 170 = 39))) ∧ ((vd_l M 170 = 3) ∧ ((vd_k M 171 = 33) ∧ (vd_l M 171 = 36864))))) ∧ ((((vd_k M 172 = 33) ∧ ((vd_l M 172 = 9216) ∧ (vd_k M 173 = 33))) ∧ ((vd_l M 173 = 9216) ∧ ((vd_k M 174 = 13) ∧ (vd_k M 175 = 39)))) ∧ (((vd_l M 175 = 3) ∧ ((vd_k M 176 = 33) ∧ (vd_l M 176 = 36864))) ∧ ((vd_k M 177 = 33) ∧ ((vd_l M 177 = 9216) ∧ (vd_k M 178 = 33)))))) ∧ (((((vd_l M 178 = 9216) ∧ ((vd_k M 179 = 13) ∧ (vd_k M 180 = 39))) ∧ ((vd_l M 180 = 3) ∧ ((vd_k M 181 = 33) ∧ (vd_l M 181 = 36864)))) ∧ (((vd_k M 182 = 33) ∧ ((vd_l M 182 = 9216) ∧ (vd_k M 183 = 33))) ∧ ((vd_l M 183 = 9216) ∧ ((vd_k M 184 = 32) ∧ (vd_l M 184 = 16))))) ∧ ((((vd_k M 185 = 32) ∧ ((vd_l M 185 = 64) ∧ (vd_k M 186 = 32))) ∧ ((vd_l M 186 = 256) ∧ ((vd_k M 187 = 32) ∧ (vd_l M 187 = 1024)))) ∧ (((vd_k M 188 = 32) ∧ ((vd_l M 188 = 16) ∧ (vd_k M 189 = 32))) ∧ (((vd_l M 189 = 64) ∧ (vd_k M 190 = 32)) ∧ ((vd_l M 190 = 256) ∧ (vd_k M 191 = 32))))))) ∧ ((((((vd_l M 191 = 1024) ∧ ((vd_k M 192 = 32) ∧ (vd_l M 192 = 16))) ∧ ((vd_k M 193 = 32) ∧ ((vd_l M 193 = 64) ∧ (vd_k M 194 = 32)))) ∧ (((vd_l M 194 = 256) ∧ ((vd_k M 195 = 32) ∧ (vd_l M 195 = 1024))) ∧ ((vd_r M 63 0 = some 64) ∧ ((vd_r M 63 5 = some 65) ∧ (vd_r M 63 6 = some 66))))) ∧ ((((vd_r M 63 8 = some 67) ∧ ((vd_r M 63 9 = some 72) ∧ (vd_r M 63 10 = some 73))) ∧ ((vd_r M 63 11 = some 74) ∧ ((vd_r M 63 12 = some 75) ∧ (vd_r M 63 17 = some 76)))) ∧ (((vd_r M 63 18 = some 77) ∧ ((vd_r M 63 19 = some 78) ∧ (vd_r M 63 22 = some 79))) ∧ ((vd_r M 63 28 = some 80) ∧ ((vd_r M 63 29 = some 81) ∧ (vd_r M 63 30 = some 82)))))) ∧ (((((vd_r M 63 31 = some 83) ∧ ((vd_r M 63 32 = some 84) ∧ (vd_r M 63 49 = some 85))) ∧ ((vd_r M 63 50 = some 86) ∧ ((vd_r M 63 51 = some 87) ∧ (vd_r M 63 52 = some 88)))) ∧ (((vd_r M 63 53 = some 89) ∧ ((vd_r M 63 54 = some 90) ∧ (vd_r M 63 55 = some 91))) ∧ ((vd_r M 63 56 = some 92) ∧ ((vd_r M 63 57 = some 93) ∧ (vd_r M 63 58 = some 94))))) ∧ ((((vd_r M 63 59 = some 95) ∧ ((vd_r M 63 60 = some 96) ∧ (vd_r M 63 61 = some 97))) ∧ ((vd_r M 63 62 = some 98) ∧ ((vd_r M 63 63 = some 99) ∧ (vd_r M 63 64 = some 100)))) ∧ (((vd_r M 63 65 = some 101) ∧ ((vd_r M 63 66 = some 102) ∧ (vd_r M 63 67 = some 103))) ∧ (((vd_r M 63 68 = some 104) ∧ (vd_r M 63 72 = some 105)) ∧ ((vd_r M 63 73 = some 109) ∧ (vd_r M 63 87 = some 113)))))))) ∧ (((((((vd_r M 63 88 = some 114) ∧ ((vd_r M 63 89 = some 115) ∧ (vd_r M 63 90 = some 116))) ∧ ((vd_r M 63 113 = some 117) ∧ ((vd_r M 63 114 = some 118) ∧ (vd_r M 63 115 = some 119)))) ∧ (((vd_r M 63 117 = some 120) ∧ ((vd_r M 63 118 = some 121) ∧ (vd_r M 63 119 = some 122))) ∧ ((vd_r M 63 120 = some 123) ∧ ((vd_r M 63 121 = some 124) ∧ (vd_r M 63 122 = some 125))))) ∧ ((((vd_r M 63 124 = some 126) ∧ ((vd_r M 63 125 = some 127) ∧ (vd_r M 63 134 = some 128))) ∧ ((vd_r M 65 0 = some 129) ∧ ((vd_r M 65 1 = some 134) ∧ (vd_r M 65 2 = some 139)))) ∧ (((vd_r M 65 3 = some 144) ∧ ((vd_r M 65 4 = some 149) ∧ (vd_r M 65 5 = some 154))) ∧ ((vd_r M 65 6 = some 159) ∧ ((vd_r M 65 7 = some 164) ∧ (vd_r M 65 8 = some 169)))))) ∧ (((((vd_r M 65 9 = some 174) ∧ ((vd_r M 65 10 = some 179) ∧ (vd_r M 67 0 = some 68))) ∧ ((vd_r M 67 1 = some 69) ∧ ((vd_r M 67 2 = some 70) ∧ (vd_r M 67 3 = some 71)))) ∧ (((vd_r M 105 0 = some 106) ∧ ((vd_r M 105 1 = some 107) ∧ (vd_r M 105 2 = some 108))) ∧ ((vd_r M 109 0 = some 110) ∧ ((vd_r M 109 1 = some 111) ∧ (vd_r M 109 2 = some 112))))) ∧ ((((vd_r M 122 0 = some 184) ∧ ((vd_r M 122 1 = some 185) ∧ (vd_r M 122 2 = some 186))) ∧ ((vd_r M 122 3 = some 187) ∧ ((vd_r M 122 4 = some 188) ∧ (vd_r M 122 5 = some 189)))) ∧ (((vd_r M 122 6 = some 190) ∧ ((vd_r M 122 7 = some 191) ∧ (vd_r M 122 8 = some 192))) ∧ (((vd_r M 122 9 = some 193) ∧ (vd_r M 122 10 = some 194)) ∧ ((vd_r M 122 11 = some 195) ∧ (vd_r M 130 0 = some 131))))))) ∧ ((((((vd_r M 130 1 = some 132) ∧ ((vd_r M 130 2 = some 133) ∧ (vd_r M 135 0 = some 136))) ∧ ((vd_r M 135 1 = some 137) ∧ ((vd_r M 135 2 = some 138) ∧ (vd_r M 140 0 = some 141)))) ∧ (((vd_r M 140 1 = some 142) ∧ ((vd_r M 140 2 = some 143) ∧ (vd_r M 145 0 = some 146))) ∧ ((vd_r M 145 1 = some 147) ∧ ((vd_r M 145 2 = some 148) ∧ (vd_r M 150 0 = some 151))))) ∧ ((((vd_r M 150 1 = some 152) ∧ ((vd_r M 150 2 = some 153) ∧ (vd_r M 155 0 = some 156))) ∧ ((vd_r M 155 1 = some 157) ∧ ((vd_r M 155 2 = some 158) ∧ (vd_r M 160 0 = some 161)))) ∧ (((vd_r M 160 1 = some 162) ∧ ((vd_r M 160 2 = some 163) ∧ (vd_r M 165 0 = some 166))) ∧ ((vd_r M 165 1 = some 167) ∧ ((vd_r M 165 2 = some 168) ∧ (vd_r M 170 0 = some 171)))))) ∧ (((((vd_r M 170 1 = some 172) ∧ ((vd_r M 170 2 = some 173) ∧ (vd_r M 175 0 = some 176))) ∧ ((vd_r M 175 1 = some 177) ∧ ((vd_r M 175 2 = some 178) ∧ (vd_r M 180 0 = some 181)))) ∧ (((vd_r M 180 1 = some 182) ∧ ((vd_r M 180 2 = some 183) ∧ (vd_r M 129 2 = some 130))) ∧ ((vd_r M 134 2 = some 135) ∧ ((vd_r M 139 2 = some 140) ∧ (vd_r M 144 2 = some 145))))) ∧ ((((vd_r M 149 2 = some 150) ∧ ((vd_r M 154 2 = some 155) ∧ (vd_r M 159 2 = some 160))) ∧ ((vd_r M 164 2 = some 165) ∧ ((vd_r M 169 2 = some 170) ∧ (vd_r M 174 2 = some 175)))) ∧ (((vd_r M 179 2 = some 180) ∧ ((vd_k M 5 = 32) ∧ (vd_l M 5 = 33))) ∧ (((vd_k M 6 = 32) ∧ (vd_l M 6 = 16)) ∧ ((vd_k M 7 = 32) ∧ (vd_l M 7 = 72))))))))))
section vd_SR_P
variable {M : vd_M}
theorem vd_SR.k63 (h : vd_SR M) : vd_k M 63 = 12 := h.1.1.1.1.1.1.1.1
theorem vd_SR.k64 (h : vd_SR M) : vd_k M 64 = 33 := h.1.1.1.1.1.1.1.2.1
theorem vd_SR.l64 (h : vd_SR M) : vd_l M 64 = 65536 := h.1.1.1.1.1.1.1.2.2
theorem vd_SR.k65 (h : vd_SR M) : vd_k M 65 = 37 := h.1.1.1.1.1.1.2.1
theorem vd_SR.l65 (h : vd_SR M) : vd_l M 65 = 11 := h.1.1.1.1.1.1.2.2.1
theorem vd_SR.k66 (h : vd_SR M) : vd_k M 66 = 37 := h.1.1.1.1.1.1.2.2.2
theorem vd_SR.l66 (h : vd_SR M) : vd_l M 66 = 8 := h.1.1.1.1.1.2.1.1
theorem vd_SR.k67 (h : vd_SR M) : vd_k M 67 = 38 := h.1.1.1.1.1.2.1.2.1
theorem vd_SR.l67 (h : vd_SR M) : vd_l M 67 = 4 := h.1.1.1.1.1.2.1.2.2
theorem vd_SR.k68 (h : vd_SR M) : vd_k M 68 = 32 := h.1.1.1.1.1.2.2.1
theorem vd_SR.l68 (h : vd_SR M) : vd_l M 68 = 2941 := h.1.1.1.1.1.2.2.2.1
theorem vd_SR.k69 (h : vd_SR M) : vd_k M 69 = 32 := h.1.1.1.1.1.2.2.2.2
theorem vd_SR.l69 (h : vd_SR M) : vd_l M 69 = 2941 := h.1.1.1.1.2.1.1.1
theorem vd_SR.k70 (h : vd_SR M) : vd_k M 70 = 32 := h.1.1.1.1.2.1.1.2.1
theorem vd_SR.l70 (h : vd_SR M) : vd_l M 70 = 2941 := h.1.1.1.1.2.1.1.2.2
theorem vd_SR.k71 (h : vd_SR M) : vd_k M 71 = 32 := h.1.1.1.1.2.1.2.1
theorem vd_SR.l71 (h : vd_SR M) : vd_l M 71 = 2941 := h.1.1.1.1.2.1.2.2.1
theorem vd_SR.k72 (h : vd_SR M) : vd_k M 72 = 32 := h.1.1.1.1.2.1.2.2.2
theorem vd_SR.l72 (h : vd_SR M) : vd_l M 72 = 576 := h.1.1.1.1.2.2.1.1
theorem vd_SR.k73 (h : vd_SR M) : vd_k M 73 = 32 := h.1.1.1.1.2.2.1.2.1
theorem vd_SR.l73 (h : vd_SR M) : vd_l M 73 = 6 := h.1.1.1.1.2.2.1.2.2
theorem vd_SR.k74 (h : vd_SR M) : vd_k M 74 = 34 := h.1.1.1.1.2.2.2.1
theorem vd_SR.l74 (h : vd_SR M) : vd_l M 74 = 32 := h.1.1.1.1.2.2.2.2.1
theorem vd_SR.k75 (h : vd_SR M) : vd_k M 75 = 32 := h.1.1.1.1.2.2.2.2.2
theorem vd_SR.l75 (h : vd_SR M) : vd_l M 75 = 32 := h.1.1.1.2.1.1.1.1
theorem vd_SR.k76 (h : vd_SR M) : vd_k M 76 = 32 := h.1.1.1.2.1.1.1.2.1
theorem vd_SR.l76 (h : vd_SR M) : vd_l M 76 = 1152 := h.1.1.1.2.1.1.1.2.2
theorem vd_SR.k77 (h : vd_SR M) : vd_k M 77 = 32 := h.1.1.1.2.1.1.2.1
theorem vd_SR.l77 (h : vd_SR M) : vd_l M 77 = 1152 := h.1.1.1.2.1.1.2.2.1
theorem vd_SR.k78 (h : vd_SR M) : vd_k M 78 = 32 := h.1.1.1.2.1.1.2.2.2
theorem vd_SR.l78 (h : vd_SR M) : vd_l M 78 = 1152 := h.1.1.1.2.1.2.1.1
theorem vd_SR.k79 (h : vd_SR M) : vd_k M 79 = 32 := h.1.1.1.2.1.2.1.2.1
theorem vd_SR.l79 (h : vd_SR M) : vd_l M 79 = 5 := h.1.1.1.2.1.2.1.2.2
theorem vd_SR.k80 (h : vd_SR M) : vd_k M 80 = 32 := h.1.1.1.2.1.2.2.1
theorem vd_SR.l80 (h : vd_SR M) : vd_l M 80 = 2941 := h.1.1.1.2.1.2.2.2.1
theorem vd_SR.k81 (h : vd_SR M) : vd_k M 81 = 32 := h.1.1.1.2.1.2.2.2.2
theorem vd_SR.l81 (h : vd_SR M) : vd_l M 81 = 2941 := h.1.1.1.2.2.1.1.1
theorem vd_SR.k82 (h : vd_SR M) : vd_k M 82 = 32 := h.1.1.1.2.2.1.1.2.1
theorem vd_SR.l82 (h : vd_SR M) : vd_l M 82 = 2941 := h.1.1.1.2.2.1.1.2.2
theorem vd_SR.k83 (h : vd_SR M) : vd_k M 83 = 37 := h.1.1.1.2.2.1.2.1
theorem vd_SR.l83 (h : vd_SR M) : vd_l M 83 = 3 := h.1.1.1.2.2.1.2.2.1
theorem vd_SR.k84 (h : vd_SR M) : vd_k M 84 = 32 := h.1.1.1.2.2.1.2.2.2
theorem vd_SR.l84 (h : vd_SR M) : vd_l M 84 = 3 := h.1.1.1.2.2.2.1.1
theorem vd_SR.k85 (h : vd_SR M) : vd_k M 85 = 32 := h.1.1.1.2.2.2.1.2.1
theorem vd_SR.l85 (h : vd_SR M) : vd_l M 85 = 3 := h.1.1.1.2.2.2.1.2.2
theorem vd_SR.k86 (h : vd_SR M) : vd_k M 86 = 32 := h.1.1.1.2.2.2.2.1.1
theorem vd_SR.l86 (h : vd_SR M) : vd_l M 86 = 7 := h.1.1.1.2.2.2.2.1.2
theorem vd_SR.k87 (h : vd_SR M) : vd_k M 87 = 32 := h.1.1.1.2.2.2.2.2.1
theorem vd_SR.l87 (h : vd_SR M) : vd_l M 87 = 3 := h.1.1.1.2.2.2.2.2.2
theorem vd_SR.k88 (h : vd_SR M) : vd_k M 88 = 34 := h.1.1.2.1.1.1.1.1
theorem vd_SR.l88 (h : vd_SR M) : vd_l M 88 = 576 := h.1.1.2.1.1.1.1.2.1
theorem vd_SR.k89 (h : vd_SR M) : vd_k M 89 = 34 := h.1.1.2.1.1.1.1.2.2
theorem vd_SR.l89 (h : vd_SR M) : vd_l M 89 = 576 := h.1.1.2.1.1.1.2.1
theorem vd_SR.k90 (h : vd_SR M) : vd_k M 90 = 34 := h.1.1.2.1.1.1.2.2.1
theorem vd_SR.l90 (h : vd_SR M) : vd_l M 90 = 576 := h.1.1.2.1.1.1.2.2.2
theorem vd_SR.k91 (h : vd_SR M) : vd_k M 91 = 34 := h.1.1.2.1.1.2.1.1
theorem vd_SR.l91 (h : vd_SR M) : vd_l M 91 = 576 := h.1.1.2.1.1.2.1.2.1
theorem vd_SR.k92 (h : vd_SR M) : vd_k M 92 = 32 := h.1.1.2.1.1.2.1.2.2
theorem vd_SR.l92 (h : vd_SR M) : vd_l M 92 = 576 := h.1.1.2.1.1.2.2.1
theorem vd_SR.k93 (h : vd_SR M) : vd_k M 93 = 32 := h.1.1.2.1.1.2.2.2.1
theorem vd_SR.l93 (h : vd_SR M) : vd_l M 93 = 576 := h.1.1.2.1.1.2.2.2.2
theorem vd_SR.k94 (h : vd_SR M) : vd_k M 94 = 32 := h.1.1.2.1.2.1.1.1
theorem vd_SR.l94 (h : vd_SR M) : vd_l M 94 = 576 := h.1.1.2.1.2.1.1.2.1
theorem vd_SR.k95 (h : vd_SR M) : vd_k M 95 = 32 := h.1.1.2.1.2.1.1.2.2
theorem vd_SR.l95 (h : vd_SR M) : vd_l M 95 = 576 := h.1.1.2.1.2.1.2.1
theorem vd_SR.k96 (h : vd_SR M) : vd_k M 96 = 32 := h.1.1.2.1.2.1.2.2.1
theorem vd_SR.l96 (h : vd_SR M) : vd_l M 96 = 576 := h.1.1.2.1.2.1.2.2.2
theorem vd_SR.k97 (h : vd_SR M) : vd_k M 97 = 32 := h.1.1.2.1.2.2.1.1
theorem vd_SR.l97 (h : vd_SR M) : vd_l M 97 = 576 := h.1.1.2.1.2.2.1.2.1
theorem vd_SR.k98 (h : vd_SR M) : vd_k M 98 = 32 := h.1.1.2.1.2.2.1.2.2
theorem vd_SR.l98 (h : vd_SR M) : vd_l M 98 = 576 := h.1.1.2.1.2.2.2.1
theorem vd_SR.k99 (h : vd_SR M) : vd_k M 99 = 32 := h.1.1.2.1.2.2.2.2.1
theorem vd_SR.l99 (h : vd_SR M) : vd_l M 99 = 576 := h.1.1.2.1.2.2.2.2.2
theorem vd_SR.k100 (h : vd_SR M) : vd_k M 100 = 32 := h.1.1.2.2.1.1.1.1
theorem vd_SR.l100 (h : vd_SR M) : vd_l M 100 = 576 := h.1.1.2.2.1.1.1.2.1
theorem vd_SR.k101 (h : vd_SR M) : vd_k M 101 = 32 := h.1.1.2.2.1.1.1.2.2
theorem vd_SR.l101 (h : vd_SR M) : vd_l M 101 = 576 := h.1.1.2.2.1.1.2.1
theorem vd_SR.k102 (h : vd_SR M) : vd_k M 102 = 32 := h.1.1.2.2.1.1.2.2.1
theorem vd_SR.l102 (h : vd_SR M) : vd_l M 102 = 1152 := h.1.1.2.2.1.1.2.2.2
theorem vd_SR.k103 (h : vd_SR M) : vd_k M 103 = 32 := h.1.1.2.2.1.2.1.1
theorem vd_SR.l103 (h : vd_SR M) : vd_l M 103 = 1152 := h.1.1.2.2.1.2.1.2.1
theorem vd_SR.k104 (h : vd_SR M) : vd_k M 104 = 32 := h.1.1.2.2.1.2.1.2.2
theorem vd_SR.l104 (h : vd_SR M) : vd_l M 104 = 1152 := h.1.1.2.2.1.2.2.1
theorem vd_SR.k105 (h : vd_SR M) : vd_k M 105 = 40 := h.1.1.2.2.1.2.2.2.1
theorem vd_SR.l105 (h : vd_SR M) : vd_l M 105 = 3 := h.1.1.2.2.1.2.2.2.2
theorem vd_SR.k106 (h : vd_SR M) : vd_k M 106 = 34 := h.1.1.2.2.2.1.1.1
theorem vd_SR.l106 (h : vd_SR M) : vd_l M 106 = 36864 := h.1.1.2.2.2.1.1.2.1
theorem vd_SR.k107 (h : vd_SR M) : vd_k M 107 = 34 := h.1.1.2.2.2.1.1.2.2
theorem vd_SR.l107 (h : vd_SR M) : vd_l M 107 = 9216 := h.1.1.2.2.2.1.2.1
theorem vd_SR.k108 (h : vd_SR M) : vd_k M 108 = 34 := h.1.1.2.2.2.1.2.2.1
theorem vd_SR.l108 (h : vd_SR M) : vd_l M 108 = 9216 := h.1.1.2.2.2.1.2.2.2
theorem vd_SR.k109 (h : vd_SR M) : vd_k M 109 = 40 := h.1.1.2.2.2.2.1.1
theorem vd_SR.l109 (h : vd_SR M) : vd_l M 109 = 3 := h.1.1.2.2.2.2.1.2.1
theorem vd_SR.k110 (h : vd_SR M) : vd_k M 110 = 34 := h.1.1.2.2.2.2.1.2.2
theorem vd_SR.l110 (h : vd_SR M) : vd_l M 110 = 2304 := h.1.1.2.2.2.2.2.1.1
theorem vd_SR.k111 (h : vd_SR M) : vd_k M 111 = 34 := h.1.1.2.2.2.2.2.1.2
theorem vd_SR.l111 (h : vd_SR M) : vd_l M 111 = 576 := h.1.1.2.2.2.2.2.2.1
theorem vd_SR.k112 (h : vd_SR M) : vd_k M 112 = 34 := h.1.1.2.2.2.2.2.2.2
theorem vd_SR.l112 (h : vd_SR M) : vd_l M 112 = 576 := h.1.2.1.1.1.1.1.1
theorem vd_SR.k113 (h : vd_SR M) : vd_k M 113 = 34 := h.1.2.1.1.1.1.1.2.1
theorem vd_SR.l113 (h : vd_SR M) : vd_l M 113 = 6 := h.1.2.1.1.1.1.1.2.2
theorem vd_SR.k114 (h : vd_SR M) : vd_k M 114 = 34 := h.1.2.1.1.1.1.2.1
theorem vd_SR.l114 (h : vd_SR M) : vd_l M 114 = 32 := h.1.2.1.1.1.1.2.2.1
theorem vd_SR.k115 (h : vd_SR M) : vd_k M 115 = 32 := h.1.2.1.1.1.1.2.2.2
theorem vd_SR.l115 (h : vd_SR M) : vd_l M 115 = 6 := h.1.2.1.1.1.2.1.1
theorem vd_SR.k116 (h : vd_SR M) : vd_k M 116 = 32 := h.1.2.1.1.1.2.1.2.1
theorem vd_SR.l116 (h : vd_SR M) : vd_l M 116 = 32 := h.1.2.1.1.1.2.1.2.2
theorem vd_SR.k117 (h : vd_SR M) : vd_k M 117 = 32 := h.1.2.1.1.1.2.2.1
theorem vd_SR.l117 (h : vd_SR M) : vd_l M 117 = 2 := h.1.2.1.1.1.2.2.2.1
theorem vd_SR.k118 (h : vd_SR M) : vd_k M 118 = 32 := h.1.2.1.1.1.2.2.2.2
theorem vd_SR.l118 (h : vd_SR M) : vd_l M 118 = 2 := h.1.2.1.1.2.1.1.1
theorem vd_SR.k119 (h : vd_SR M) : vd_k M 119 = 32 := h.1.2.1.1.2.1.1.2.1
theorem vd_SR.l119 (h : vd_SR M) : vd_l M 119 = 2 := h.1.2.1.1.2.1.1.2.2
theorem vd_SR.k120 (h : vd_SR M) : vd_k M 120 = 32 := h.1.2.1.1.2.1.2.1
theorem vd_SR.l120 (h : vd_SR M) : vd_l M 120 = 2 := h.1.2.1.1.2.1.2.2.1
theorem vd_SR.k121 (h : vd_SR M) : vd_k M 121 = 32 := h.1.2.1.1.2.1.2.2.2
theorem vd_SR.l121 (h : vd_SR M) : vd_l M 121 = 2 := h.1.2.1.1.2.2.1.1
theorem vd_SR.k122 (h : vd_SR M) : vd_k M 122 = 38 := h.1.2.1.1.2.2.1.2.1
theorem vd_SR.l122 (h : vd_SR M) : vd_l M 122 = 12 := h.1.2.1.1.2.2.1.2.2
theorem vd_SR.k123 (h : vd_SR M) : vd_k M 123 = 32 := h.1.2.1.1.2.2.2.1
theorem vd_SR.l123 (h : vd_SR M) : vd_l M 123 = 1024 := h.1.2.1.1.2.2.2.2.1
theorem vd_SR.k124 (h : vd_SR M) : vd_k M 124 = 32 := h.1.2.1.1.2.2.2.2.2
theorem vd_SR.l124 (h : vd_SR M) : vd_l M 124 = 1024 := h.1.2.1.2.1.1.1.1
theorem vd_SR.k125 (h : vd_SR M) : vd_k M 125 = 32 := h.1.2.1.2.1.1.1.2.1
theorem vd_SR.l125 (h : vd_SR M) : vd_l M 125 = 1024 := h.1.2.1.2.1.1.1.2.2
theorem vd_SR.k126 (h : vd_SR M) : vd_k M 126 = 32 := h.1.2.1.2.1.1.2.1
theorem vd_SR.l126 (h : vd_SR M) : vd_l M 126 = 64 := h.1.2.1.2.1.1.2.2.1
theorem vd_SR.k127 (h : vd_SR M) : vd_k M 127 = 32 := h.1.2.1.2.1.1.2.2.2
theorem vd_SR.l127 (h : vd_SR M) : vd_l M 127 = 32 := h.1.2.1.2.1.2.1.1
theorem vd_SR.k128 (h : vd_SR M) : vd_k M 128 = 32 := h.1.2.1.2.1.2.1.2.1
theorem vd_SR.l128 (h : vd_SR M) : vd_l M 128 = 16 := h.1.2.1.2.1.2.1.2.2
theorem vd_SR.k129 (h : vd_SR M) : vd_k M 129 = 13 := h.1.2.1.2.1.2.2.1
theorem vd_SR.k130 (h : vd_SR M) : vd_k M 130 = 39 := h.1.2.1.2.1.2.2.2.1
theorem vd_SR.l130 (h : vd_SR M) : vd_l M 130 = 3 := h.1.2.1.2.1.2.2.2.2
theorem vd_SR.k131 (h : vd_SR M) : vd_k M 131 = 33 := h.1.2.1.2.2.1.1.1
theorem vd_SR.l131 (h : vd_SR M) : vd_l M 131 = 36864 := h.1.2.1.2.2.1.1.2.1
theorem vd_SR.k132 (h : vd_SR M) : vd_k M 132 = 33 := h.1.2.1.2.2.1.1.2.2
theorem vd_SR.l132 (h : vd_SR M) : vd_l M 132 = 9216 := h.1.2.1.2.2.1.2.1
theorem vd_SR.k133 (h : vd_SR M) : vd_k M 133 = 33 := h.1.2.1.2.2.1.2.2.1
theorem vd_SR.l133 (h : vd_SR M) : vd_l M 133 = 9216 := h.1.2.1.2.2.1.2.2.2
theorem vd_SR.k134 (h : vd_SR M) : vd_k M 134 = 13 := h.1.2.1.2.2.2.1.1
theorem vd_SR.k135 (h : vd_SR M) : vd_k M 135 = 39 := h.1.2.1.2.2.2.1.2.1
theorem vd_SR.l135 (h : vd_SR M) : vd_l M 135 = 3 := h.1.2.1.2.2.2.1.2.2
theorem vd_SR.k136 (h : vd_SR M) : vd_k M 136 = 33 := h.1.2.1.2.2.2.2.1.1
theorem vd_SR.l136 (h : vd_SR M) : vd_l M 136 = 36864 := h.1.2.1.2.2.2.2.1.2
theorem vd_SR.k137 (h : vd_SR M) : vd_k M 137 = 33 := h.1.2.1.2.2.2.2.2.1
theorem vd_SR.l137 (h : vd_SR M) : vd_l M 137 = 9216 := h.1.2.1.2.2.2.2.2.2
theorem vd_SR.k138 (h : vd_SR M) : vd_k M 138 = 33 := h.1.2.2.1.1.1.1.1
theorem vd_SR.l138 (h : vd_SR M) : vd_l M 138 = 9216 := h.1.2.2.1.1.1.1.2.1
theorem vd_SR.k139 (h : vd_SR M) : vd_k M 139 = 13 := h.1.2.2.1.1.1.1.2.2
theorem vd_SR.k140 (h : vd_SR M) : vd_k M 140 = 39 := h.1.2.2.1.1.1.2.1
theorem vd_SR.l140 (h : vd_SR M) : vd_l M 140 = 3 := h.1.2.2.1.1.1.2.2.1
theorem vd_SR.k141 (h : vd_SR M) : vd_k M 141 = 33 := h.1.2.2.1.1.1.2.2.2
theorem vd_SR.l141 (h : vd_SR M) : vd_l M 141 = 36864 := h.1.2.2.1.1.2.1.1
theorem vd_SR.k142 (h : vd_SR M) : vd_k M 142 = 33 := h.1.2.2.1.1.2.1.2.1
theorem vd_SR.l142 (h : vd_SR M) : vd_l M 142 = 9216 := h.1.2.2.1.1.2.1.2.2
theorem vd_SR.k143 (h : vd_SR M) : vd_k M 143 = 33 := h.1.2.2.1.1.2.2.1
theorem vd_SR.l143 (h : vd_SR M) : vd_l M 143 = 9216 := h.1.2.2.1.1.2.2.2.1
theorem vd_SR.k144 (h : vd_SR M) : vd_k M 144 = 13 := h.1.2.2.1.1.2.2.2.2
theorem vd_SR.k145 (h : vd_SR M) : vd_k M 145 = 39 := h.1.2.2.1.2.1.1.1
theorem vd_SR.l145 (h : vd_SR M) : vd_l M 145 = 3 := h.1.2.2.1.2.1.1.2.1
theorem vd_SR.k146 (h : vd_SR M) : vd_k M 146 = 33 := h.1.2.2.1.2.1.1.2.2
theorem vd_SR.l146 (h : vd_SR M) : vd_l M 146 = 36864 := h.1.2.2.1.2.1.2.1
theorem vd_SR.k147 (h : vd_SR M) : vd_k M 147 = 33 := h.1.2.2.1.2.1.2.2.1
theorem vd_SR.l147 (h : vd_SR M) : vd_l M 147 = 9216 := h.1.2.2.1.2.1.2.2.2
theorem vd_SR.k148 (h : vd_SR M) : vd_k M 148 = 33 := h.1.2.2.1.2.2.1.1
theorem vd_SR.l148 (h : vd_SR M) : vd_l M 148 = 9216 := h.1.2.2.1.2.2.1.2.1
theorem vd_SR.k149 (h : vd_SR M) : vd_k M 149 = 13 := h.1.2.2.1.2.2.1.2.2
theorem vd_SR.k150 (h : vd_SR M) : vd_k M 150 = 39 := h.1.2.2.1.2.2.2.1
theorem vd_SR.l150 (h : vd_SR M) : vd_l M 150 = 3 := h.1.2.2.1.2.2.2.2.1
theorem vd_SR.k151 (h : vd_SR M) : vd_k M 151 = 33 := h.1.2.2.1.2.2.2.2.2
theorem vd_SR.l151 (h : vd_SR M) : vd_l M 151 = 36864 := h.1.2.2.2.1.1.1.1
theorem vd_SR.k152 (h : vd_SR M) : vd_k M 152 = 33 := h.1.2.2.2.1.1.1.2.1
theorem vd_SR.l152 (h : vd_SR M) : vd_l M 152 = 9216 := h.1.2.2.2.1.1.1.2.2
theorem vd_SR.k153 (h : vd_SR M) : vd_k M 153 = 33 := h.1.2.2.2.1.1.2.1
theorem vd_SR.l153 (h : vd_SR M) : vd_l M 153 = 9216 := h.1.2.2.2.1.1.2.2.1
theorem vd_SR.k154 (h : vd_SR M) : vd_k M 154 = 13 := h.1.2.2.2.1.1.2.2.2
theorem vd_SR.k155 (h : vd_SR M) : vd_k M 155 = 39 := h.1.2.2.2.1.2.1.1
theorem vd_SR.l155 (h : vd_SR M) : vd_l M 155 = 3 := h.1.2.2.2.1.2.1.2.1
theorem vd_SR.k156 (h : vd_SR M) : vd_k M 156 = 33 := h.1.2.2.2.1.2.1.2.2
theorem vd_SR.l156 (h : vd_SR M) : vd_l M 156 = 36864 := h.1.2.2.2.1.2.2.1
theorem vd_SR.k157 (h : vd_SR M) : vd_k M 157 = 33 := h.1.2.2.2.1.2.2.2.1
theorem vd_SR.l157 (h : vd_SR M) : vd_l M 157 = 9216 := h.1.2.2.2.1.2.2.2.2
theorem vd_SR.k158 (h : vd_SR M) : vd_k M 158 = 33 := h.1.2.2.2.2.1.1.1
theorem vd_SR.l158 (h : vd_SR M) : vd_l M 158 = 9216 := h.1.2.2.2.2.1.1.2.1
theorem vd_SR.k159 (h : vd_SR M) : vd_k M 159 = 13 := h.1.2.2.2.2.1.1.2.2
theorem vd_SR.k160 (h : vd_SR M) : vd_k M 160 = 39 := h.1.2.2.2.2.1.2.1
theorem vd_SR.l160 (h : vd_SR M) : vd_l M 160 = 3 := h.1.2.2.2.2.1.2.2.1
theorem vd_SR.k161 (h : vd_SR M) : vd_k M 161 = 33 := h.1.2.2.2.2.1.2.2.2
theorem vd_SR.l161 (h : vd_SR M) : vd_l M 161 = 36864 := h.1.2.2.2.2.2.1.1
theorem vd_SR.k162 (h : vd_SR M) : vd_k M 162 = 33 := h.1.2.2.2.2.2.1.2.1
theorem vd_SR.l162 (h : vd_SR M) : vd_l M 162 = 9216 := h.1.2.2.2.2.2.1.2.2
theorem vd_SR.k163 (h : vd_SR M) : vd_k M 163 = 33 := h.1.2.2.2.2.2.2.1.1
theorem vd_SR.l163 (h : vd_SR M) : vd_l M 163 = 9216 := h.1.2.2.2.2.2.2.1.2
theorem vd_SR.k164 (h : vd_SR M) : vd_k M 164 = 13 := h.1.2.2.2.2.2.2.2.1
theorem vd_SR.k165 (h : vd_SR M) : vd_k M 165 = 39 := h.1.2.2.2.2.2.2.2.2
theorem vd_SR.l165 (h : vd_SR M) : vd_l M 165 = 3 := h.2.1.1.1.1.1.1.1
theorem vd_SR.k166 (h : vd_SR M) : vd_k M 166 = 33 := h.2.1.1.1.1.1.1.2.1
theorem vd_SR.l166 (h : vd_SR M) : vd_l M 166 = 36864 := h.2.1.1.1.1.1.1.2.2
theorem vd_SR.k167 (h : vd_SR M) : vd_k M 167 = 33 := h.2.1.1.1.1.1.2.1
theorem vd_SR.l167 (h : vd_SR M) : vd_l M 167 = 9216 := h.2.1.1.1.1.1.2.2.1
theorem vd_SR.k168 (h : vd_SR M) : vd_k M 168 = 33 := h.2.1.1.1.1.1.2.2.2
theorem vd_SR.l168 (h : vd_SR M) : vd_l M 168 = 9216 := h.2.1.1.1.1.2.1.1
theorem vd_SR.k169 (h : vd_SR M) : vd_k M 169 = 13 := h.2.1.1.1.1.2.1.2.1
theorem vd_SR.k170 (h : vd_SR M) : vd_k M 170 = 39 := h.2.1.1.1.1.2.1.2.2
theorem vd_SR.l170 (h : vd_SR M) : vd_l M 170 = 3 := h.2.1.1.1.1.2.2.1
theorem vd_SR.k171 (h : vd_SR M) : vd_k M 171 = 33 := h.2.1.1.1.1.2.2.2.1
theorem vd_SR.l171 (h : vd_SR M) : vd_l M 171 = 36864 := h.2.1.1.1.1.2.2.2.2
theorem vd_SR.k172 (h : vd_SR M) : vd_k M 172 = 33 := h.2.1.1.1.2.1.1.1
theorem vd_SR.l172 (h : vd_SR M) : vd_l M 172 = 9216 := h.2.1.1.1.2.1.1.2.1
theorem vd_SR.k173 (h : vd_SR M) : vd_k M 173 = 33 := h.2.1.1.1.2.1.1.2.2
theorem vd_SR.l173 (h : vd_SR M) : vd_l M 173 = 9216 := h.2.1.1.1.2.1.2.1
theorem vd_SR.k174 (h : vd_SR M) : vd_k M 174 = 13 := h.2.1.1.1.2.1.2.2.1
theorem vd_SR.k175 (h : vd_SR M) : vd_k M 175 = 39 := h.2.1.1.1.2.1.2.2.2
theorem vd_SR.l175 (h : vd_SR M) : vd_l M 175 = 3 := h.2.1.1.1.2.2.1.1
theorem vd_SR.k176 (h : vd_SR M) : vd_k M 176 = 33 := h.2.1.1.1.2.2.1.2.1
theorem vd_SR.l176 (h : vd_SR M) : vd_l M 176 = 36864 := h.2.1.1.1.2.2.1.2.2
theorem vd_SR.k177 (h : vd_SR M) : vd_k M 177 = 33 := h.2.1.1.1.2.2.2.1
theorem vd_SR.l177 (h : vd_SR M) : vd_l M 177 = 9216 := h.2.1.1.1.2.2.2.2.1
theorem vd_SR.k178 (h : vd_SR M) : vd_k M 178 = 33 := h.2.1.1.1.2.2.2.2.2
theorem vd_SR.l178 (h : vd_SR M) : vd_l M 178 = 9216 := h.2.1.1.2.1.1.1.1
theorem vd_SR.k179 (h : vd_SR M) : vd_k M 179 = 13 := h.2.1.1.2.1.1.1.2.1
theorem vd_SR.k180 (h : vd_SR M) : vd_k M 180 = 39 := h.2.1.1.2.1.1.1.2.2
theorem vd_SR.l180 (h : vd_SR M) : vd_l M 180 = 3 := h.2.1.1.2.1.1.2.1
theorem vd_SR.k181 (h : vd_SR M) : vd_k M 181 = 33 := h.2.1.1.2.1.1.2.2.1
theorem vd_SR.l181 (h : vd_SR M) : vd_l M 181 = 36864 := h.2.1.1.2.1.1.2.2.2
theorem vd_SR.k182 (h : vd_SR M) : vd_k M 182 = 33 := h.2.1.1.2.1.2.1.1
theorem vd_SR.l182 (h : vd_SR M) : vd_l M 182 = 9216 := h.2.1.1.2.1.2.1.2.1
theorem vd_SR.k183 (h : vd_SR M) : vd_k M 183 = 33 := h.2.1.1.2.1.2.1.2.2
theorem vd_SR.l183 (h : vd_SR M) : vd_l M 183 = 9216 := h.2.1.1.2.1.2.2.1
theorem vd_SR.k184 (h : vd_SR M) : vd_k M 184 = 32 := h.2.1.1.2.1.2.2.2.1
theorem vd_SR.l184 (h : vd_SR M) : vd_l M 184 = 16 := h.2.1.1.2.1.2.2.2.2
theorem vd_SR.k185 (h : vd_SR M) : vd_k M 185 = 32 := h.2.1.1.2.2.1.1.1
theorem vd_SR.l185 (h : vd_SR M) : vd_l M 185 = 64 := h.2.1.1.2.2.1.1.2.1
theorem vd_SR.k186 (h : vd_SR M) : vd_k M 186 = 32 := h.2.1.1.2.2.1.1.2.2
theorem vd_SR.l186 (h : vd_SR M) : vd_l M 186 = 256 := h.2.1.1.2.2.1.2.1
theorem vd_SR.k187 (h : vd_SR M) : vd_k M 187 = 32 := h.2.1.1.2.2.1.2.2.1
theorem vd_SR.l187 (h : vd_SR M) : vd_l M 187 = 1024 := h.2.1.1.2.2.1.2.2.2
theorem vd_SR.k188 (h : vd_SR M) : vd_k M 188 = 32 := h.2.1.1.2.2.2.1.1
theorem vd_SR.l188 (h : vd_SR M) : vd_l M 188 = 16 := h.2.1.1.2.2.2.1.2.1
theorem vd_SR.k189 (h : vd_SR M) : vd_k M 189 = 32 := h.2.1.1.2.2.2.1.2.2
theorem vd_SR.l189 (h : vd_SR M) : vd_l M 189 = 64 := h.2.1.1.2.2.2.2.1.1
theorem vd_SR.k190 (h : vd_SR M) : vd_k M 190 = 32 := h.2.1.1.2.2.2.2.1.2
theorem vd_SR.l190 (h : vd_SR M) : vd_l M 190 = 256 := h.2.1.1.2.2.2.2.2.1
theorem vd_SR.k191 (h : vd_SR M) : vd_k M 191 = 32 := h.2.1.1.2.2.2.2.2.2
theorem vd_SR.l191 (h : vd_SR M) : vd_l M 191 = 1024 := h.2.1.2.1.1.1.1.1
theorem vd_SR.k192 (h : vd_SR M) : vd_k M 192 = 32 := h.2.1.2.1.1.1.1.2.1
theorem vd_SR.l192 (h : vd_SR M) : vd_l M 192 = 16 := h.2.1.2.1.1.1.1.2.2
theorem vd_SR.k193 (h : vd_SR M) : vd_k M 193 = 32 := h.2.1.2.1.1.1.2.1
theorem vd_SR.l193 (h : vd_SR M) : vd_l M 193 = 64 := h.2.1.2.1.1.1.2.2.1
theorem vd_SR.k194 (h : vd_SR M) : vd_k M 194 = 32 := h.2.1.2.1.1.1.2.2.2
theorem vd_SR.l194 (h : vd_SR M) : vd_l M 194 = 256 := h.2.1.2.1.1.2.1.1
theorem vd_SR.k195 (h : vd_SR M) : vd_k M 195 = 32 := h.2.1.2.1.1.2.1.2.1
theorem vd_SR.l195 (h : vd_SR M) : vd_l M 195 = 1024 := h.2.1.2.1.1.2.1.2.2
theorem vd_SR.r63_0 (h : vd_SR M) : vd_r M 63 0 = some 64 := h.2.1.2.1.1.2.2.1
theorem vd_SR.r63_5 (h : vd_SR M) : vd_r M 63 5 = some 65 := h.2.1.2.1.1.2.2.2.1
theorem vd_SR.r63_6 (h : vd_SR M) : vd_r M 63 6 = some 66 := h.2.1.2.1.1.2.2.2.2
theorem vd_SR.r63_8 (h : vd_SR M) : vd_r M 63 8 = some 67 := h.2.1.2.1.2.1.1.1
theorem vd_SR.r63_9 (h : vd_SR M) : vd_r M 63 9 = some 72 := h.2.1.2.1.2.1.1.2.1
theorem vd_SR.r63_10 (h : vd_SR M) : vd_r M 63 10 = some 73 := h.2.1.2.1.2.1.1.2.2
theorem vd_SR.r63_11 (h : vd_SR M) : vd_r M 63 11 = some 74 := h.2.1.2.1.2.1.2.1
theorem vd_SR.r63_12 (h : vd_SR M) : vd_r M 63 12 = some 75 := h.2.1.2.1.2.1.2.2.1
theorem vd_SR.r63_17 (h : vd_SR M) : vd_r M 63 17 = some 76 := h.2.1.2.1.2.1.2.2.2
theorem vd_SR.r63_18 (h : vd_SR M) : vd_r M 63 18 = some 77 := h.2.1.2.1.2.2.1.1
theorem vd_SR.r63_19 (h : vd_SR M) : vd_r M 63 19 = some 78 := h.2.1.2.1.2.2.1.2.1
theorem vd_SR.r63_22 (h : vd_SR M) : vd_r M 63 22 = some 79 := h.2.1.2.1.2.2.1.2.2
theorem vd_SR.r63_28 (h : vd_SR M) : vd_r M 63 28 = some 80 := h.2.1.2.1.2.2.2.1
theorem vd_SR.r63_29 (h : vd_SR M) : vd_r M 63 29 = some 81 := h.2.1.2.1.2.2.2.2.1
theorem vd_SR.r63_30 (h : vd_SR M) : vd_r M 63 30 = some 82 := h.2.1.2.1.2.2.2.2.2
theorem vd_SR.r63_31 (h : vd_SR M) : vd_r M 63 31 = some 83 := h.2.1.2.2.1.1.1.1
theorem vd_SR.r63_32 (h : vd_SR M) : vd_r M 63 32 = some 84 := h.2.1.2.2.1.1.1.2.1
theorem vd_SR.r63_49 (h : vd_SR M) : vd_r M 63 49 = some 85 := h.2.1.2.2.1.1.1.2.2
theorem vd_SR.r63_50 (h : vd_SR M) : vd_r M 63 50 = some 86 := h.2.1.2.2.1.1.2.1
theorem vd_SR.r63_51 (h : vd_SR M) : vd_r M 63 51 = some 87 := h.2.1.2.2.1.1.2.2.1
theorem vd_SR.r63_52 (h : vd_SR M) : vd_r M 63 52 = some 88 := h.2.1.2.2.1.1.2.2.2
theorem vd_SR.r63_53 (h : vd_SR M) : vd_r M 63 53 = some 89 := h.2.1.2.2.1.2.1.1
theorem vd_SR.r63_54 (h : vd_SR M) : vd_r M 63 54 = some 90 := h.2.1.2.2.1.2.1.2.1
theorem vd_SR.r63_55 (h : vd_SR M) : vd_r M 63 55 = some 91 := h.2.1.2.2.1.2.1.2.2
theorem vd_SR.r63_56 (h : vd_SR M) : vd_r M 63 56 = some 92 := h.2.1.2.2.1.2.2.1
theorem vd_SR.r63_57 (h : vd_SR M) : vd_r M 63 57 = some 93 := h.2.1.2.2.1.2.2.2.1
theorem vd_SR.r63_58 (h : vd_SR M) : vd_r M 63 58 = some 94 := h.2.1.2.2.1.2.2.2.2
theorem vd_SR.r63_59 (h : vd_SR M) : vd_r M 63 59 = some 95 := h.2.1.2.2.2.1.1.1
theorem vd_SR.r63_60 (h : vd_SR M) : vd_r M 63 60 = some 96 := h.2.1.2.2.2.1.1.2.1
theorem vd_SR.r63_61 (h : vd_SR M) : vd_r M 63 61 = some 97 := h.2.1.2.2.2.1.1.2.2
theorem vd_SR.r63_62 (h : vd_SR M) : vd_r M 63 62 = some 98 := h.2.1.2.2.2.1.2.1
theorem vd_SR.r63_63 (h : vd_SR M) : vd_r M 63 63 = some 99 := h.2.1.2.2.2.1.2.2.1
theorem vd_SR.r63_64 (h : vd_SR M) : vd_r M 63 64 = some 100 := h.2.1.2.2.2.1.2.2.2
theorem vd_SR.r63_65 (h : vd_SR M) : vd_r M 63 65 = some 101 := h.2.1.2.2.2.2.1.1
theorem vd_SR.r63_66 (h : vd_SR M) : vd_r M 63 66 = some 102 := h.2.1.2.2.2.2.1.2.1
theorem vd_SR.r63_67 (h : vd_SR M) : vd_r M 63 67 = some 103 := h.2.1.2.2.2.2.1.2.2
theorem vd_SR.r63_68 (h : vd_SR M) : vd_r M 63 68 = some 104 := h.2.1.2.2.2.2.2.1.1
theorem vd_SR.r63_72 (h : vd_SR M) : vd_r M 63 72 = some 105 := h.2.1.2.2.2.2.2.1.2
theorem vd_SR.r63_73 (h : vd_SR M) : vd_r M 63 73 = some 109 := h.2.1.2.2.2.2.2.2.1
theorem vd_SR.r63_87 (h : vd_SR M) : vd_r M 63 87 = some 113 := h.2.1.2.2.2.2.2.2.2
theorem vd_SR.r63_88 (h : vd_SR M) : vd_r M 63 88 = some 114 := h.2.2.1.1.1.1.1.1
theorem vd_SR.r63_89 (h : vd_SR M) : vd_r M 63 89 = some 115 := h.2.2.1.1.1.1.1.2.1
theorem vd_SR.r63_90 (h : vd_SR M) : vd_r M 63 90 = some 116 := h.2.2.1.1.1.1.1.2.2
theorem vd_SR.r63_113 (h : vd_SR M) : vd_r M 63 113 = some 117 := h.2.2.1.1.1.1.2.1
theorem vd_SR.r63_114 (h : vd_SR M) : vd_r M 63 114 = some 118 := h.2.2.1.1.1.1.2.2.1
theorem vd_SR.r63_115 (h : vd_SR M) : vd_r M 63 115 = some 119 := h.2.2.1.1.1.1.2.2.2
theorem vd_SR.r63_117 (h : vd_SR M) : vd_r M 63 117 = some 120 := h.2.2.1.1.1.2.1.1
theorem vd_SR.r63_118 (h : vd_SR M) : vd_r M 63 118 = some 121 := h.2.2.1.1.1.2.1.2.1
theorem vd_SR.r63_119 (h : vd_SR M) : vd_r M 63 119 = some 122 := h.2.2.1.1.1.2.1.2.2
theorem vd_SR.r63_120 (h : vd_SR M) : vd_r M 63 120 = some 123 := h.2.2.1.1.1.2.2.1
theorem vd_SR.r63_121 (h : vd_SR M) : vd_r M 63 121 = some 124 := h.2.2.1.1.1.2.2.2.1
theorem vd_SR.r63_122 (h : vd_SR M) : vd_r M 63 122 = some 125 := h.2.2.1.1.1.2.2.2.2
theorem vd_SR.r63_124 (h : vd_SR M) : vd_r M 63 124 = some 126 := h.2.2.1.1.2.1.1.1
theorem vd_SR.r63_125 (h : vd_SR M) : vd_r M 63 125 = some 127 := h.2.2.1.1.2.1.1.2.1
theorem vd_SR.r63_134 (h : vd_SR M) : vd_r M 63 134 = some 128 := h.2.2.1.1.2.1.1.2.2
theorem vd_SR.r65_0 (h : vd_SR M) : vd_r M 65 0 = some 129 := h.2.2.1.1.2.1.2.1
theorem vd_SR.r65_1 (h : vd_SR M) : vd_r M 65 1 = some 134 := h.2.2.1.1.2.1.2.2.1
theorem vd_SR.r65_2 (h : vd_SR M) : vd_r M 65 2 = some 139 := h.2.2.1.1.2.1.2.2.2
theorem vd_SR.r65_3 (h : vd_SR M) : vd_r M 65 3 = some 144 := h.2.2.1.1.2.2.1.1
theorem vd_SR.r65_4 (h : vd_SR M) : vd_r M 65 4 = some 149 := h.2.2.1.1.2.2.1.2.1
theorem vd_SR.r65_5 (h : vd_SR M) : vd_r M 65 5 = some 154 := h.2.2.1.1.2.2.1.2.2
theorem vd_SR.r65_6 (h : vd_SR M) : vd_r M 65 6 = some 159 := h.2.2.1.1.2.2.2.1
theorem vd_SR.r65_7 (h : vd_SR M) : vd_r M 65 7 = some 164 := h.2.2.1.1.2.2.2.2.1
theorem vd_SR.r65_8 (h : vd_SR M) : vd_r M 65 8 = some 169 := h.2.2.1.1.2.2.2.2.2
theorem vd_SR.r65_9 (h : vd_SR M) : vd_r M 65 9 = some 174 := h.2.2.1.2.1.1.1.1
theorem vd_SR.r65_10 (h : vd_SR M) : vd_r M 65 10 = some 179 := h.2.2.1.2.1.1.1.2.1
theorem vd_SR.r67_0 (h : vd_SR M) : vd_r M 67 0 = some 68 := h.2.2.1.2.1.1.1.2.2
theorem vd_SR.r67_1 (h : vd_SR M) : vd_r M 67 1 = some 69 := h.2.2.1.2.1.1.2.1
theorem vd_SR.r67_2 (h : vd_SR M) : vd_r M 67 2 = some 70 := h.2.2.1.2.1.1.2.2.1
theorem vd_SR.r67_3 (h : vd_SR M) : vd_r M 67 3 = some 71 := h.2.2.1.2.1.1.2.2.2
theorem vd_SR.r105_0 (h : vd_SR M) : vd_r M 105 0 = some 106 := h.2.2.1.2.1.2.1.1
theorem vd_SR.r105_1 (h : vd_SR M) : vd_r M 105 1 = some 107 := h.2.2.1.2.1.2.1.2.1
theorem vd_SR.r105_2 (h : vd_SR M) : vd_r M 105 2 = some 108 := h.2.2.1.2.1.2.1.2.2
theorem vd_SR.r109_0 (h : vd_SR M) : vd_r M 109 0 = some 110 := h.2.2.1.2.1.2.2.1
theorem vd_SR.r109_1 (h : vd_SR M) : vd_r M 109 1 = some 111 := h.2.2.1.2.1.2.2.2.1
theorem vd_SR.r109_2 (h : vd_SR M) : vd_r M 109 2 = some 112 := h.2.2.1.2.1.2.2.2.2
theorem vd_SR.r122_0 (h : vd_SR M) : vd_r M 122 0 = some 184 := h.2.2.1.2.2.1.1.1
theorem vd_SR.r122_1 (h : vd_SR M) : vd_r M 122 1 = some 185 := h.2.2.1.2.2.1.1.2.1
theorem vd_SR.r122_2 (h : vd_SR M) : vd_r M 122 2 = some 186 := h.2.2.1.2.2.1.1.2.2
theorem vd_SR.r122_3 (h : vd_SR M) : vd_r M 122 3 = some 187 := h.2.2.1.2.2.1.2.1
theorem vd_SR.r122_4 (h : vd_SR M) : vd_r M 122 4 = some 188 := h.2.2.1.2.2.1.2.2.1
theorem vd_SR.r122_5 (h : vd_SR M) : vd_r M 122 5 = some 189 := h.2.2.1.2.2.1.2.2.2
theorem vd_SR.r122_6 (h : vd_SR M) : vd_r M 122 6 = some 190 := h.2.2.1.2.2.2.1.1
theorem vd_SR.r122_7 (h : vd_SR M) : vd_r M 122 7 = some 191 := h.2.2.1.2.2.2.1.2.1
theorem vd_SR.r122_8 (h : vd_SR M) : vd_r M 122 8 = some 192 := h.2.2.1.2.2.2.1.2.2
theorem vd_SR.r122_9 (h : vd_SR M) : vd_r M 122 9 = some 193 := h.2.2.1.2.2.2.2.1.1
theorem vd_SR.r122_10 (h : vd_SR M) : vd_r M 122 10 = some 194 := h.2.2.1.2.2.2.2.1.2
theorem vd_SR.r122_11 (h : vd_SR M) : vd_r M 122 11 = some 195 := h.2.2.1.2.2.2.2.2.1
theorem vd_SR.r130_0 (h : vd_SR M) : vd_r M 130 0 = some 131 := h.2.2.1.2.2.2.2.2.2
theorem vd_SR.r130_1 (h : vd_SR M) : vd_r M 130 1 = some 132 := h.2.2.2.1.1.1.1.1
theorem vd_SR.r130_2 (h : vd_SR M) : vd_r M 130 2 = some 133 := h.2.2.2.1.1.1.1.2.1
theorem vd_SR.r135_0 (h : vd_SR M) : vd_r M 135 0 = some 136 := h.2.2.2.1.1.1.1.2.2
theorem vd_SR.r135_1 (h : vd_SR M) : vd_r M 135 1 = some 137 := h.2.2.2.1.1.1.2.1
theorem vd_SR.r135_2 (h : vd_SR M) : vd_r M 135 2 = some 138 := h.2.2.2.1.1.1.2.2.1
theorem vd_SR.r140_0 (h : vd_SR M) : vd_r M 140 0 = some 141 := h.2.2.2.1.1.1.2.2.2
theorem vd_SR.r140_1 (h : vd_SR M) : vd_r M 140 1 = some 142 := h.2.2.2.1.1.2.1.1
theorem vd_SR.r140_2 (h : vd_SR M) : vd_r M 140 2 = some 143 := h.2.2.2.1.1.2.1.2.1
theorem vd_SR.r145_0 (h : vd_SR M) : vd_r M 145 0 = some 146 := h.2.2.2.1.1.2.1.2.2
theorem vd_SR.r145_1 (h : vd_SR M) : vd_r M 145 1 = some 147 := h.2.2.2.1.1.2.2.1
theorem vd_SR.r145_2 (h : vd_SR M) : vd_r M 145 2 = some 148 := h.2.2.2.1.1.2.2.2.1
theorem vd_SR.r150_0 (h : vd_SR M) : vd_r M 150 0 = some 151 := h.2.2.2.1.1.2.2.2.2
theorem vd_SR.r150_1 (h : vd_SR M) : vd_r M 150 1 = some 152 := h.2.2.2.1.2.1.1.1
theorem vd_SR.r150_2 (h : vd_SR M) : vd_r M 150 2 = some 153 := h.2.2.2.1.2.1.1.2.1
theorem vd_SR.r155_0 (h : vd_SR M) : vd_r M 155 0 = some 156 := h.2.2.2.1.2.1.1.2.2
theorem vd_SR.r155_1 (h : vd_SR M) : vd_r M 155 1 = some 157 := h.2.2.2.1.2.1.2.1
theorem vd_SR.r155_2 (h : vd_SR M) : vd_r M 155 2 = some 158 := h.2.2.2.1.2.1.2.2.1
theorem vd_SR.r160_0 (h : vd_SR M) : vd_r M 160 0 = some 161 := h.2.2.2.1.2.1.2.2.2
theorem vd_SR.r160_1 (h : vd_SR M) : vd_r M 160 1 = some 162 := h.2.2.2.1.2.2.1.1
theorem vd_SR.r160_2 (h : vd_SR M) : vd_r M 160 2 = some 163 := h.2.2.2.1.2.2.1.2.1
theorem vd_SR.r165_0 (h : vd_SR M) : vd_r M 165 0 = some 166 := h.2.2.2.1.2.2.1.2.2
theorem vd_SR.r165_1 (h : vd_SR M) : vd_r M 165 1 = some 167 := h.2.2.2.1.2.2.2.1
theorem vd_SR.r165_2 (h : vd_SR M) : vd_r M 165 2 = some 168 := h.2.2.2.1.2.2.2.2.1
theorem vd_SR.r170_0 (h : vd_SR M) : vd_r M 170 0 = some 171 := h.2.2.2.1.2.2.2.2.2
theorem vd_SR.r170_1 (h : vd_SR M) : vd_r M 170 1 = some 172 := h.2.2.2.2.1.1.1.1
theorem vd_SR.r170_2 (h : vd_SR M) : vd_r M 170 2 = some 173 := h.2.2.2.2.1.1.1.2.1
theorem vd_SR.r175_0 (h : vd_SR M) : vd_r M 175 0 = some 176 := h.2.2.2.2.1.1.1.2.2
theorem vd_SR.r175_1 (h : vd_SR M) : vd_r M 175 1 = some 177 := h.2.2.2.2.1.1.2.1
theorem vd_SR.r175_2 (h : vd_SR M) : vd_r M 175 2 = some 178 := h.2.2.2.2.1.1.2.2.1
theorem vd_SR.r180_0 (h : vd_SR M) : vd_r M 180 0 = some 181 := h.2.2.2.2.1.1.2.2.2
theorem vd_SR.r180_1 (h : vd_SR M) : vd_r M 180 1 = some 182 := h.2.2.2.2.1.2.1.1
theorem vd_SR.r180_2 (h : vd_SR M) : vd_r M 180 2 = some 183 := h.2.2.2.2.1.2.1.2.1
theorem vd_SR.r129_2 (h : vd_SR M) : vd_r M 129 2 = some 130 := h.2.2.2.2.1.2.1.2.2
theorem vd_SR.r134_2 (h : vd_SR M) : vd_r M 134 2 = some 135 := h.2.2.2.2.1.2.2.1
theorem vd_SR.r139_2 (h : vd_SR M) : vd_r M 139 2 = some 140 := h.2.2.2.2.1.2.2.2.1
theorem vd_SR.r144_2 (h : vd_SR M) : vd_r M 144 2 = some 145 := h.2.2.2.2.1.2.2.2.2
theorem vd_SR.r149_2 (h : vd_SR M) : vd_r M 149 2 = some 150 := h.2.2.2.2.2.1.1.1
theorem vd_SR.r154_2 (h : vd_SR M) : vd_r M 154 2 = some 155 := h.2.2.2.2.2.1.1.2.1
theorem vd_SR.r159_2 (h : vd_SR M) : vd_r M 159 2 = some 160 := h.2.2.2.2.2.1.1.2.2
theorem vd_SR.r164_2 (h : vd_SR M) : vd_r M 164 2 = some 165 := h.2.2.2.2.2.1.2.1
theorem vd_SR.r169_2 (h : vd_SR M) : vd_r M 169 2 = some 170 := h.2.2.2.2.2.1.2.2.1
theorem vd_SR.r174_2 (h : vd_SR M) : vd_r M 174 2 = some 175 := h.2.2.2.2.2.1.2.2.2
theorem vd_SR.r179_2 (h : vd_SR M) : vd_r M 179 2 = some 180 := h.2.2.2.2.2.2.1.1
theorem vd_SR.k5 (h : vd_SR M) : vd_k M 5 = 32 := h.2.2.2.2.2.2.1.2.1
theorem vd_SR.l5 (h : vd_SR M) : vd_l M 5 = 33 := h.2.2.2.2.2.2.1.2.2
theorem vd_SR.k6 (h : vd_SR M) : vd_k M 6 = 32 := h.2.2.2.2.2.2.2.1.1
theorem vd_SR.l6 (h : vd_SR M) : vd_l M 6 = 16 := h.2.2.2.2.2.2.2.1.2
theorem vd_SR.k7 (h : vd_SR M) : vd_k M 7 = 32 := h.2.2.2.2.2.2.2.2.1
theorem vd_SR.l7 (h : vd_SR M) : vd_l M 7 = 72 := h.2.2.2.2.2.2.2.2.2
end vd_SR_P
section VDSG
variable {M : vd_M} {ow fa lo lf : Nat}
theorem vd_SC.gow (h : vd_SC M ow fa lo lf) : 10 ≤ ow := by have := h.par; omega
theorem vd_SC.gfa (h : vd_SC M ow fa lo lf) : 10 ≤ fa := by have := h.par; omega
theorem vd_SC.glo (h : vd_SC M ow fa lo lf) : 10 ≤ lo := by have := h.par; omega
theorem vd_SC.glf (h : vd_SC M ow fa lo lf) : 10 ≤ lf := by have := h.par; omega
end VDSG
