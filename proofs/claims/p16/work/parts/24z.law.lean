/-! the law's loop, in two stretches -/
def bk_law : bx_K := (276, 18, [(0, (3, 0, 0)), (1, (2, 0, 0)), (2, (2, 86, 0)), (3, (0, 0, 4096))], [], [(none, 1251, [(3, (0, 0, 4096))], []), (none, 755, [(3, (0, 0, 4088))], [])], [(200000, 0, 0)], [3], 27, some (3, true))
def bl_C : bx_C := (bw_INV, bw_PC, [(200000, 0, 0)], [3])
noncomputable def bl_run1 : Option (List bx_O) := bx_run yp_P [] 100 27 bl_C yp_m276 276 [172, 205, 308, 371, 394, 417, 440, 473, 506, 539, 572, 615, 638, 681, 714, 757, 800, 843, 876, 909, 932, 955, 988, 1021, 1064, 1107, 1150, 1173, 1186, 1199, 1222, 1245, 1251] true (bx_st0 18 bk_law.2.2.1 bk_law.2.2.2.1)
def bl_S0 : bx_S := ([(0, 4088), (8, 4096), ((-2147483648), 2147483647)], 1222, [(0, (3, 0, 0)), (1, (2, 0, 0)), (2, (2, 86, 0)), (3, (4, 0, 0))], [], [(100000, (4, 0, 0), (4, 2, 0)), (100001, (0, 0, 0), (4, 1, 0))], [(1, 0, 8)])
def bl_S1 : bx_S := ([(0, 4088), (8, 4096), ((-2147483648), 2147483647)], 1199, [(0, (3, 0, 0)), (1, (2, 0, 0)), (2, (2, 86, 0)), (3, (4, 0, 0))], [], [(100000, (4, 0, 0), (4, 2, 0)), (100001, (0, 0, 0), (4, 1, 0))], [(1, 0, 8)])
def bl_S2 : bx_S := ([(0, 4088), (8, 4096), ((-2147483648), 2147483647)], 1186, [(0, (3, 0, 0)), (1, (2, 0, 0)), (2, (2, 86, 0)), (3, (4, 0, 0))], [], [(100000, (4, 0, 0), (4, 2, 0)), (100001, (0, 0, 0), (4, 1, 0))], [(1, 0, 8)])
def bl_S3 : bx_S := ([(0, 4088), (8, 4096), ((-2147483648), 2147483647)], 1173, [(0, (3, 0, 0)), (1, (2, 0, 0)), (2, (2, 86, 0)), (3, (4, 0, 0))], [], [(100000, (4, 0, 0), (4, 2, 0)), (100001, (0, 0, 0), (4, 1, 0))], [(1, 0, 8)])
def bl_S4 : bx_S := ([(0, 4088), (8, 4096), ((-2147483648), 2147483647)], 1150, [(0, (3, 0, 0)), (1, (2, 0, 0)), (2, (2, 86, 0)), (3, (4, 0, 0))], [], [(100000, (4, 0, 0), (4, 2, 0)), (100001, (0, 0, 0), (4, 1, 0))], [(1, 0, 8)])
def bl_S5 : bx_S := ([(0, 4088), (8, 4096), ((-2147483648), 2147483647)], 1107, [(0, (3, 0, 0)), (1, (2, 0, 0)), (2, (2, 86, 0)), (3, (4, 0, 0))], [], [(100000, (4, 0, 0), (4, 2, 0)), (100001, (0, 0, 0), (4, 1, 0))], [(1, 0, 8)])
def bl_S6 : bx_S := ([(0, 4088), (8, 4096), ((-2147483648), 2147483647)], 1064, [(0, (3, 0, 0)), (1, (2, 0, 0)), (2, (2, 86, 0)), (3, (4, 0, 0))], [], [(100000, (4, 0, 0), (4, 2, 0)), (100001, (0, 0, 0), (4, 1, 0))], [(1, 0, 8)])
def bl_S7 : bx_S := ([(0, 4088), (8, 4096), ((-2147483648), 2147483647)], 1021, [(0, (3, 0, 0)), (1, (2, 0, 0)), (2, (2, 86, 0)), (3, (4, 0, 0))], [], [(100000, (4, 0, 0), (4, 2, 0)), (100001, (0, 0, 0), (4, 1, 0))], [(1, 0, 8)])
def bl_S8 : bx_S := ([(0, 4088), (8, 4096), ((-2147483648), 2147483647)], 988, [(0, (3, 0, 0)), (1, (2, 0, 0)), (2, (2, 86, 0)), (3, (4, 0, 0))], [], [(100000, (4, 0, 0), (4, 2, 0)), (100001, (0, 0, 0), (4, 1, 0))], [(1, 0, 8)])
def bl_S9 : bx_S := ([(0, 4088), (8, 4096), ((-2147483648), 2147483647)], 955, [(0, (3, 0, 0)), (1, (2, 0, 0)), (2, (2, 86, 0)), (3, (4, 0, 0))], [], [(100000, (4, 0, 0), (4, 2, 0)), (100001, (0, 0, 0), (4, 1, 0))], [(1, 0, 8)])
def bl_S10 : bx_S := ([(0, 4088), (8, 4096), ((-2147483648), 2147483647)], 932, [(0, (3, 0, 0)), (1, (2, 0, 0)), (2, (2, 86, 0)), (3, (4, 0, 0))], [], [(100000, (4, 0, 0), (4, 2, 0)), (100001, (0, 0, 0), (4, 1, 0))], [(1, 0, 8)])
def bl_S11 : bx_S := ([(0, 4088), (8, 4096), ((-2147483648), 2147483647)], 909, [(0, (3, 0, 0)), (1, (2, 0, 0)), (2, (2, 86, 0)), (3, (4, 0, 0))], [], [(100000, (4, 0, 0), (4, 2, 0)), (100001, (0, 0, 0), (4, 1, 0))], [(1, 0, 8)])
def bl_S12 : bx_S := ([(0, 4088), (8, 4096), ((-2147483648), 2147483647)], 876, [(0, (3, 0, 0)), (1, (2, 0, 0)), (2, (2, 86, 0)), (3, (4, 0, 0))], [], [(100000, (4, 0, 0), (4, 2, 0)), (100001, (0, 0, 0), (4, 1, 0))], [(1, 0, 8)])
def bl_S13 : bx_S := ([(0, 4088), (8, 4096), ((-2147483648), 2147483647)], 843, [(0, (3, 0, 0)), (1, (2, 0, 0)), (2, (2, 86, 0)), (3, (4, 0, 0))], [], [(100000, (4, 0, 0), (4, 2, 0)), (100001, (0, 0, 0), (4, 1, 0))], [(1, 0, 8)])
def bl_S14 : bx_S := ([(0, 4088), (8, 4096), ((-2147483648), 2147483647)], 800, [(0, (3, 0, 0)), (1, (2, 0, 0)), (2, (2, 86, 0)), (3, (4, 0, 0))], [], [(100000, (4, 0, 0), (4, 2, 0)), (100001, (0, 0, 0), (4, 1, 0))], [(1, 0, 8)])
def bl_S15 : bx_S := ([(0, 4088), (8, 4096), ((-2147483648), 2147483647)], 757, [(0, (3, 0, 0)), (1, (2, 0, 0)), (2, (2, 86, 0)), (3, (4, 0, 0))], [], [(100000, (4, 0, 0), (4, 2, 0)), (100001, (0, 0, 0), (4, 1, 0))], [(1, 0, 8)])
def bl_S16 : bx_S := ([(0, 4088), (8, 4096), ((-2147483648), 2147483647)], 714, [(0, (3, 0, 0)), (1, (2, 0, 0)), (2, (2, 86, 0)), (3, (4, 0, 0))], [], [(100000, (4, 0, 0), (4, 2, 0)), (100001, (0, 0, 0), (4, 1, 0))], [(1, 0, 8)])
def bl_S17 : bx_S := ([(0, 4088), (8, 4096), ((-2147483648), 2147483647)], 681, [(0, (3, 0, 0)), (1, (2, 0, 0)), (2, (2, 86, 0)), (3, (4, 0, 0))], [], [(100000, (4, 0, 0), (4, 2, 0)), (100001, (0, 0, 0), (4, 1, 0))], [(1, 0, 8)])
def bl_S18 : bx_S := ([(0, 4088), (8, 4096), ((-2147483648), 2147483647)], 638, [(0, (3, 0, 0)), (1, (2, 0, 0)), (2, (2, 86, 0)), (3, (4, 0, 0))], [], [(100000, (4, 0, 0), (4, 2, 0)), (100001, (0, 0, 0), (4, 1, 0))], [(1, 0, 8)])
def bl_S19 : bx_S := ([(0, 4088), (8, 4096), ((-2147483648), 2147483647)], 615, [(0, (3, 0, 0)), (1, (2, 0, 0)), (2, (2, 86, 0)), (3, (4, 0, 0))], [], [(100000, (4, 0, 0), (4, 2, 0)), (100001, (0, 0, 0), (4, 1, 0))], [(1, 0, 8)])
def bl_S20 : bx_S := ([(0, 4088), (8, 4096), ((-2147483648), 2147483647)], 572, [(0, (3, 0, 0)), (1, (2, 0, 0)), (2, (2, 86, 0)), (3, (4, 0, 0))], [], [(100000, (4, 0, 0), (4, 2, 0)), (100001, (0, 0, 0), (4, 1, 0))], [(1, 0, 8)])
def bl_S21 : bx_S := ([(0, 4088), (8, 4096), ((-2147483648), 2147483647)], 539, [(0, (3, 0, 0)), (1, (2, 0, 0)), (2, (2, 86, 0)), (3, (4, 0, 0))], [], [(100000, (4, 0, 0), (4, 2, 0)), (100001, (0, 0, 0), (4, 1, 0))], [(1, 0, 8)])
def bl_S22 : bx_S := ([(0, 4088), (8, 4096), ((-2147483648), 2147483647)], 506, [(0, (3, 0, 0)), (1, (2, 0, 0)), (2, (2, 86, 0)), (3, (4, 0, 0))], [], [(100000, (4, 0, 0), (4, 2, 0)), (100001, (0, 0, 0), (4, 1, 0))], [(1, 0, 8)])
def bl_S23 : bx_S := ([(0, 4088), (8, 4096), ((-2147483648), 2147483647)], 473, [(0, (3, 0, 0)), (1, (2, 0, 0)), (2, (2, 86, 0)), (3, (4, 0, 0))], [], [(100000, (4, 0, 0), (4, 2, 0)), (100001, (0, 0, 0), (4, 1, 0))], [(1, 0, 8)])
def bl_S24 : bx_S := ([(0, 4088), (8, 4096), ((-2147483648), 2147483647)], 440, [(0, (3, 0, 0)), (1, (2, 0, 0)), (2, (2, 86, 0)), (3, (4, 0, 0))], [], [(100000, (4, 0, 0), (4, 2, 0)), (100001, (0, 0, 0), (4, 1, 0))], [(1, 0, 8)])
def bl_S25 : bx_S := ([(0, 4088), (8, 4096), ((-2147483648), 2147483647)], 417, [(0, (3, 0, 0)), (1, (2, 0, 0)), (2, (2, 86, 0)), (3, (4, 0, 0))], [], [(100000, (4, 0, 0), (4, 2, 0)), (100001, (0, 0, 0), (4, 1, 0))], [(1, 0, 8)])
def bl_S26 : bx_S := ([(0, 4088), (8, 4096), ((-2147483648), 2147483647)], 394, [(0, (3, 0, 0)), (1, (2, 0, 0)), (2, (2, 86, 0)), (3, (4, 0, 0))], [], [(100000, (4, 0, 0), (4, 2, 0)), (100001, (0, 0, 0), (4, 1, 0))], [(1, 0, 8)])
def bl_S27 : bx_S := ([(0, 4088), (8, 4096), ((-2147483648), 2147483647)], 371, [(0, (3, 0, 0)), (1, (2, 0, 0)), (2, (2, 86, 0)), (3, (4, 0, 0))], [], [(100000, (4, 0, 0), (4, 2, 0)), (100001, (0, 0, 0), (4, 1, 0))], [(1, 0, 8)])
def bl_S28 : bx_S := ([(0, 4088), (8, 4096), ((-2147483648), 2147483647)], 308, [(0, (3, 0, 0)), (1, (2, 0, 0)), (2, (2, 86, 0)), (3, (4, 0, 0))], [], [(100000, (4, 0, 0), (4, 2, 0)), (100001, (0, 0, 0), (4, 1, 0))], [(1, 0, 8)])
def bl_S29 : bx_S := ([(0, 4088), (8, 4096), ((-2147483648), 2147483647)], 205, [(0, (3, 0, 0)), (1, (2, 0, 0)), (2, (2, 86, 0)), (3, (4, 0, 0))], [], [(100000, (4, 0, 0), (4, 2, 0)), (100001, (0, 0, 0), (4, 1, 0))], [(1, 0, 8)])
def bl_S30 : bx_S := ([(0, 4088), (8, 4096), ((-2147483648), 2147483647)], 172, [(0, (3, 0, 0)), (1, (2, 0, 0)), (2, (2, 86, 0)), (3, (4, 0, 0))], [], [(100000, (4, 0, 0), (4, 2, 0)), (100001, (0, 0, 0), (4, 1, 0))], [(1, 0, 8)])
def bl_S31 : bx_S := ([(0, 4088), (8, 4096), ((-2147483648), 2147483647)], 1245, [(0, (3, 0, 0)), (1, (2, 0, 0)), (2, (2, 86, 0)), (3, (4, 0, 0))], [], [(100000, (4, 0, 0), (4, 2, 0)), (100001, (0, 0, 0), (4, 1, 0))], [(1, 0, 8)])
def bl_S32 : bx_S := ([(0, 4096), (0, 4096)], 1251, [(0, (3, 0, 0)), (1, (2, 0, 0)), (2, (2, 86, 0)), (3, (4, 0, 0))], [], [(100001, (0, 0, 0), (4, 1, 0))], [(0, 1, (-7))])
def bl_ok (r : Option (List bx_O)) : Bool := match r with
  | some outs => outs.all (bx_fit bw_INV bk_law)
  | none => false
def bl_L : List bx_O := [(none, bl_S0), (none, bl_S1), (none, bl_S2), (none, bl_S3), (none, bl_S4), (none, bl_S5), (none, bl_S6), (none, bl_S7), (none, bl_S8), (none, bl_S9), (none, bl_S10), (none, bl_S11), (none, bl_S12), (none, bl_S13), (none, bl_S14), (none, bl_S15), (none, bl_S16), (none, bl_S17), (none, bl_S18), (none, bl_S19), (none, bl_S20), (none, bl_S21), (none, bl_S22), (none, bl_S23), (none, bl_S24), (none, bl_S25), (none, bl_S26), (none, bl_S27), (none, bl_S28), (none, bl_S29), (none, bl_S30), (none, bl_S31), (none, bl_S32)]
def bl_eq (o q : bx_O) : Bool := decide (o.1 = q.1) && (decide (o.2.1 = q.2.1) && (decide (o.2.2.1 = q.2.2.1) && (decide (o.2.2.2.1 = q.2.2.2.1) && (decide (o.2.2.2.2.1 = q.2.2.2.2.1) && (decide (o.2.2.2.2.2.1 = q.2.2.2.2.2.1) && decide (o.2.2.2.2.2.2 = q.2.2.2.2.2.2))))))
theorem bl_eq_ok {o q : bx_O} (h : bl_eq o q = true) : o = q := by
  unfold bl_eq at h
  simp only [Bool.and_eq_true, decide_eq_true_eq] at h
  obtain ⟨h1, h2, h3, h4, h5, h6, h7⟩ := h
  exact Prod.ext h1 (Prod.ext h2 (Prod.ext h3 (Prod.ext h4 (Prod.ext h5 (Prod.ext h6 h7)))))
set_option maxRecDepth 10000000 in
theorem bl_len : (match bl_run1 with | some l => l.all (fun o => bl_L.any (fun q => bl_eq o q)) | none => false) = true := by decide +kernel
theorem bl_ctr : bx_ctrok bw_INV bk_law.2.2.1 bk_law.2.2.2.1 (some (3, true)) = true := by decide +kernel
set_option maxRecDepth 10000000 in
theorem bl_h0 : bl_ok (bx_run yp_P [bk_0, bk_50] 600 27 bl_C yp_m276 276 [18, 755, 1251] false bl_S0) = true := by decide +kernel
set_option maxRecDepth 10000000 in
theorem bl_h1 : bl_ok (bx_run yp_P [bk_1, bk_51] 600 27 bl_C yp_m276 276 [18, 755, 1251] false bl_S1) = true := by decide +kernel
set_option maxRecDepth 10000000 in
theorem bl_h2 : bl_ok (bx_run yp_P [bk_2, bk_52] 600 27 bl_C yp_m276 276 [18, 755, 1251] false bl_S2) = true := by decide +kernel
set_option maxRecDepth 10000000 in
theorem bl_h3 : bl_ok (bx_run yp_P [bk_3, bk_53, bk_95] 600 27 bl_C yp_m276 276 [18, 755, 1251] false bl_S3) = true := by decide +kernel
set_option maxRecDepth 10000000 in
theorem bl_h4 : bl_ok (bx_run yp_P [] 600 27 bl_C yp_m276 276 [18, 755, 1251] false bl_S4) = true := by decide +kernel
set_option maxRecDepth 10000000 in
theorem bl_h5 : bl_ok (bx_run yp_P [bk_4, bk_54] 600 27 bl_C yp_m276 276 [18, 755, 1251] false bl_S5) = true := by decide +kernel
set_option maxRecDepth 10000000 in
theorem bl_h6 : bl_ok (bx_run yp_P [bk_5, bk_55] 600 27 bl_C yp_m276 276 [18, 755, 1251] false bl_S6) = true := by decide +kernel
set_option maxRecDepth 10000000 in
theorem bl_h7 : bl_ok (bx_run yp_P [bk_6, bk_56] 600 27 bl_C yp_m276 276 [18, 755, 1251] false bl_S7) = true := by decide +kernel
set_option maxRecDepth 10000000 in
theorem bl_h8 : bl_ok (bx_run yp_P [bk_7, bk_110] 600 27 bl_C yp_m276 276 [18, 755, 1251] false bl_S8) = true := by decide +kernel
set_option maxRecDepth 10000000 in
theorem bl_h9 : bl_ok (bx_run yp_P [bk_8, bk_57] 600 27 bl_C yp_m276 276 [18, 755, 1251] false bl_S9) = true := by decide +kernel
set_option maxRecDepth 10000000 in
theorem bl_h10 : bl_ok (bx_run yp_P [bk_9, bk_58] 600 27 bl_C yp_m276 276 [18, 755, 1251] false bl_S10) = true := by decide +kernel
set_option maxRecDepth 10000000 in
theorem bl_h11 : bl_ok (bx_run yp_P [bk_10, bk_59] 600 27 bl_C yp_m276 276 [18, 755, 1251] false bl_S11) = true := by decide +kernel
set_option maxRecDepth 10000000 in
theorem bl_h12 : bl_ok (bx_run yp_P [bk_11, bk_60] 600 27 bl_C yp_m276 276 [18, 755, 1251] false bl_S12) = true := by decide +kernel
set_option maxRecDepth 10000000 in
theorem bl_h13 : bl_ok (bx_run yp_P [bk_12, bk_111] 600 27 bl_C yp_m276 276 [18, 755, 1251] false bl_S13) = true := by decide +kernel
set_option maxRecDepth 10000000 in
theorem bl_h14 : bl_ok (bx_run yp_P [bk_13, bk_112] 600 27 bl_C yp_m276 276 [18, 755, 1251] false bl_S14) = true := by decide +kernel
set_option maxRecDepth 10000000 in
theorem bl_h15 : bl_ok (bx_run yp_P [bk_14, bk_61] 600 27 bl_C yp_m276 276 [18, 755, 1251] false bl_S15) = true := by decide +kernel
set_option maxRecDepth 10000000 in
theorem bl_h16 : bl_ok (bx_run yp_P [bk_15, bk_62] 600 27 bl_C yp_m276 276 [18, 755, 1251] false bl_S16) = true := by decide +kernel
set_option maxRecDepth 10000000 in
theorem bl_h17 : bl_ok (bx_run yp_P [bk_16, bk_63] 600 27 bl_C yp_m276 276 [18, 755, 1251] false bl_S17) = true := by decide +kernel
set_option maxRecDepth 10000000 in
theorem bl_h18 : bl_ok (bx_run yp_P [bk_17, bk_64] 600 27 bl_C yp_m276 276 [18, 755, 1251] false bl_S18) = true := by decide +kernel
set_option maxRecDepth 10000000 in
theorem bl_h19 : bl_ok (bx_run yp_P [bk_18, bk_65] 600 27 bl_C yp_m276 276 [18, 755, 1251] false bl_S19) = true := by decide +kernel
set_option maxRecDepth 10000000 in
theorem bl_h20 : bl_ok (bx_run yp_P [bk_19, bk_66] 600 27 bl_C yp_m276 276 [18, 755, 1251] false bl_S20) = true := by decide +kernel
set_option maxRecDepth 10000000 in
theorem bl_h21 : bl_ok (bx_run yp_P [bk_20, bk_67] 600 27 bl_C yp_m276 276 [18, 755, 1251] false bl_S21) = true := by decide +kernel
set_option maxRecDepth 10000000 in
theorem bl_h22 : bl_ok (bx_run yp_P [bk_21, bk_68] 600 27 bl_C yp_m276 276 [18, 755, 1251] false bl_S22) = true := by decide +kernel
set_option maxRecDepth 10000000 in
theorem bl_h23 : bl_ok (bx_run yp_P [bk_22, bk_69] 600 27 bl_C yp_m276 276 [18, 755, 1251] false bl_S23) = true := by decide +kernel
set_option maxRecDepth 10000000 in
theorem bl_h24 : bl_ok (bx_run yp_P [bk_23, bk_70] 600 27 bl_C yp_m276 276 [18, 755, 1251] false bl_S24) = true := by decide +kernel
set_option maxRecDepth 10000000 in
theorem bl_h25 : bl_ok (bx_run yp_P [bk_24, bk_113] 600 27 bl_C yp_m276 276 [18, 755, 1251] false bl_S25) = true := by decide +kernel
set_option maxRecDepth 10000000 in
theorem bl_h26 : bl_ok (bx_run yp_P [bk_25, bk_114] 600 27 bl_C yp_m276 276 [18, 755, 1251] false bl_S26) = true := by decide +kernel
set_option maxRecDepth 10000000 in
theorem bl_h27 : bl_ok (bx_run yp_P [bk_26, bk_115] 600 27 bl_C yp_m276 276 [18, 755, 1251] false bl_S27) = true := by decide +kernel
set_option maxRecDepth 10000000 in
theorem bl_h28 : bl_ok (bx_run yp_P [] 600 27 bl_C yp_m276 276 [18, 755, 1251] false bl_S28) = true := by decide +kernel
set_option maxRecDepth 10000000 in
theorem bl_h29 : bl_ok (bx_run yp_P [bk_27, bk_71] 600 27 bl_C yp_m276 276 [18, 755, 1251] false bl_S29) = true := by decide +kernel
set_option maxRecDepth 10000000 in
theorem bl_h30 : bl_ok (bx_run yp_P [] 600 27 bl_C yp_m276 276 [18, 755, 1251] false bl_S30) = true := by decide +kernel
set_option maxRecDepth 10000000 in
theorem bl_h31 : bl_ok (bx_run yp_P [] 600 27 bl_C yp_m276 276 [18, 755, 1251] false bl_S31) = true := by decide +kernel
set_option maxRecDepth 10000000 in
theorem bl_h32 : bl_ok (bx_run yp_P [] 600 27 bl_C yp_m276 276 [18, 755, 1251] false bl_S32) = true := by decide +kernel
