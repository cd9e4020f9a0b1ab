/-! the check's way, piece by piece (one run for all of them takes too much memory) -/
set_option maxRecDepth 10000000 in
theorem bf_h0 : bl_ok (bx_run yp_P [bk_30, bk_87, bk_96] 700 27 bl_C yp_m276 276 [18, 1251] false (bf_T (0, 260) ((-2147483648), (-1)))) = true := by decide +kernel
set_option maxRecDepth 10000000 in
theorem bf_h1 : bl_ok (bx_run yp_P [bk_30, bk_87, bk_96] 700 27 bl_C yp_m276 276 [18, 1251] false (bf_T (0, 260) (41, 2147483647))) = true := by decide +kernel
set_option maxRecDepth 10000000 in
theorem bf_h2 : bl_ok (bx_run yp_P [bk_30, bk_87, bk_96] 700 27 bl_C yp_m276 276 [18, 1251] false (bf_T (0, 0) (0, 0))) = true := by decide +kernel
set_option maxRecDepth 10000000 in
theorem bf_h3 : bl_ok (bx_run yp_P [bk_30, bk_87, bk_96] 700 27 bl_C yp_m276 276 [18, 1251] false (bf_T (0, 0) (1, 40))) = true := by decide +kernel
set_option maxRecDepth 10000000 in
theorem bf_h4 : bl_ok (bx_run yp_P [bk_30, bk_87, bk_96] 700 27 bl_C yp_m276 276 [18, 1251] false (bf_T (20, 20) (0, 5))) = true := by decide +kernel
set_option maxRecDepth 10000000 in
theorem bf_h5 : bl_ok (bx_run yp_P [bk_30, bk_87, bk_96] 700 27 bl_C yp_m276 276 [18, 1251] false (bf_T (20, 20) (6, 40))) = true := by decide +kernel
set_option maxRecDepth 10000000 in
theorem bf_h6 : bl_ok (bx_run yp_P [bk_30, bk_87, bk_96] 700 27 bl_C yp_m276 276 [18, 1251] false (bf_T (40, 40) (0, 10))) = true := by decide +kernel
set_option maxRecDepth 10000000 in
theorem bf_h7 : bl_ok (bx_run yp_P [bk_30, bk_87, bk_96] 700 27 bl_C yp_m276 276 [18, 1251] false (bf_T (40, 40) (11, 40))) = true := by decide +kernel
set_option maxRecDepth 10000000 in
theorem bf_h8 : bl_ok (bx_run yp_P [bk_30, bk_87, bk_96] 700 27 bl_C yp_m276 276 [18, 1251] false (bf_T (60, 60) (0, 15))) = true := by decide +kernel
set_option maxRecDepth 10000000 in
theorem bf_h9 : bl_ok (bx_run yp_P [bk_30, bk_87, bk_96] 700 27 bl_C yp_m276 276 [18, 1251] false (bf_T (60, 60) (16, 40))) = true := by decide +kernel
set_option maxRecDepth 10000000 in
theorem bf_h10 : bl_ok (bx_run yp_P [bk_30, bk_87, bk_96] 700 27 bl_C yp_m276 276 [18, 1251] false (bf_T (80, 80) (0, 20))) = true := by decide +kernel
set_option maxRecDepth 10000000 in
theorem bf_h11 : bl_ok (bx_run yp_P [bk_30, bk_87, bk_96] 700 27 bl_C yp_m276 276 [18, 1251] false (bf_T (80, 80) (21, 40))) = true := by decide +kernel
set_option maxRecDepth 10000000 in
theorem bf_h12 : bl_ok (bx_run yp_P [bk_30, bk_87, bk_96] 700 27 bl_C yp_m276 276 [18, 1251] false (bf_T (100, 100) (0, 25))) = true := by decide +kernel
set_option maxRecDepth 10000000 in
theorem bf_h13 : bl_ok (bx_run yp_P [bk_30, bk_87, bk_96] 700 27 bl_C yp_m276 276 [18, 1251] false (bf_T (100, 100) (26, 40))) = true := by decide +kernel
set_option maxRecDepth 10000000 in
theorem bf_h14 : bl_ok (bx_run yp_P [bk_30, bk_87, bk_96] 700 27 bl_C yp_m276 276 [18, 1251] false (bf_T (120, 120) (0, 30))) = true := by decide +kernel
set_option maxRecDepth 10000000 in
theorem bf_h15 : bl_ok (bx_run yp_P [bk_30, bk_87, bk_96] 700 27 bl_C yp_m276 276 [18, 1251] false (bf_T (120, 120) (31, 40))) = true := by decide +kernel
set_option maxRecDepth 10000000 in
theorem bf_h16 : bl_ok (bx_run yp_P [bk_30, bk_87, bk_96] 700 27 bl_C yp_m276 276 [18, 1251] false (bf_T (140, 140) (0, 35))) = true := by decide +kernel
set_option maxRecDepth 10000000 in
theorem bf_h17 : bl_ok (bx_run yp_P [bk_30, bk_87, bk_96] 700 27 bl_C yp_m276 276 [18, 1251] false (bf_T (140, 140) (36, 40))) = true := by decide +kernel
set_option maxRecDepth 10000000 in
theorem bf_h18 : bl_ok (bx_run yp_P [bk_30, bk_87, bk_96] 700 27 bl_C yp_m276 276 [18, 1251] false (bf_T (160, 160) (0, 40))) = true := by decide +kernel
set_option maxRecDepth 10000000 in
theorem bf_h19 : bl_ok (bx_run yp_P [bk_30, bk_87, bk_96] 700 27 bl_C yp_m276 276 [18, 1251] false (bf_T (180, 180) (0, 40))) = true := by decide +kernel
set_option maxRecDepth 10000000 in
theorem bf_h20 : bl_ok (bx_run yp_P [bk_30, bk_87, bk_96] 700 27 bl_C yp_m276 276 [18, 1251] false (bf_T (200, 200) (0, 40))) = true := by decide +kernel
set_option maxRecDepth 10000000 in
theorem bf_h21 : bl_ok (bx_run yp_P [bk_30, bk_87, bk_96] 700 27 bl_C yp_m276 276 [18, 1251] false (bf_T (220, 220) (0, 40))) = true := by decide +kernel
set_option maxRecDepth 10000000 in
theorem bf_h22 : bl_ok (bx_run yp_P [bk_30, bk_87, bk_96] 700 27 bl_C yp_m276 276 [18, 1251] false (bf_T (240, 240) (0, 40))) = true := by decide +kernel
set_option maxRecDepth 10000000 in
theorem bf_h23 : bl_ok (bx_run yp_P [bk_30, bk_87, bk_96] 700 27 bl_C yp_m276 276 [18, 1251] false (bf_T (260, 260) (0, 40))) = true := by decide +kernel
theorem bf_hP : ∀ cp ∈ bf_P, bl_ok (bx_run yp_P [bk_30, bk_87, bk_96] 700 27 bl_C yp_m276 276 [18, 1251] false (bf_T cp.1 cp.2)) = true := by
  unfold bf_P
  exact (List.forall_mem_cons.mpr ⟨bf_h0, (List.forall_mem_cons.mpr ⟨bf_h1, (List.forall_mem_cons.mpr ⟨bf_h2, (List.forall_mem_cons.mpr ⟨bf_h3, (List.forall_mem_cons.mpr ⟨bf_h4, (List.forall_mem_cons.mpr ⟨bf_h5, (List.forall_mem_cons.mpr ⟨bf_h6, (List.forall_mem_cons.mpr ⟨bf_h7, (List.forall_mem_cons.mpr ⟨bf_h8, (List.forall_mem_cons.mpr ⟨bf_h9, (List.forall_mem_cons.mpr ⟨bf_h10, (List.forall_mem_cons.mpr ⟨bf_h11, (List.forall_mem_cons.mpr ⟨bf_h12, (List.forall_mem_cons.mpr ⟨bf_h13, (List.forall_mem_cons.mpr ⟨bf_h14, (List.forall_mem_cons.mpr ⟨bf_h15, (List.forall_mem_cons.mpr ⟨bf_h16, (List.forall_mem_cons.mpr ⟨bf_h17, (List.forall_mem_cons.mpr ⟨bf_h18, (List.forall_mem_cons.mpr ⟨bf_h19, (List.forall_mem_cons.mpr ⟨bf_h20, (List.forall_mem_cons.mpr ⟨bf_h21, (List.forall_mem_cons.mpr ⟨bf_h22, (List.forall_mem_cons.mpr ⟨bf_h23, (fun _ h => by cases h)⟩)⟩)⟩)⟩)⟩)⟩)⟩)⟩)⟩)⟩)⟩)⟩)⟩)⟩)⟩)⟩)⟩)⟩)⟩)⟩)⟩)⟩)⟩)⟩)
