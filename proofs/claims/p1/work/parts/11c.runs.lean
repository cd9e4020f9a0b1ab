/-! the kernel reads the contracts' roads -/
def yq_s11_0 : ax_S := ([], 15, [(2, (0, 99, 99)), (0, (2, 88, 0)), (1, (2, 87, 0))], [], yq_WT, 0, 0)
set_option maxRecDepth 10000000 in
theorem yq_f11_0 : ax_eqS (ax_for yp_P 1100 yp_m212 0 0 ([], 0, ax_args 0 yq_k11.2.1, [], yq_k11.2.2.1, 0, 0)) yq_s11_0 = true := by decide +kernel
def yq_s11_1 : ax_S := ([], 15, [(2, (0, 199, 199)), (0, (2, 88, 0)), (1, (2, 87, 0))], [], yq_WT, 0, 0)
set_option maxRecDepth 10000000 in
theorem yq_f11_1 : ax_eqS (ax_for yp_P 1100 yp_m212 0 0 yq_s11_0) yq_s11_1 = true := by decide +kernel
def yq_s11_2 : ax_S := ([], 15, [(2, (0, 299, 299)), (0, (2, 88, 0)), (1, (2, 87, 0))], [], yq_WT, 0, 0)
set_option maxRecDepth 10000000 in
theorem yq_f11_2 : ax_eqS (ax_for yp_P 1100 yp_m212 0 0 yq_s11_1) yq_s11_2 = true := by decide +kernel
def yq_s11_3 : ax_S := ([], 15, [(2, (0, 399, 399)), (0, (2, 88, 0)), (1, (2, 87, 0))], [], yq_WT, 0, 0)
set_option maxRecDepth 10000000 in
theorem yq_f11_3 : ax_eqS (ax_for yp_P 1100 yp_m212 0 0 yq_s11_2) yq_s11_3 = true := by decide +kernel
def yq_s11_4 : ax_S := ([], 15, [(2, (0, 499, 499)), (0, (2, 88, 0)), (1, (2, 87, 0))], [], yq_WT, 0, 0)
set_option maxRecDepth 10000000 in
theorem yq_f11_4 : ax_eqS (ax_for yp_P 1100 yp_m212 0 0 yq_s11_3) yq_s11_4 = true := by decide +kernel
def yq_s11_5 : ax_S := ([], 15, [(2, (0, 599, 599)), (0, (2, 88, 0)), (1, (2, 87, 0))], [], yq_WT, 0, 0)
set_option maxRecDepth 10000000 in
theorem yq_f11_5 : ax_eqS (ax_for yp_P 1100 yp_m212 0 0 yq_s11_4) yq_s11_5 = true := by decide +kernel
def yq_s11_6 : ax_S := ([], 15, [(2, (0, 699, 699)), (0, (2, 88, 0)), (1, (2, 87, 0))], [], yq_WT, 0, 0)
set_option maxRecDepth 10000000 in
theorem yq_f11_6 : ax_eqS (ax_for yp_P 1100 yp_m212 0 0 yq_s11_5) yq_s11_6 = true := by decide +kernel
def yq_s11_7 : ax_S := ([], 15, [(2, (0, 799, 799)), (0, (2, 88, 0)), (1, (2, 87, 0))], [], yq_WT, 0, 0)
set_option maxRecDepth 10000000 in
theorem yq_f11_7 : ax_eqS (ax_for yp_P 1100 yp_m212 0 0 yq_s11_6) yq_s11_7 = true := by decide +kernel
def yq_s11_8 : ax_S := ([], 15, [(2, (0, 899, 899)), (0, (2, 88, 0)), (1, (2, 87, 0))], [], yq_WT, 0, 0)
set_option maxRecDepth 10000000 in
theorem yq_f11_8 : ax_eqS (ax_for yp_P 1100 yp_m212 0 0 yq_s11_7) yq_s11_8 = true := by decide +kernel
def yq_s11_9 : ax_S := ([], 15, [(2, (0, 999, 999)), (0, (2, 88, 0)), (1, (2, 87, 0))], [], yq_WT, 0, 0)
set_option maxRecDepth 10000000 in
theorem yq_f11_9 : ax_eqS (ax_for yp_P 1100 yp_m212 0 0 yq_s11_8) yq_s11_9 = true := by decide +kernel
def yq_s11_10 : ax_S := ([], 15, [(2, (0, 1099, 1099)), (0, (2, 88, 0)), (1, (2, 87, 0))], [], yq_WT, 0, 0)
set_option maxRecDepth 10000000 in
theorem yq_f11_10 : ax_eqS (ax_for yp_P 1100 yp_m212 0 0 yq_s11_9) yq_s11_10 = true := by decide +kernel
set_option maxRecDepth 10000000 in
theorem yq_f11 : ax_eqs (ax_run yp_P yq_T11 357 1 yp_m212 0 0 yq_s11_10) yq_k11.2.2.2.1 = true := by decide +kernel
theorem yq_r11 : ax_eqs (ax_run yp_P yq_T11 12457 1 yp_m212 0 0 ([], 0, ax_args 0 yq_k11.2.1, [], yq_k11.2.2.1, 0, 0)) yq_k11.2.2.2.1 = true := by
  rw [show (12457 : Nat) = 1100 + 11357 from rfl, ax_for_run 1100 _ (ax_eqS_ok yq_f11_0)]
  rw [show (11357 : Nat) = 1100 + 10257 from rfl, ax_for_run 1100 _ (ax_eqS_ok yq_f11_1)]
  rw [show (10257 : Nat) = 1100 + 9157 from rfl, ax_for_run 1100 _ (ax_eqS_ok yq_f11_2)]
  rw [show (9157 : Nat) = 1100 + 8057 from rfl, ax_for_run 1100 _ (ax_eqS_ok yq_f11_3)]
  rw [show (8057 : Nat) = 1100 + 6957 from rfl, ax_for_run 1100 _ (ax_eqS_ok yq_f11_4)]
  rw [show (6957 : Nat) = 1100 + 5857 from rfl, ax_for_run 1100 _ (ax_eqS_ok yq_f11_5)]
  rw [show (5857 : Nat) = 1100 + 4757 from rfl, ax_for_run 1100 _ (ax_eqS_ok yq_f11_6)]
  rw [show (4757 : Nat) = 1100 + 3657 from rfl, ax_for_run 1100 _ (ax_eqS_ok yq_f11_7)]
  rw [show (3657 : Nat) = 1100 + 2557 from rfl, ax_for_run 1100 _ (ax_eqS_ok yq_f11_8)]
  rw [show (2557 : Nat) = 1100 + 1457 from rfl, ax_for_run 1100 _ (ax_eqS_ok yq_f11_9)]
  rw [show (1457 : Nat) = 1100 + 357 from rfl, ax_for_run 1100 _ (ax_eqS_ok yq_f11_10)]
  exact yq_f11
