/-! the kernel reads the contracts' roads -/
theorem yq_r0 : ax_eqs (ax_run yp_P yq_T0 414 3 yp_m0 85 11226 ([], 0, ax_args 0 yq_k0.2.1, [], yq_k0.2.2.1, 0, 0)) yq_k0.2.2.2.1 = true := by decide +kernel
theorem yq_r1 : ax_eqs (ax_run yp_P yq_T1 627 1 yp_m160 31 10917 ([], 0, ax_args 0 yq_k1.2.1, [], yq_k1.2.2.1, 0, 0)) yq_k1.2.2.2.1 = true := by decide +kernel
theorem yq_r2 : ax_eqs (ax_run yp_P yq_T2 1460 4 yp_m129 0 0 ([], 0, ax_args 0 yq_k2.2.1, [], yq_k2.2.2.1, 0, 0)) yq_k2.2.2.2.1 = true := by decide +kernel
theorem yq_r3 : ax_eqs (ax_run yp_P yq_T3 1139 3 yp_m254 0 0 ([], 0, ax_args 0 yq_k3.2.1, [], yq_k3.2.2.1, 0, 0)) yq_k3.2.2.2.1 = true := by decide +kernel
theorem yq_r4 : ax_eqs (ax_run yp_P yq_T4 139 4 yp_m256 0 0 ([], 0, ax_args 0 yq_k4.2.1, [], yq_k4.2.2.1, 0, 0)) yq_k4.2.2.2.1 = true := by decide +kernel
theorem yq_r5 : ax_eqs (ax_run yp_P yq_T5 1299 5 yp_m135 0 0 ([], 0, ax_args 0 yq_k5.2.1, [], yq_k5.2.2.1, 0, 0)) yq_k5.2.2.2.1 = true := by decide +kernel
theorem yq_r6 : ax_eqs (ax_run yp_P yq_T6 208 5 yp_m136 0 0 ([], 0, ax_args 0 yq_k6.2.1, [], yq_k6.2.2.1, 0, 0)) yq_k6.2.2.2.1 = true := by decide +kernel
theorem yq_r7 : ax_eqs (ax_run yp_P yq_T7 1299 5 yp_m135 0 0 ([], 0, ax_args 0 yq_k7.2.1, [], yq_k7.2.2.1, 0, 0)) yq_k7.2.2.2.1 = true := by decide +kernel
theorem yq_r8 : ax_eqs (ax_run yp_P yq_T8 208 5 yp_m136 0 0 ([], 0, ax_args 0 yq_k8.2.1, [], yq_k8.2.2.1, 0, 0)) yq_k8.2.2.2.1 = true := by decide +kernel
theorem yq_r9 : ax_eqs (ax_run yp_P yq_T9 1255 5 yp_m259 0 0 ([], 0, ax_args 0 yq_k9.2.1, [], yq_k9.2.2.1, 0, 0)) yq_k9.2.2.2.1 = true := by decide +kernel
