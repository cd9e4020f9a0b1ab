/-! the kernel reads the contracts' roads -/
set_option maxRecDepth 10000000 in
theorem yq_r10 : ax_eqs (ax_run yp_P yq_T10 12457 1 yp_m212 0 0 ([], 0, ax_args 0 yq_k10.2.1, [], yq_k10.2.2.1, 0, 0)) yq_k10.2.2.2.1 = true := by decide +kernel
