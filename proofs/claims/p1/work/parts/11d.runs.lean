/-! the kernel reads the contracts' roads -/
theorem yq_r12 : ax_eqs (ax_run yp_P yq_T12 12457 1 yp_m212 0 0 ([], 0, ax_args 0 yq_k12.2.1, [], yq_k12.2.2.1, 0, 0)) yq_k12.2.2.2.1 = true := by decide +kernel
