/-! the contracts by hand hold -/
theorem bw_all {xs : List Int32} (hL : xs.length ≤ 4096) : ∃ X : sx_W → Prop, (∀ w, ax_gw xs yq_W0 w → X w) ∧ bw_H xs X := by
  have hk : bx_keeps xs bw_PC (gx_XW gx_X) := by
    intro w w' h hX
    refine gx_X_c (gx_m w) (gx_m w') (fun q hq k h1 h2 => ?_) hX
    have hc : q.1 < 100000 := by
      have : ∀ q ∈ bw_PC, q.1 < 100000 := by decide
      exact this q hq
    have e := h q.1 k ⟨q, hq, rfl, h1, h2⟩
    rw [bx_rd_w hc, bx_rd_w hc] at e
    unfold gx_m fx_i
    rw [e]
  have h1 : bw_H1 xs (gx_XW gx_X) := ⟨hL, hk⟩
  refine ⟨gx_XW gx_X, fun w hw => ?_, hL, hk, ?_⟩
  · -- no clause stands at first
    have h0 : ∃ r, yq_W0[86]? = some (10, r) ∧ ax_nth r 13 = some (0, 0, 0) := ⟨_, rfl, rfl⟩
    obtain ⟨r, e1, e2⟩ := h0
    obtain ⟨x, g1, -, g3⟩ := ax_gw_at hw e1
    obtain ⟨v, v1, z, rfl, z1, z2⟩ := ax_seg_nth g3 e2
    have e : gx_m w 86 13 = 0 := by
      unfold gx_m
      rw [gx_rd_i (x := z) (by unfold gx_rd; rw [g1]; exact v1)]
      have z1' : 0 ≤ z.toInt := z1
      have z2' : z.toInt ≤ 0 := z2
      omega
    intro q hq hlt
    rw [e] at hlt
    omega
  · intro K hK
    simp only [bw_hand, List.mem_cons, List.not_mem_nil, or_false] at hK
    rcases hK with rfl | rfl | rfl | rfl | rfl | rfl | rfl | rfl | rfl | rfl
    · exact gk_linked gx_X_c
    · exact gk_share h1
    · exact gk_order h1
    · exact gk_sold h1
    · exact gk_law
    · exact gk_isBarred h1
    · exact gk_ring h1
    · exact gk_byLaw 10 (by decide)
    · exact gk_byLaw 999 (by decide)
    · exact gk_byLaw 99 (by decide)
