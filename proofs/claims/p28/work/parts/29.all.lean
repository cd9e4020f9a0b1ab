/-! the contracts by hand: still open -/
theorem bw_all {xs : List Int32} (hL : xs.length ≤ 4096) : ∃ X : sx_W → Prop, (∀ w, ax_gw xs yq_W0 w → X w) ∧ bw_H xs X := by
  sorry
