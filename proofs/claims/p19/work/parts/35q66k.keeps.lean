/-! what stands when nothing of the state is written -/
theorem hPR_of {m m' : gx_M} (h : ∀ c k, ((c = 0 ∧ 12 ≤ k ∧ k < 14) ∨ (5 ≤ c ∧ c ≤ 30) ∨ (c = 44 ∧ k = 7) ∨ (45 ≤ c ∧ c ≤ 50) ∨ (c = 86 ∧ (k = 13 ∨ k = 44 ∨ k = 47)) ∨ (c = 87 ∧ k < 1131) ∨ (c = 89 ∧ k < 1131) ∨ (97 ≤ c ∧ c ≤ 101)) → m' c k = m c k) : hAg hPR m m' := by
  intro q hq k h1 h2
  refine h q.1 k ?_
  simp only [hPR, hPL, List.cons_append, List.nil_append, List.mem_cons, List.not_mem_nil, or_false] at hq
  rcases hq with rfl | rfl | rfl | rfl | rfl | rfl | rfl | rfl | rfl | rfl | rfl | rfl | rfl | rfl | rfl | rfl | rfl | rfl | rfl | rfl | rfl | rfl | rfl | rfl | rfl | rfl | rfl | rfl | rfl | rfl | rfl | rfl | rfl | rfl | rfl | rfl | rfl | rfl | rfl | rfl | rfl | rfl | rfl | rfl <;> (dsimp only at h1 h2 ⊢; omega)
theorem cLf_R {m m' : gx_M} (h : cLf m m') : hAg hPR m m' := hPR_of (fun c k hc => h c k (by omega) (by omega))
theorem rLf_R {m m' : gx_M} (h : rLf m m') : hAg hPR m m' := hPR_of (fun c k hc => congrFun (h c (by omega) (by omega)) k)
