section
/-! what stands when nothing of the state is written -/
theorem hPR_of {m m' : gx_M} (h : ∀ c k, ((c = 0 ∧ 12 ≤ k ∧ k < 14) ∨ (5 ≤ c ∧ c ≤ 30) ∨ (c = 44 ∧ k = 7) ∨ (45 ≤ c ∧ c ≤ 50) ∨ (c = 86 ∧ (k = 13 ∨ k = 44 ∨ k = 47)) ∨ (c = 87 ∧ k < 1131) ∨ (c = 89 ∧ k < 1131) ∨ (97 ≤ c ∧ c ≤ 101)) → m' c k = m c k) : hAg hPR m m' := by
  intro q hq k h1 h2
  refine h q.1 k ?_
  simp only [hPR, hPL, List.cons_append, List.nil_append, List.mem_cons, List.not_mem_nil, or_false] at hq
  rcases hq with rfl | rfl | rfl | rfl | rfl | rfl | rfl | rfl | rfl | rfl | rfl | rfl | rfl | rfl | rfl | rfl | rfl | rfl | rfl | rfl | rfl | rfl | rfl | rfl | rfl | rfl | rfl | rfl | rfl | rfl | rfl | rfl | rfl | rfl | rfl | rfl | rfl | rfl | rfl | rfl | rfl | rfl | rfl | rfl <;> (dsimp only at h1 h2 ⊢; omega)
theorem cLf_R {m m' : gx_M} (h : cLf m m') : hAg hPR m m' := hPR_of (fun c k hc => h c k (by omega) (by omega))
theorem rLf_R {m m' : gx_M} (h : rLf m m') : hAg hPR m m' := hPR_of (fun c k hc => congrFun (h c (by omega) (by omega)) k)
end
section
/-! the trial's book, copied -/
section TK
variable {m : gx_M} {s : Nat → Int}
theorem sBk31_c {m' : gx_M} (hC : hCp_31_5 m m') (hB : sBk 5 s m) : sBk 31 s m' := by
  obtain ⟨k0, k1, k2, k3, k4, a1, a2, a3, a4, a5, a6, a7, a8, a9, a10, a11, a12, kn⟩ := hC
  obtain ⟨⟨q1, q2, q3, q4, q5⟩, b2, b3, b4⟩ := hB
  refine ⟨⟨by rw [k0]; exact q1, by rw [k1]; exact q2, by rw [k2]; exact q3, by rw [k3]; exact q4, by rw [k4]; exact q5⟩, fun p hp => (a1 p hp).trans (b2 p hp), fun y hy => ?_, fun k hk => (a12 k hk).trans (b4 k hk)⟩
  obtain ⟨⟨z1, z2, z3, z4, z5⟩, z6, z7, z8, z9, z10⟩ := b3 y hy
  exact ⟨⟨(a2 y hy).trans z1, (a3 y hy).trans z2, (a4 y hy).trans z3, (a5 y hy).trans z4, (a6 y hy).trans z5⟩, (a7 y hy).trans z6, fun ht => (a8 y hy).trans (z7 ht), (a9 y hy).trans z8, (a10 y hy).trans z9, (a11 y hy).trans z10⟩
theorem hCp31_f {m' : gx_M} (hC : hCp_31_5 m m') : ∀ c, (c < 31 ∨ 43 < c) → m' c = m c := fun c hc => by
  obtain ⟨-, -, -, -, -, -, -, -, -, -, -, -, -, -, -, -, -, kn⟩ := hC
  refine kn c ?_
  simp only [List.mem_cons, List.not_mem_nil, or_false, not_or]
  omega
end TK
end
