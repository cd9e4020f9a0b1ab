/-! law, by both -/
theorem hw_law {xs : List Int32} {n : Nat} {m : gx_M} {a : Int} (hR : hTp m) : hxn xs n yp_m22 0 [(0, .inr (.inl 0)), (1, .inl a)] [] m (fun r1 m1 => ∃ v, r1 = some (.inl v) ∧ hxn xs n yp_m168 0 [(0, .inr (.inl 86)), (1, .inl a)] [] m1 (fun r2 m2 => r2 = some (.inl v) ∧ hTp m2)) := by
  have hR' := hR
  obtain ⟨h1, h2, h3, h4⟩ := hR
  by_cases hN : 1 ≤ a ∧ a ≤ 240 ∧ a ≤ m 1 1
  · obtain ⟨N, rfl⟩ : ∃ N : Nat, a = (N : Int) := ⟨a.toNat, by omega⟩
    refine c22 (by omega) hN.2.2 (fun K CL m1 ok lw z f => ?_) (fun f m1 wr z fl => ?_)
    · have e4 : m1 86 4 = m 86 4 := f 86 4 (by decide) (by decide) (by decide) (by decide) (by decide) (by decide) (by omega) (by decide) (by decide) (by decide) (by decide) (by decide) (by decide) (by decide) (by decide) (by decide) (by omega)
      refine ⟨_, rfl, r168T (T := m 2) (by omega) (by omega) (fun k hk => ?_) ok (fun m2 lw2 z2 g => ⟨rfl, ?_⟩)⟩
      · rw [f 90 k (by decide) (by decide) (by decide) (by decide) (by decide) (by decide) (by omega) (by decide) (by decide) (by decide) (by decide) (by decide) (by decide) (by decide) (by decide) (by decide) (by omega)]
        exact h4 k (by omega)
      · have e1 : m2 1 1 = 0 := by
          rw [g.1 1 1 (by decide) (by decide) (by decide) (by decide) (by decide) (by decide) (by decide) (by decide) (by decide) (by decide) (by decide) (by decide)]
          exact z
        exact ⟨by omega, by omega, by omega, fun k hk => absurd hk (by omega)⟩
    · have e4 : m1 86 4 = m 86 4 := fl 86 4 (by decide) (by decide) (by decide) (by decide) (by decide) (by decide) (by decide) (by decide) (by decide) (by omega)
      refine ⟨_, rfl, r168F (T := m 2) (by omega) (by omega) (fun k hk => ?_) wr (fun m2 z2 g => ⟨rfl, ?_⟩)⟩
      · rw [fl 90 k (by decide) (by decide) (by decide) (by decide) (by decide) (by decide) (by decide) (by decide) (by decide) (by omega)]
        exact h4 k (by omega)
      · have e1 : m2 1 1 = 0 := by
          rw [g.1 1 1 (by decide) (by decide) (by decide) (by decide) (by decide) (by decide) (by decide)]
          exact z
        exact ⟨by omega, by omega, by omega, fun k hk => absurd hk (by omega)⟩
  · exact c22n hN ⟨-1, rfl, r168n (by rw [← h3]; exact hN) ⟨rfl, hR'⟩⟩
