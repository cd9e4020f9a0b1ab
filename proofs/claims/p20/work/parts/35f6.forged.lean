/-! forged: both -/
theorem hw_forged {xs : List Int32} {n : Nat} {m : gx_M} {x1 x2 : Int} (hj : hJ gx_X m) (hR : hRS m) : hxn xs n yp_m127 0 [(0, .inr (.inl 0)), (1, .inl x1), (2, .inl x2)] [] m (fun r1 m1 => ∃ v, (r1 = some v ∧ hLng v) ∧ hxn xs n yp_m252 0 [(0, .inr (.inl 86)), (1, .inl x1), (2, .inl x2)] [] m1 (fun r2 m2 => r2 = some v ∧ hRS m2)) := by
  have hS := hR.1
  have hr : ∀ y, y < 40 → 0 ≤ m 11 y ∧ m 11 y ≤ 9 := fun y hy => hj.1 11 100 [(40, (0, 0, 9))] y 0 9 rfl (if_pos hy)
  refine hs127 hS hr (fun m' ho => ⟨_, ⟨rfl, _, rfl⟩, ?_⟩)
  have e87 : m' 87 = m 87 := ho 87 (by decide) (by decide)
  have hr' : ∀ y, y < 40 → 0 ≤ m' 87 (200 + y) ∧ m' 87 (200 + y) ≤ 9 := fun y hy => by
    rw [e87, ← fma hS (fOff_r m) hy]
    exact hr y hy
  refine hs252 hr' ?_
  rw [e87]
  exact ⟨rfl, hRS_c (fOff_Ag ho) hR⟩
