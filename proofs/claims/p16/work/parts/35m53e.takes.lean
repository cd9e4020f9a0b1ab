/-! the tape: the ways of those that take from it -/
section HZ
variable {xs : List Int32} {a1 a2 a3 : Int}
theorem hz48 (H : bw_H xs (gx_XW gx_X)) (b1 : hB a1) : ∀ n m, hJ gx_X m → hxn xs n yp_m48 0 [(0, .inr (.inl 0)), (1, .inl a1)] [] m (fun _ m1 => ((1 ≤ a1 ∧ a1 ≤ 160 ∧ a1 ≤ (m 1 1)) → m1 1 1 = 0) ∧ (¬ (1 ≤ a1 ∧ a1 ≤ 160 ∧ a1 ≤ (m 1 1)) → m1 1 1 = (m 1 1))) := by
  intro n m j
  exact hx_dn (ht48 (fun c0 => hx_Kp gx_X_c (bh_48 H) rfl (by decide) rfl ⟨⟨by decide, rfl, rfl⟩, ⟨rfl, by dsimp only; omega, by dsimp only; omega⟩, trivial⟩ j (fun v m1 e => ⟨fun _ => e, fun nc => absurd (c0) nc⟩)) (fun c0 => ⟨fun yc => absurd yc (c0), fun _ => rfl⟩))
theorem hz70 (H : bw_H xs (gx_XW gx_X)) (b1 : hB a1) : ∀ n m, hJ gx_X m → hxn xs n yp_m70 0 [(0, .inr (.inl 0)), (1, .inl a1)] [] m (fun _ m1 => ((1 ≤ a1 ∧ a1 ≤ 160 ∧ a1 ≤ (m 1 1)) → m1 1 1 = 0) ∧ (¬ (1 ≤ a1 ∧ a1 ≤ 160 ∧ a1 ≤ (m 1 1)) → m1 1 1 = (m 1 1))) := by
  intro n m j
  exact hx_dn (ht70 (fun c0 => hx_Kp gx_X_c (bh_70 H) rfl (by decide) rfl ⟨⟨by decide, rfl, rfl⟩, ⟨rfl, by dsimp only; omega, by dsimp only; omega⟩, trivial⟩ j (fun v m1 e => ⟨fun _ => e, fun nc => absurd (c0) nc⟩)) (fun c0 => ⟨fun yc => absurd yc (c0), fun _ => rfl⟩))
theorem hz107 (H : bw_H xs (gx_XW gx_X)) (b1 : hB a1) (b2 : hB a2) (b3 : hB a3) : ∀ n m, hJ gx_X m → hxn xs n yp_m107 0 [(0, .inr (.inl 0)), (1, .inl a1), (2, .inl a2), (3, .inl a3)] [] m (fun _ m1 => ((1 ≤ a1 ∧ a1 ≤ 6 ∧ a1 ≤ (m 1 1)) → m1 1 1 = 0) ∧ (¬ (1 ≤ a1 ∧ a1 ≤ 6 ∧ a1 ≤ (m 1 1)) → m1 1 1 = (m 1 1))) := by
  intro n m j
  exact hx_dn (ht107 (fun c0 => hx_Kp gx_X_c (bh_107 H) rfl (by decide) rfl ⟨⟨by decide, rfl, rfl⟩, ⟨rfl, by dsimp only; omega, by dsimp only; omega⟩, ⟨rfl, b2⟩, ⟨rfl, b3⟩, trivial⟩ j (fun v m1 e => ⟨fun _ => e, fun nc => absurd (c0) nc⟩)) (fun c0 => ⟨fun yc => absurd yc (c0), fun _ => rfl⟩))
theorem hz120 (H : bw_H xs (gx_XW gx_X)) (b1 : hB a1) (b2 : hB a2) : ∀ n m, hJ gx_X m → hxn xs n yp_m120 0 [(0, .inr (.inl 0)), (1, .inl a1), (2, .inl a2)] [] m (fun _ m1 => ((1 ≤ a1 ∧ a1 ≤ 8 ∧ a1 ≤ (m 1 1)) → m1 1 1 = 0) ∧ (¬ (1 ≤ a1 ∧ a1 ≤ 8 ∧ a1 ≤ (m 1 1)) → m1 1 1 = (m 1 1))) := by
  intro n m j
  exact hx_dn (ht120 (fun c0 => hx_Kp gx_X_c (bh_120 H) rfl (by decide) rfl ⟨⟨by decide, rfl, rfl⟩, ⟨rfl, by dsimp only; omega, by dsimp only; omega⟩, ⟨rfl, b2⟩, trivial⟩ j (fun v m1 e => ⟨fun _ => e, fun nc => absurd (c0) nc⟩)) (fun c0 => ⟨fun yc => absurd yc (c0), fun _ => rfl⟩))
theorem hz139 (H : bw_H xs (gx_XW gx_X)) (b1 : hB a1) (b2 : hB a2) : ∀ n m, hJ gx_X m → hxn xs n yp_m139 0 [(0, .inr (.inl 0)), (1, .inl a1), (2, .inl a2)] [] m (fun _ m1 => ((1 ≤ a1 ∧ a1 ≤ 160 ∧ a1 ≤ (m 1 1)) → m1 1 1 = 0) ∧ (¬ (1 ≤ a1 ∧ a1 ≤ 160 ∧ a1 ≤ (m 1 1)) → m1 1 1 = (m 1 1))) := by
  intro n m j
  exact hx_dn (ht139 (fun c0 => hx_Kp gx_X_c (bh_139 H) rfl (by decide) rfl ⟨⟨by decide, rfl, rfl⟩, ⟨rfl, by dsimp only; omega, by dsimp only; omega⟩, ⟨rfl, b2⟩, trivial⟩ j (fun v m1 e => ⟨fun _ => e, fun nc => absurd (c0) nc⟩)) (fun c0 => ⟨fun yc => absurd yc (c0), fun _ => rfl⟩))
theorem hz156 (H : bw_H xs (gx_XW gx_X)) (b1 : hB a1) : ∀ n m, hJ gx_X m → hxn xs n yp_m156 0 [(0, .inr (.inl 0)), (1, .inl a1)] [] m (fun _ m1 => ((0 ≤ a1 ∧ a1 ≤ 40 ∧ 4 * a1 ≤ (m 1 1)) → m1 1 1 = 0) ∧ (¬ (0 ≤ a1 ∧ a1 ≤ 40 ∧ 4 * a1 ≤ (m 1 1)) → m1 1 1 = (m 1 1))) := by
  intro n m j
  have hb : hB a1 := b1
  unfold hB at hb
  refine hx_dn (ht156 (fun _ => ?_) (fun _ _ => ?_) (fun _ _ _ => ?_) (fun _ _ _ => ?_))
  all_goals first
    | exact ⟨fun c => by omega, fun _ => rfl⟩
    | exact hx_Kp gx_X_c (bh_156 H) rfl (by decide) rfl ⟨⟨by decide, rfl, rfl⟩, ⟨rfl, by dsimp only; omega, by dsimp only; omega⟩, trivial⟩ j (fun v m1 e => ⟨fun _ => e, fun nc => absurd (by omega) nc⟩)
theorem hz190 (H : bw_H xs (gx_XW gx_X)) (b1 : hB a1) : ∀ n m, hJ gx_X m → hxn xs n yp_m190 0 [(0, .inr (.inl 86)), (1, .inl a1)] [] m (fun _ m1 => ((1 ≤ a1 ∧ a1 ≤ 160 ∧ a1 ≤ (m 86 4)) → m1 86 4 = 0) ∧ (¬ (1 ≤ a1 ∧ a1 ≤ 160 ∧ a1 ≤ (m 86 4)) → m1 86 4 = (m 86 4))) := by
  intro n m j
  refine hx_dn (ht190 (fun c1 c2 => ?_) (fun c1 c2 => ?_) (fun c1 => ?_))
  all_goals first
    | exact ⟨fun c => by omega, fun _ => rfl⟩
    | exact hx_Kp gx_X_c (bh_190 H) rfl (by decide) rfl ⟨⟨by decide, rfl, rfl⟩, ⟨rfl, by dsimp only; omega, by dsimp only; omega⟩, trivial⟩ j (fun v m1 e => ⟨fun _ => e, fun nc => absurd (by omega) nc⟩)
theorem hz211 (H : bw_H xs (gx_XW gx_X)) (b1 : hB a1) : ∀ n m, hJ gx_X m → hxn xs n yp_m211 0 [(0, .inr (.inl 86)), (1, .inl a1)] [] m (fun _ m1 => ((1 ≤ a1 ∧ a1 ≤ 160 ∧ a1 ≤ (m 86 4)) → m1 86 4 = 0) ∧ (¬ (1 ≤ a1 ∧ a1 ≤ 160 ∧ a1 ≤ (m 86 4)) → m1 86 4 = (m 86 4))) := by
  intro n m j
  refine hx_dn (ht211 (fun c1 c2 => ?_) (fun c1 c2 => ?_) (fun c1 => ?_))
  all_goals first
    | exact ⟨fun c => by omega, fun _ => rfl⟩
    | exact hx_Kp gx_X_c (bh_211 H) rfl (by decide) rfl ⟨⟨by decide, rfl, rfl⟩, ⟨rfl, by dsimp only; omega, by dsimp only; omega⟩, trivial⟩ j (fun v m1 e => ⟨fun _ => e, fun nc => absurd (by omega) nc⟩)
theorem hz248 (H : bw_H xs (gx_XW gx_X)) (b1 : hB a1) (b2 : hB a2) : ∀ n m, hJ gx_X m → hxn xs n yp_m248 0 [(0, .inr (.inl 86)), (1, .inl a1), (2, .inl a2)] [] m (fun _ m1 => ((1 ≤ a1 ∧ a1 ≤ 8 ∧ a1 ≤ (m 86 4)) → m1 86 4 = 0) ∧ (¬ (1 ≤ a1 ∧ a1 ≤ 8 ∧ a1 ≤ (m 86 4)) → m1 86 4 = (m 86 4))) := by
  intro n m j
  refine hx_dn (ht248 (fun c1 c2 => ?_) (fun c1 c2 => ?_) (fun c1 => ?_))
  all_goals first
    | exact ⟨fun c => by omega, fun _ => rfl⟩
    | exact hx_Kp gx_X_c (bh_248 H) rfl (by decide) rfl ⟨⟨by decide, rfl, rfl⟩, ⟨rfl, by dsimp only; omega, by dsimp only; omega⟩, ⟨rfl, b2⟩, trivial⟩ j (fun v m1 e => ⟨fun _ => e, fun nc => absurd (by omega) nc⟩)
theorem hz272 (H : bw_H xs (gx_XW gx_X)) (b1 : hB a1) : ∀ n m, hJ gx_X m → hxn xs n yp_m272 0 [(0, .inr (.inl 86)), (1, .inl a1)] [] m (fun _ m1 => ((0 ≤ a1 ∧ a1 ≤ 40 ∧ 4 * a1 ≤ (m 86 4)) → m1 86 4 = 0) ∧ (¬ (0 ≤ a1 ∧ a1 ≤ 40 ∧ 4 * a1 ≤ (m 86 4)) → m1 86 4 = (m 86 4))) := by
  intro n m j
  have hc : 0 ≤ m 86 4 ∧ m 86 4 ≤ 260 := ⟨(j.1 86 10 _ 4 0 260 rfl rfl).1, (j.1 86 10 _ 4 0 260 rfl rfl).2⟩
  have ht : gx_w (Int.tdiv (m 86 4) 4) = m 86 4 / 4 := by
    rw [Int.tdiv_eq_ediv_of_nonneg (by omega), gx_w_id (by omega) (by omega)]
  refine hx_dn (ht272 (fun c1 c2 => ?_) (fun c1 c2 => ?_) (fun c1 => ?_))
  all_goals (try rw [ht] at c2)
  all_goals first
    | exact ⟨fun c => by omega, fun _ => rfl⟩
    | exact hx_Kp gx_X_c (bh_272 H) rfl (by decide) rfl ⟨⟨by decide, rfl, rfl⟩, ⟨rfl, by dsimp only; omega, by dsimp only; omega⟩, trivial⟩ j (fun v m1 e => ⟨fun _ => e, fun nc => absurd (by omega) nc⟩)
theorem hz242 (H : bw_H xs (gx_XW gx_X)) (b1 : hB a1) (b2 : hB a2) (b3 : hB a3) : ∀ n m, hJ gx_X m → hxn xs n yp_m242 0 [(0, .inr (.inl 86)), (1, .inl a1), (2, .inl a2), (3, .inl a3)] [] m (fun _ m1 => ((1 ≤ a1 ∧ a1 ≤ 6 ∧ a1 ≤ (m 86 4)) → m1 86 4 = 0) ∧ (¬ (1 ≤ a1 ∧ a1 ≤ 6 ∧ a1 ≤ (m 86 4)) → m1 86 4 = (m 86 4))) := by
  intro n m j
  refine hx_dn (ht242 (fun c1 c2 => ?_) (fun c1 c2 => ?_) (fun c1 => ?_))
  all_goals first
    | exact ⟨fun c => by omega, fun _ => rfl⟩
    | exact hx_Kp gx_X_c (gk_fsold ⟨H.1, H.2.1⟩) rfl (by decide) rfl ⟨⟨by decide, rfl, rfl⟩, ⟨rfl, by dsimp only; omega, by dsimp only; omega⟩, ⟨rfl, b2⟩, ⟨rfl, b3⟩, trivial⟩ j (fun v m1 e => ⟨fun _ => e, fun nc => absurd (by omega) nc⟩)
theorem hz213 (H : bw_H xs (gx_XW gx_X)) (b1 : hB a1) (b2 : hB a2) : ∀ n m, hJ gx_X m → hxn xs n yp_m213 0 [(0, .inr (.inl 86)), (1, .inl a1), (2, .inl a2)] [] m (fun _ m1 => ((1 ≤ a1 ∧ a1 ≤ 160 ∧ a1 ≤ (m 86 4)) → m1 86 4 = 0) ∧ (¬ (1 ≤ a1 ∧ a1 ≤ 160 ∧ a1 ≤ (m 86 4)) → m1 86 4 = (m 86 4))) := by
  intro n m j
  refine hx_dn (ht213 (fun c1 c2 => ?_) (fun c1 c2 => ?_) (fun c1 => ?_))
  all_goals first
    | exact ⟨fun c => by omega, fun _ => rfl⟩
    | exact hx_Kp gx_X_c (gk_forder ⟨H.1, H.2.1⟩) rfl (by decide) rfl ⟨⟨by decide, rfl, rfl⟩, ⟨rfl, by dsimp only; omega, by dsimp only; omega⟩, ⟨rfl, b2⟩, trivial⟩ j (fun v m1 e => ⟨fun _ => e, fun nc => absurd (by omega) nc⟩)
end HZ
