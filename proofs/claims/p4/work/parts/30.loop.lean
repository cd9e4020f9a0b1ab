/-! from the loop's head to the law's end -/
def sx_rowIs (o : Option sx_E) (E : sx_E) : Bool := match o with
  | some q => decide (q.1 = E.1) && (decide (q.2.1 = E.2.1) && (decide (q.2.2.1 = E.2.2.1) && (decide (q.2.2.2.1 = E.2.2.2.1) && (decide (q.2.2.2.2.1 = E.2.2.2.2.1) && (decide (q.2.2.2.2.2.1 = E.2.2.2.2.2.1) && decide (q.2.2.2.2.2.2 = E.2.2.2.2.2.2))))))
  | none => false
theorem sx_rowIs_ok {o : Option sx_E} {E : sx_E} (h : sx_rowIs o E = true) : o = some E := by
  unfold sx_rowIs at h
  split at h
  · simp only [Bool.and_eq_true, decide_eq_true_eq] at h
    obtain ⟨h1, h2, h3, h4, h5, h6, h7⟩ := h
    exact congrArg some (Prod.ext h1 (Prod.ext h2 (Prod.ext h3 (Prod.ext h4 (Prod.ext h5 (Prod.ext h6 h7))))))
  · cases h
theorem yq_row1 : sx_row yp_m276 1251 = some (1251, .iconst 1, 1, 0, 0, 0, 0) := sx_rowIs_ok (by decide +kernel)
theorem yq_row2 : sx_row yp_m276 1252 = some (1252, .ireturn, 1, 0, 0, 0, 0) := sx_rowIs_ok (by decide +kernel)
theorem yq_m : yp_m276.2.2.2.1 = ret := rfl
theorem yq_R {xl : List Int32} {w : sx_W} (hw : ax_gw xl yq_W0 w) : bf_R xl w := by
  have hz : ∀ (c k t : Nat) (r : ax_A), yq_W0[c]? = some (t, r) → ax_nth r k = some (0, 0, 0) → c < 100000 → ∀ v, bx_rd xl w c k = some v → ∃ x : Int32, v = .int x ∧ x.toInt = 0 := by
    intro c k t r e1 e2 hc v hv
    obtain ⟨x, g1, -, g3⟩ := ax_gw_at hw e1
    obtain ⟨u, u1, z, rfl, z1, z2⟩ := ax_seg_nth g3 e2
    rw [bx_rd_w hc, g1] at hv
    have hv' : x.2[k]? = some v := hv
    rw [u1] at hv'
    cases hv'
    exact ⟨z, rfl, by dsimp only at z1 z2; omega⟩
  exact ⟨0, Int.le_refl _, by decide, by decide, hz 1 1 _ _ rfl rfl (by decide), hz 86 4 _ _ rfl rfl (by decide)⟩
theorem yq_loop {xl : List Int32} (hL : xl.length ≤ 4096) {lv : sx_L} {w : sx_W} (hl : ax_gl xl yq_locs lv) (hw : ax_gw xl yq_W0 w) : ∃ o : sx_O, o.1 = some (.int 1) ∧ sx_rn yp_P xl 100 yp_m276 18 lv [] w o := by
  obtain ⟨X, hX0, hH⟩ := bw_all (xs := xl) hL
  have hcl : bx_cl bk_law.2.2.1 lv := by
    intro q hq
    have hq' : q ∈ ([(0, (3, 0, 0)), (1, (2, 0, 0)), (2, (2, 86, 0)), (3, (0, 0, 4096))] : ax_L) := hq
    have get : ∀ q0 ∈ yq_locs, ∃ v, sx_get lv q0.1 = some v ∧ ax_g xl q0.2 v := hl
    simp only [List.mem_cons, List.not_mem_nil, or_false] at hq'
    rcases hq' with rfl | rfl | rfl | rfl
    · obtain ⟨v, h1, h2⟩ := get (0, (3, 0, 0)) (by simp [yq_locs])
      exact ⟨v, h1, by decide, yq_g4 (by decide) h2⟩
    · obtain ⟨v, h1, h2⟩ := get (1, (2, 0, 0)) (by simp [yq_locs])
      exact ⟨v, h1, by decide, yq_g4 (by decide) h2⟩
    · obtain ⟨v, h1, h2⟩ := get (2, (2, 86, 0)) (by simp [yq_locs])
      exact ⟨v, h1, by decide, yq_g4 (by decide) h2⟩
    · obtain ⟨v, h1, x, rfl, h3, h4⟩ := get (3, (0, 0, 0)) (by simp [yq_locs])
      dsimp only at h3 h4
      exact ⟨_, h1, by decide, x, rfl, by dsimp only; omega, by dsimp only; omega⟩
  obtain ⟨e, hem, lv', w', h1, h2, h3, h4⟩ := bo_law hH 100 (by decide) lv w hcl ⟨yq_le hw, hX0 w hw, yq_R hw⟩ (fun q hq => by cases hq)
  have hem' : e ∈ ([(none, 1251, [(3, (0, 0, 4096))], [])] : List bx_E) := hem
  rw [List.mem_singleton] at hem'
  subst hem'
  obtain ⟨g1, g2, g3⟩ := h4
  refine ⟨(some (.int 1), w'), rfl, g3 _ ?_⟩
  refine sx_rn_step (E := (1251, .iconst 1, 1, 0, 0, 0, 0)) yq_row1 rfl rfl (r := (1252, lv', [.int 1], w', 0, 0)) rfl ⟨rfl, rfl⟩ ?_
  exact sx_rn_ret (E := (1252, .ireturn, 1, 0, 0, 0, 0)) yq_row2 rfl (by rw [yq_m]; rfl)
