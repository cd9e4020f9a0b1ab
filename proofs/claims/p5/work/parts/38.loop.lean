/-! from the loop's head to the law's end: a run exists, and answers 1 -/
theorem hk_exits {e : bx_E} (h : e ∈ bk_law.2.2.2.2.1) : e.1 = none ∧ (e.2.1 = 1251 ∨ e.2.1 = 392) := by
  have h' : e ∈ ([(none, 1251, [(3, (0, 0, 4096))], []), (none, 392, [(3, (0, 0, 4088))], [])] : List bx_E) := h
  rw [List.mem_cons, List.mem_singleton] at h'
  rcases h' with rfl | rfl
  · exact ⟨rfl, .inl rfl⟩
  · exact ⟨rfl, .inr rfl⟩
def hz0 (c lo hi : Nat) : Bool := match yq_W0[c]? with
  | some (_, r) => (List.range (hi - lo)).all (fun k => decide (ax_nth r (lo + k) = some (0, 0, 0)) || decide (ax_nth r (lo + k) = some (1, 0, 0)))
  | none => false
theorem hz0_ok {xs : List Int32} {w : sx_W} {c lo hi k : Nat} (h : hz0 c lo hi = true) (hw : ax_gw xs yq_W0 w) (h1 : lo ≤ k) (h2 : k < hi) : hm w c k = 0 := by
  unfold hz0 at h
  split at h
  · rename_i t r hc
    obtain ⟨x, g1, -, g3⟩ := ax_gw_at hw hc
    have h3 := List.all_eq_true.mp h (k - lo) (List.mem_range.mpr (by omega))
    have e : lo + (k - lo) = k := by omega
    rw [e, Bool.or_eq_true, decide_eq_true_eq, decide_eq_true_eq] at h3
    obtain ⟨tx, vs⟩ := x
    rcases h3 with h3 | h3
    · obtain ⟨v, v1, z, rfl, z1, z2⟩ := ax_seg_nth g3 h3
      rw [hm_rd (hrd_at g1 v1)]
      show z.toInt = 0
      dsimp only at z1 z2
      omega
    · obtain ⟨v, v1, z, rfl, z1, z2⟩ := ax_seg_nth g3 h3
      rw [hm_rd (hrd_at g1 v1)]
      show z.toInt = 0
      dsimp only at z1 z2
      omega
  · cases h
theorem hTp_0 {xs : List Int32} {w : sx_W} (hw : ax_gw xs yq_W0 w) : hTp (hm w) := by
  have e1 : hm w 1 1 = 0 := hz0_ok (lo := 1) (hi := 2) (by decide +kernel) hw (by omega) (by omega)
  have e2 : hm w 86 4 = 0 := hz0_ok (lo := 4) (hi := 5) (by decide +kernel) hw (by omega) (by omega)
  exact ⟨by omega, by omega, by omega, fun k hk => absurd hk (by omega)⟩
theorem hrow_a : sx_row yp_m276 1251 = some (1251, .iconst 1, 1, 0, 0, 0, 0) := gx_rowB_ok (E := (1251, .iconst 1, 1, 0, 0, 0, 0)) (by decide +kernel)
theorem hrow_b : sx_row yp_m276 1252 = some (1252, .ireturn, 1, 0, 0, 0, 0) := gx_rowB_ok (E := (1252, .ireturn, 1, 0, 0, 0, 0)) (by decide +kernel)
theorem hrow_c : sx_row yp_m276 392 = some (392, .iconst 0, 1, 0, 0, 0, 0) := gx_rowB_ok (E := (392, .iconst 0, 1, 0, 0, 0, 0)) (by decide +kernel)
theorem hrow_d : sx_row yp_m276 393 = some (393, .ireturn, 1, 0, 0, 0, 0) := gx_rowB_ok (E := (393, .ireturn, 1, 0, 0, 0, 0)) (by decide +kernel)
theorem yq_m : yp_m276.2.2.2.1 = ret := rfl
theorem yq_loop {xl : List Int32} (hL : xl.length ≤ 4096) {lv : sx_L} {w : sx_W} (hl' : ax_gl xl yq_locs lv) (hw : ax_gw xl yq_W0 w) : ∃ o : sx_O, o.1 = some (.int 1) ∧ sx_rn yp_P xl 100 yp_m276 18 lv [] w o := by
  obtain ⟨hX0, hH⟩ := bw_allX (xs := xl) hL
  have get : ∀ q0 ∈ yq_locs, ∃ v, sx_get lv q0.1 = some v ∧ ax_g xl q0.2 v := hl'
  obtain ⟨v0, a0, b0⟩ := get (0, (3, 0, 0)) (by simp [yq_locs])
  obtain ⟨v1, a1, b1⟩ := get (1, (2, 0, 0)) (by simp [yq_locs])
  obtain ⟨v2, a2, b2⟩ := get (2, (2, 86, 0)) (by simp [yq_locs])
  obtain ⟨v3, a3, x3, rfl, b3, b4⟩ := get (3, (0, 0, 0)) (by simp [yq_locs])
  dsimp only at b3 b4
  have c0 : v0 = .retAddr 0 := b0
  have c1 : v1 = .ref 0 := b1
  have c2 : v2 = .ref 86 := b2
  subst c0 c1 c2
  have hcl : bx_cl bk_law.2.2.1 lv := by
    intro q hq
    have hq' : q ∈ ([(0, (3, 0, 0)), (1, (2, 0, 0)), (2, (2, 86, 0)), (3, (0, 0, 4096))] : ax_L) := hq
    simp only [List.mem_cons, List.not_mem_nil, or_false] at hq'
    rcases hq' with rfl | rfl | rfl | rfl
    · obtain ⟨v, h1, h2⟩ := get (0, (3, 0, 0)) (by simp [yq_locs])
      exact ⟨v, h1, by decide, yq_g4 (by decide) h2⟩
    · obtain ⟨v, h1, h2⟩ := get (1, (2, 0, 0)) (by simp [yq_locs])
      exact ⟨v, h1, by decide, yq_g4 (by decide) h2⟩
    · obtain ⟨v, h1, h2⟩ := get (2, (2, 86, 0)) (by simp [yq_locs])
      exact ⟨v, h1, by decide, yq_g4 (by decide) h2⟩
    · exact ⟨_, a3, by decide, x3, rfl, by dsimp only; omega, by dsimp only; omega⟩
  obtain ⟨e, hem, lv', w', h1, h2, h3, h4⟩ := bo_law hH 100 (by decide) lv w hcl ⟨yq_le hw, hX0 w hw⟩ (fun q hq => by cases hq)
  obtain ⟨q1, q2⟩ := hk_exits hem
  have hrun : ∃ o, sx_rn yp_P xl 100 yp_m276 18 lv [] w o := by
    obtain ⟨er, epc, el, em⟩ := e
    dsimp only at q1 q2
    subst q1
    obtain ⟨g1, g2, g3⟩ := h4
    rcases q2 with rfl | rfl
    · refine ⟨(some (.int 1), w'), g3 _ ?_⟩
      refine sx_rn_step (E := (1251, .iconst 1, 1, 0, 0, 0, 0)) hrow_a rfl rfl (r := (1252, lv', [.int 1], w', 0, 0)) rfl ⟨rfl, rfl⟩ ?_
      exact sx_rn_ret (E := (1252, .ireturn, 1, 0, 0, 0, 0)) hrow_b rfl (by rw [yq_m]; rfl)
    · refine ⟨(some (.int 0), w'), g3 _ ?_⟩
      refine sx_rn_step (E := (392, .iconst 0, 1, 0, 0, 0, 0)) hrow_c rfl rfl (r := (393, lv', [.int 0], w', 0, 0)) rfl ⟨rfl, rfl⟩ ?_
      exact sx_rn_ret (E := (393, .ireturn, 1, 0, 0, 0, 0)) hrow_d rfl (by rw [yq_m]; rfl)
  obtain ⟨o, n, hn⟩ := hrun
  obtain ⟨i1, i2⟩ := hJ_of gx_X_c (yq_le hw) (hX0 w hw)
  have hll : hl lv [(0, .inr (.inl 100000)), (1, .inr (.inl 0)), (2, .inr (.inl 86)), (3, .inl x3.toInt)] := by
    intro q hq
    simp only [List.mem_cons, List.not_mem_nil, or_false] at hq
    rcases hq with rfl | rfl | rfl | rfl
    · exact ⟨_, a0, .inl ⟨rfl, 0, rfl⟩⟩
    · exact ⟨_, a1, .inr ⟨by decide, rfl⟩⟩
    · exact ⟨_, a2, .inr ⟨by decide, rfl⟩⟩
    · exact ⟨_, a3, x3, rfl, rfl⟩
  obtain ⟨r, k1, k2, k3⟩ := hlaw hH n x3.toInt (hm w) i2 (hTp_0 hw) 100 lv [] w o hll trivial i1 rfl hn
  have k3 : r = some (.inl 1) := k3
  subst k3
  refine ⟨o, ?_, n, hn⟩
  cases ho : o.1 with
  | none => rw [ho] at k1; exact k1.elim
  | some v =>
    rw [ho] at k1
    obtain ⟨z, rfl, hz⟩ := hg_int (x := 1) k1
    have : z = 1 := Int32.toInt_inj.mp (by rw [hz]; rfl)
    rw [this]
