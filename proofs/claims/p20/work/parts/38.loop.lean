/-! from the loop's head to the law's end: a run exists, and answers 1 -/
theorem hk_exits {e : bx_E} (h : e ∈ bk_law.2.2.2.2.1) : e.1 = none ∧ (e.2.1 = 1252 ∨ e.2.1 = 908) := by
  have h' : e ∈ ([(none, 1252, [(3, (0, 0, 4096))], []), (none, 908, [(3, (0, 0, 4088))], [])] : List bx_E) := h
  rw [List.mem_cons, List.mem_singleton] at h'
  rcases h' with rfl | rfl
  · exact ⟨rfl, .inl rfl⟩
  · exact ⟨rfl, .inr rfl⟩
def hz0 (c lo hi : Nat) : Bool := match yq_W0[c]? with
  | some (_, r) => (List.range (hi - lo)).all (fun k => decide (ax_nth r (lo + k) = some (0, 0, 0)) || decide (ax_nth r (lo + k) = some (1, 0, 0)))
  | none => false
theorem hz0_ok {xs : List Int32} {w : sx_W} {c lo hi k : Nat} (h : hz0 c lo hi = true) (hw : ax_gw xs yq_W0 w) (h1 : lo ≤ k) (h2 : k < hi) : hm w c k = 0 := by
  unfold hz0 at h
  split at h
  · rename_i t r hc
    obtain ⟨x, g1, -, g3⟩ := ax_gw_at hw hc
    have h3 := List.all_eq_true.mp h (k - lo) (List.mem_range.mpr (by omega))
    have e : lo + (k - lo) = k := by omega
    rw [e, Bool.or_eq_true, decide_eq_true_eq, decide_eq_true_eq] at h3
    obtain ⟨tx, vs⟩ := x
    rcases h3 with h3 | h3
    · obtain ⟨v, v1, z, rfl, z1, z2⟩ := ax_seg_nth g3 h3
      rw [hm_rd (hrd_at g1 v1)]
      show z.toInt = 0
      dsimp only at z1 z2
      omega
    · obtain ⟨v, v1, z, rfl, z1, z2⟩ := ax_seg_nth g3 h3
      rw [hm_rd (hrd_at g1 v1)]
      show z.toInt = 0
      dsimp only at z1 z2
      omega
  · cases h
theorem hmask_no : ∀ k : Nat, hmask (fun _ => false) k = 0
  | 0 => rfl
  | k + 1 => by
    unfold hmask
    rw [hmask_no k]
    rfl
theorem hRS_0 {xs : List Int32} {w : sx_W} (hw : ax_gw xs yq_W0 w) : hRS (hm w) := by
  have z : ∀ c lo hi k : Nat, hz0 c lo hi = true → lo ≤ k → k < hi → hm w c k = 0 := fun c lo hi k h h1 h2 => hz0_ok h hw h1 h2
  have z87 : ∀ k, k < 240 ∨ (440 ≤ k ∧ k < 480) → hm w 87 k = 0 := fun k hk => by
    rcases hk with hk | ⟨h1, h2⟩
    · exact z 87 0 240 k (by decide +kernel) (by omega) hk
    · exact z 87 440 480 k (by decide +kernel) h1 h2
  have e50 : hm w 5 0 = 0 := z 5 0 1 0 (by decide +kernel) (by omega) (by omega)
  have e51 : hm w 5 1 = 0 := z 5 1 2 1 (by decide +kernel) (by omega) (by omega)
  have e52 : hm w 5 2 = 0 := z 5 2 3 2 (by decide +kernel) (by omega) (by omega)
  have ec : hm w 87 1128 = 0 := z 87 1128 1129 1128 (by decide +kernel) (by omega) (by omega)
  have ek : hm w 0 12 = 0 := z 0 12 13 12 (by decide +kernel) (by omega) (by omega)
  have er : hm w 86 47 = 0 := z 86 47 48 47 (by decide +kernel) (by omega) (by omega)
  refine ⟨⟨by rw [e50, ec], ?_, ?_, fun j y h1 h2 hy => ?_, fun y hy => ?_⟩, by rw [ek, er], fun h => absurd er h⟩
  · rw [e51, hmask_ext (g := fun _ => false) 40 (fun j hj => by rw [z87 (440 + j) (by omega)]; rfl), hmask_no]
    rfl
  · rw [e52, hmask_ext (g := fun _ => false) 40 (fun j hj => by rw [z87 (160 + j) (by omega)]; rfl), hmask_no]
    rfl
  · have e87 : hm w 87 ((if j = 6 then 200 else 40 * (j - 2)) + y) = 0 := z87 _ (by split <;> omega)
    rw [e87]
    have hj : j = 2 ∨ j = 3 ∨ j = 4 ∨ j = 5 ∨ j = 6 := by omega
    rcases hj with rfl | rfl | rfl | rfl | rfl
    · exact z 7 0 40 y (by decide +kernel) (by omega) hy
    · exact z 8 0 40 y (by decide +kernel) (by omega) hy
    · exact z 9 0 40 y (by decide +kernel) (by omega) hy
    · exact z 10 0 40 y (by decide +kernel) (by omega) hy
    · exact z 11 0 40 y (by decide +kernel) (by omega) hy
  · exact ⟨.inl (z87 _ (by omega)), .inl (z87 _ (by omega))⟩
theorem hrow_a : sx_row yp_m276 1252 = some (1252, .iconst 1, 1, 0, 0, 0, 0) := gx_rowB_ok (E := (1252, .iconst 1, 1, 0, 0, 0, 0)) (by decide +kernel)
theorem hrow_b : sx_row yp_m276 1253 = some (1253, .ireturn, 1, 0, 0, 0, 0) := gx_rowB_ok (E := (1253, .ireturn, 1, 0, 0, 0, 0)) (by decide +kernel)
theorem hrow_c : sx_row yp_m276 908 = some (908, .iconst 0, 1, 0, 0, 0, 0) := gx_rowB_ok (E := (908, .iconst 0, 1, 0, 0, 0, 0)) (by decide +kernel)
theorem hrow_d : sx_row yp_m276 909 = some (909, .ireturn, 1, 0, 0, 0, 0) := gx_rowB_ok (E := (909, .ireturn, 1, 0, 0, 0, 0)) (by decide +kernel)
theorem yq_m : yp_m276.2.2.2.1 = ret := rfl
theorem yq_loop {xl : List Int32} (hL : xl.length ≤ 4096) {lv : sx_L} {w : sx_W} (hl' : ax_gl xl yq_locs lv) (hw : ax_gw xl yq_W0 w) : ∃ o : sx_O, o.1 = some (.int 1) ∧ sx_rn yp_P xl 100 yp_m276 18 lv [] w o := by
  obtain ⟨hX0, hH⟩ := bw_allX (xs := xl) hL
  have get : ∀ q0 ∈ yq_locs, ∃ v, sx_get lv q0.1 = some v ∧ ax_g xl q0.2 v := hl'
  obtain ⟨v0, a0, b0⟩ := get (0, (3, 0, 0)) (by simp [yq_locs])
  obtain ⟨v1, a1, b1⟩ := get (1, (2, 0, 0)) (by simp [yq_locs])
  obtain ⟨v2, a2, b2⟩ := get (2, (2, 86, 0)) (by simp [yq_locs])
  obtain ⟨v3, a3, x3, rfl, b3, b4⟩ := get (3, (0, 0, 0)) (by simp [yq_locs])
  dsimp only at b3 b4
  have c0 : v0 = .retAddr 0 := b0
  have c1 : v1 = .ref 0 := b1
  have c2 : v2 = .ref 86 := b2
  subst c0 c1 c2
  have hcl : bx_cl bk_law.2.2.1 lv := by
    intro q hq
    have hq' : q ∈ ([(0, (3, 0, 0)), (1, (2, 0, 0)), (2, (2, 86, 0)), (3, (0, 0, 4096))] : ax_L) := hq
    simp only [List.mem_cons, List.not_mem_nil, or_false] at hq'
    rcases hq' with rfl | rfl | rfl | rfl
    · obtain ⟨v, h1, h2⟩ := get (0, (3, 0, 0)) (by simp [yq_locs])
      exact ⟨v, h1, by decide, yq_g4 (by decide) h2⟩
    · obtain ⟨v, h1, h2⟩ := get (1, (2, 0, 0)) (by simp [yq_locs])
      exact ⟨v, h1, by decide, yq_g4 (by decide) h2⟩
    · obtain ⟨v, h1, h2⟩ := get (2, (2, 86, 0)) (by simp [yq_locs])
      exact ⟨v, h1, by decide, yq_g4 (by decide) h2⟩
    · exact ⟨_, a3, by decide, x3, rfl, by dsimp only; omega, by dsimp only; omega⟩
  obtain ⟨e, hem, lv', w', h1, h2, h3, h4⟩ := bo_law hH 100 (by decide) lv w hcl ⟨yq_le hw, hX0 w hw⟩ (fun q hq => by cases hq)
  obtain ⟨q1, q2⟩ := hk_exits hem
  have hrun : ∃ o, sx_rn yp_P xl 100 yp_m276 18 lv [] w o := by
    obtain ⟨er, epc, el, em⟩ := e
    dsimp only at q1 q2
    subst q1
    obtain ⟨g1, g2, g3⟩ := h4
    rcases q2 with rfl | rfl
    · refine ⟨(some (.int 1), w'), g3 _ ?_⟩
      refine sx_rn_step (E := (1252, .iconst 1, 1, 0, 0, 0, 0)) hrow_a rfl rfl (r := (1253, lv', [.int 1], w', 0, 0)) rfl ⟨rfl, rfl⟩ ?_
      exact sx_rn_ret (E := (1253, .ireturn, 1, 0, 0, 0, 0)) hrow_b rfl (by rw [yq_m]; rfl)
    · refine ⟨(some (.int 0), w'), g3 _ ?_⟩
      refine sx_rn_step (E := (908, .iconst 0, 1, 0, 0, 0, 0)) hrow_c rfl rfl (r := (909, lv', [.int 0], w', 0, 0)) rfl ⟨rfl, rfl⟩ ?_
      exact sx_rn_ret (E := (909, .ireturn, 1, 0, 0, 0, 0)) hrow_d rfl (by rw [yq_m]; rfl)
  obtain ⟨o, n, hn⟩ := hrun
  obtain ⟨i1, i2⟩ := hJ_of gx_X_c (yq_le hw) (hX0 w hw)
  have hll : hl lv [(0, .inr (.inl 100000)), (1, .inr (.inl 0)), (2, .inr (.inl 86)), (3, .inl x3.toInt)] := by
    intro q hq
    simp only [List.mem_cons, List.not_mem_nil, or_false] at hq
    rcases hq with rfl | rfl | rfl | rfl
    · exact ⟨_, a0, .inl ⟨rfl, 0, rfl⟩⟩
    · exact ⟨_, a1, .inr ⟨by decide, rfl⟩⟩
    · exact ⟨_, a2, .inr ⟨by decide, rfl⟩⟩
    · exact ⟨_, a3, x3, rfl, rfl⟩
  obtain ⟨r, k1, k2, k3⟩ := hlaw hH n x3.toInt (hm w) i2 (hRS_0 hw) 100 lv [] w o hll trivial i1 rfl hn
  have k3 : r = some (.inl 1) := k3
  subst k3
  refine ⟨o, ?_, n, hn⟩
  cases ho : o.1 with
  | none => rw [ho] at k1; exact k1.elim
  | some v =>
    rw [ho] at k1
    obtain ⟨z, rfl, hz⟩ := hg_int (x := 1) k1
    have : z = 1 := Int32.toInt_inj.mp (by rw [hz]; rfl)
    rw [this]
