/-! from the loop's head to the law's end: a run exists, and answers 1 -/
theorem hk_exits {e : bx_E} (h : e ∈ bk_law.2.2.2.2.1) : e.1 = none ∧ (e.2.1 = 1251 ∨ e.2.1 = 438) := by
  have h' : e ∈ ([(none, 1251, [(3, (0, 0, 4096))], []), (none, 438, [(3, (0, 0, 4088))], [])] : List bx_E) := h
  rw [List.mem_cons, List.mem_singleton] at h'
  rcases h' with rfl | rfl
  · exact ⟨rfl, .inl rfl⟩
  · exact ⟨rfl, .inr rfl⟩
def hz0 (c lo hi : Nat) : Bool := match yq_W0[c]? with
  | some (_, r) => (List.range (hi - lo)).all (fun k => decide (ax_nth r (lo + k) = some (0, 0, 0)) || decide (ax_nth r (lo + k) = some (1, 0, 0)))
  | none => false
theorem hz0_ok {xs : List Int32} {w : sx_W} {c lo hi k : Nat} (h : hz0 c lo hi = true) (hw : ax_gw xs yq_W0 w) (h1 : lo ≤ k) (h2 : k < hi) : hm w c k = 0 := by
  unfold hz0 at h
  split at h
  · rename_i t r hc
    obtain ⟨x, g1, -, g3⟩ := ax_gw_at hw hc
    have h3 := List.all_eq_true.mp h (k - lo) (List.mem_range.mpr (by omega))
    have e : lo + (k - lo) = k := by omega
    rw [e, Bool.or_eq_true, decide_eq_true_eq, decide_eq_true_eq] at h3
    obtain ⟨tx, vs⟩ := x
    rcases h3 with h3 | h3
    · obtain ⟨v, v1, z, rfl, z1, z2⟩ := ax_seg_nth g3 h3
      rw [hm_rd (hrd_at g1 v1)]
      show z.toInt = 0
      dsimp only at z1 z2
      omega
    · obtain ⟨v, v1, z, rfl, z1, z2⟩ := ax_seg_nth g3 h3
      rw [hm_rd (hrd_at g1 v1)]
      show z.toInt = 0
      dsimp only at z1 z2
      omega
  · cases h
theorem hTp_0 {xs : List Int32} {w : sx_W} (hw : ax_gw xs yq_W0 w) : hTp (hm w) := by
  have e1 : hm w 1 1 = 0 := hz0_ok (lo := 1) (hi := 2) (by decide +kernel) hw (by omega) (by omega)
  have e2 : hm w 86 4 = 0 := hz0_ok (lo := 4) (hi := 5) (by decide +kernel) hw (by omega) (by omega)
  exact ⟨by omega, by omega, by omega, fun k hk => absurd hk (by omega)⟩
def hzc (v : Int) (c lo hi : Nat) : Bool := match yq_W0[c]? with
  | some (_, r) => (List.range (hi - lo)).all (fun k => decide (ax_nth r (lo + k) = some (0, v, v)))
  | none => false
theorem hzc_ok {xs : List Int32} {w : sx_W} {v : Int} {c lo hi k : Nat} (h : hzc v c lo hi = true) (hw : ax_gw xs yq_W0 w) (h1 : lo ≤ k) (h2 : k < hi) : hm w c k = v := by
  unfold hzc at h
  split at h
  · rename_i t r hc
    obtain ⟨x, g1, -, g3⟩ := ax_gw_at hw hc
    have h3 := List.all_eq_true.mp h (k - lo) (List.mem_range.mpr (by omega))
    have e : lo + (k - lo) = k := by omega
    rw [e, decide_eq_true_eq] at h3
    obtain ⟨tx, vs⟩ := x
    obtain ⟨v', v1, z, rfl, z1, z2⟩ := ax_seg_nth g3 h3
    rw [hm_rd (hrd_at g1 v1)]
    show z.toInt = v
    dsimp only at z1 z2
    omega
  · cases h
theorem hmask_no : ∀ k : Nat, hmask (fun _ => false) k = 0
  | 0 => rfl
  | k + 1 => by
    unfold hmask
    rw [hmask_no k]
    rfl
theorem hWr_0 {xs : List Int32} {w : sx_W} (hw : ax_gw xs yq_W0 w) : hWr xs (hm w) := by
  have z : ∀ c lo hi k : Nat, hz0 c lo hi = true → lo ≤ k → k < hi → hm w c k = 0 := fun c lo hi k h h1 h2 => hz0_ok h hw h1 h2
  have z1 : ∀ k, k < 280 → hm w 87 k = 0 := fun k hk => z 87 0 280 k (by decide +kernel) (by omega) hk
  have z2 : ∀ k, 280 ≤ k → k < 320 → hm w 87 k = -2 := fun k h1 h2 => hzc_ok (v := -2) (c := 87) (lo := 280) (hi := 320) (by decide +kernel) hw h1 h2
  have z3 : ∀ k, 320 ≤ k → k < 1130 → hm w 87 k = 0 := fun k h1 h2 => z 87 320 1130 k (by decide +kernel) h1 h2
  have z4 : hm w 87 1130 = 1 := hzc_ok (v := 1) (c := 87) (lo := 1130) (hi := 1131) (by decide +kernel) hw (by omega) (by omega)
  have b0 : ∀ k, k < 4 → hm w 5 k = 0 := fun k hk => z 5 0 4 k (by decide +kernel) (by omega) hk
  have b4 : hm w 5 4 = 1 := hzc_ok (v := 1) (c := 5) (lo := 4) (hi := 5) (by decide +kernel) hw (by omega) (by omega)
  have b6 : ∀ k, k < 8 → hm w 6 k = 0 := fun k hk => z 6 0 8 k (by decide +kernel) (by omega) hk
  have bj : ∀ j k, 7 ≤ j → j ≤ 16 → k < 40 → hm w j k = 0 := fun j k h1 h2 hk => by
    have : j = 7 ∨ j = 8 ∨ j = 9 ∨ j = 10 ∨ j = 11 ∨ j = 12 ∨ j = 13 ∨ j = 14 ∨ j = 15 ∨ j = 16 := by omega
    rcases this with rfl | rfl | rfl | rfl | rfl | rfl | rfl | rfl | rfl | rfl
    · exact z 7 0 40 k (by decide +kernel) (by omega) hk
    · exact z 8 0 40 k (by decide +kernel) (by omega) hk
    · exact z 9 0 40 k (by decide +kernel) (by omega) hk
    · exact z 10 0 40 k (by decide +kernel) (by omega) hk
    · exact z 11 0 40 k (by decide +kernel) (by omega) hk
    · exact z 12 0 40 k (by decide +kernel) (by omega) hk
    · exact z 13 0 40 k (by decide +kernel) (by omega) hk
    · exact z 14 0 40 k (by decide +kernel) (by omega) hk
    · exact z 15 0 40 k (by decide +kernel) (by omega) hk
    · exact z 16 0 40 k (by decide +kernel) (by omega) hk
  have b17 : ∀ k, k < 640 → hm w 17 k = 0 := fun k hk => z 17 0 640 k (by decide +kernel) (by omega) hk
  have e12 : hm w 0 12 = 0 := z 0 12 14 12 (by decide +kernel) (by omega) (by omega)
  have e13 : hm w 0 13 = 0 := z 0 12 14 13 (by decide +kernel) (by omega) (by omega)
  have e47 : hm w 86 47 = 0 := z 86 47 48 47 (by decide +kernel) (by omega) (by omega)
  have e44 : hm w 86 44 = 0 := z 86 44 45 44 (by decide +kernel) (by omega) (by omega)
  have l1 : hm w 44 7 = 0 := z 44 7 8 7 (by decide +kernel) (by omega) (by omega)
  have l2 : hm w 86 13 = 0 := z 86 13 14 13 (by decide +kernel) (by omega) (by omega)
  have msk : ∀ B : Nat, (B = 440 ∨ B = 160) → (0 : Int) = ((hmask (fun y => decide (hm w 87 (B + y) = 1)) 40 : Nat) : Int) := fun B hB' => by
    have : hmask (fun y => decide (hm w 87 (B + y) = 1)) 40 = hmask (fun _ => false) 40 := hmask_ext 40 (fun j hj => by
      rw [decide_eq_false_iff_not]
      rcases hB' with rfl | rfl
      · rw [z3 _ (by omega) (by omega)]
        decide
      · rw [z1 _ (by omega)]
        decide)
    rw [this, hmask_no]
    rfl
  refine ⟨⟨fun y hy => ?_, fun k hk => ?_, fun p hp => ?_, ?_, ?_⟩, ⟨⟨?_, ?_, ?_, ?_, ?_⟩, fun p hp => ?_, fun y hy => ⟨⟨?_, ?_, ?_, ?_, ?_⟩, ?_, fun ht => ?_, ?_, ?_, ?_⟩, fun k hk => ?_⟩, by rw [e12, e47], fun c => absurd e47 c, ⟨_, [], [], fun _ _ => none, fun _ _ => none, by decide, ⟨by decide, fun i c hc => (by cases hc)⟩, ⟨l1, fun i c hc => (by cases hc), fun i c hc => (by cases hc)⟩, ⟨l2, fun i c hc => (by cases hc), fun i c hc => (by cases hc)⟩, fun env i c hc => (by cases hc), rfl⟩, by rw [e13, e44]⟩
  · unfold sYr
    rw [z3 (440 + y) (by omega) (by omega), z1 (160 + y) (by omega), z1 y (by omega), z1 (40 + y) (by omega), z1 (80 + y) (by omega), z1 (120 + y) (by omega), z1 (200 + y) (by omega), z1 (240 + y) (by omega), z2 (280 + y) (by omega) (by omega), z3 (320 + y) (by omega) (by omega), z3 (360 + y) (by omega) (by omega), z3 (400 + y) (by omega) (by omega)]
    decide
  · rw [z3 _ (by omega) (by omega)]
    decide
  · rw [z3 (1120 + p) (by omega) (by omega)]
    exact ⟨by decide, fun _ => rfl⟩
  · rw [z3 _ (by omega) (by omega)]
    decide
  · rw [z4]
    decide
  · rw [b0 0 (by decide), z3 1128 (by omega) (by omega)]
  · rw [b0 1 (by decide)]
    exact msk 440 (.inl rfl)
  · rw [b0 2 (by decide)]
    exact msk 160 (.inr rfl)
  · rw [b0 3 (by decide), z3 1129 (by omega) (by omega)]
  · rw [b4, z4]
  · exact (b6 p hp).trans (z3 (1120 + p) (by omega) (by omega)).symm
  · exact (bj 7 y (by decide) (by decide) hy).trans (z1 y (by omega)).symm
  · exact (bj 8 y (by decide) (by decide) hy).trans (z1 (40 + y) (by omega)).symm
  · exact (bj 9 y (by decide) (by decide) hy).trans (z1 (80 + y) (by omega)).symm
  · exact (bj 10 y (by decide) (by decide) hy).trans (z1 (120 + y) (by omega)).symm
  · exact (bj 11 y (by decide) (by decide) hy).trans (z1 (200 + y) (by omega)).symm
  · exact (bj 12 y (by decide) (by decide) hy).trans (z1 (240 + y) (by omega)).symm
  · rw [z3 (440 + y) (by omega) (by omega)] at ht
    exact absurd ht (by decide)
  · exact (bj 14 y (by decide) (by decide) hy).trans (z3 (320 + y) (by omega) (by omega)).symm
  · exact (bj 15 y (by decide) (by decide) hy).trans (z3 (360 + y) (by omega) (by omega)).symm
  · exact (bj 16 y (by decide) (by decide) hy).trans (z3 (400 + y) (by omega) (by omega)).symm
  · exact (b17 k hk).trans (z3 (480 + k) (by omega) (by omega)).symm
theorem hW_0 {xs : List Int32} {w : sx_W} (hw : ax_gw xs yq_W0 w) : hW xs (hm w) := ⟨hTp_0 hw, hWr_0 hw⟩
theorem hrow_a : sx_row yp_m276 1251 = some (1251, .iconst 1, 1, 0, 0, 0, 0) := gx_rowB_ok (E := (1251, .iconst 1, 1, 0, 0, 0, 0)) (by decide +kernel)
theorem hrow_b : sx_row yp_m276 1252 = some (1252, .ireturn, 1, 0, 0, 0, 0) := gx_rowB_ok (E := (1252, .ireturn, 1, 0, 0, 0, 0)) (by decide +kernel)
theorem hrow_c : sx_row yp_m276 438 = some (438, .iconst 0, 1, 0, 0, 0, 0) := gx_rowB_ok (E := (438, .iconst 0, 1, 0, 0, 0, 0)) (by decide +kernel)
theorem hrow_d : sx_row yp_m276 439 = some (439, .ireturn, 1, 0, 0, 0, 0) := gx_rowB_ok (E := (439, .ireturn, 1, 0, 0, 0, 0)) (by decide +kernel)
theorem yq_m : yp_m276.2.2.2.1 = ret := rfl
theorem yq_loop {xl : List Int32} (hL : xl.length ≤ 4096) {lv : sx_L} {w : sx_W} (hl' : ax_gl xl yq_locs lv) (hw : ax_gw xl yq_W0 w) : ∃ o : sx_O, o.1 = some (.int 1) ∧ sx_rn yp_P xl 100 yp_m276 18 lv [] w o := by
  obtain ⟨hX0, hH⟩ := bw_allX (xs := xl) hL
  have get : ∀ q0 ∈ yq_locs, ∃ v, sx_get lv q0.1 = some v ∧ ax_g xl q0.2 v := hl'
  obtain ⟨v0, a0, b0⟩ := get (0, (3, 0, 0)) (by simp [yq_locs])
  obtain ⟨v1, a1, b1⟩ := get (1, (2, 0, 0)) (by simp [yq_locs])
  obtain ⟨v2, a2, b2⟩ := get (2, (2, 86, 0)) (by simp [yq_locs])
  obtain ⟨v3, a3, x3, rfl, b3, b4⟩ := get (3, (0, 0, 0)) (by simp [yq_locs])
  dsimp only at b3 b4
  have c0 : v0 = .retAddr 0 := b0
  have c1 : v1 = .ref 0 := b1
  have c2 : v2 = .ref 86 := b2
  subst c0 c1 c2
  have hcl : bx_cl bk_law.2.2.1 lv := by
    intro q hq
    have hq' : q ∈ ([(0, (3, 0, 0)), (1, (2, 0, 0)), (2, (2, 86, 0)), (3, (0, 0, 4096))] : ax_L) := hq
    simp only [List.mem_cons, List.not_mem_nil, or_false] at hq'
    rcases hq' with rfl | rfl | rfl | rfl
    · obtain ⟨v, h1, h2⟩ := get (0, (3, 0, 0)) (by simp [yq_locs])
      exact ⟨v, h1, by decide, yq_g4 (by decide) h2⟩
    · obtain ⟨v, h1, h2⟩ := get (1, (2, 0, 0)) (by simp [yq_locs])
      exact ⟨v, h1, by decide, yq_g4 (by decide) h2⟩
    · obtain ⟨v, h1, h2⟩ := get (2, (2, 86, 0)) (by simp [yq_locs])
      exact ⟨v, h1, by decide, yq_g4 (by decide) h2⟩
    · exact ⟨_, a3, by decide, x3, rfl, by dsimp only; omega, by dsimp only; omega⟩
  obtain ⟨e, hem, lv', w', h1, h2, h3, h4⟩ := bo_law hH 100 (by decide) lv w hcl ⟨yq_le hw, hX0 w hw⟩ (fun q hq => by cases hq)
  obtain ⟨q1, q2⟩ := hk_exits hem
  have hrun : ∃ o, sx_rn yp_P xl 100 yp_m276 18 lv [] w o := by
    obtain ⟨er, epc, el, em⟩ := e
    dsimp only at q1 q2
    subst q1
    obtain ⟨g1, g2, g3⟩ := h4
    rcases q2 with rfl | rfl
    · refine ⟨(some (.int 1), w'), g3 _ ?_⟩
      refine sx_rn_step (E := (1251, .iconst 1, 1, 0, 0, 0, 0)) hrow_a rfl rfl (r := (1252, lv', [.int 1], w', 0, 0)) rfl ⟨rfl, rfl⟩ ?_
      exact sx_rn_ret (E := (1252, .ireturn, 1, 0, 0, 0, 0)) hrow_b rfl (by rw [yq_m]; rfl)
    · refine ⟨(some (.int 0), w'), g3 _ ?_⟩
      refine sx_rn_step (E := (438, .iconst 0, 1, 0, 0, 0, 0)) hrow_c rfl rfl (r := (439, lv', [.int 0], w', 0, 0)) rfl ⟨rfl, rfl⟩ ?_
      exact sx_rn_ret (E := (439, .ireturn, 1, 0, 0, 0, 0)) hrow_d rfl (by rw [yq_m]; rfl)
  obtain ⟨o, n, hn⟩ := hrun
  obtain ⟨i1, i2⟩ := hJ_of gx_X_c (yq_le hw) (hX0 w hw)
  have hll : hl lv [(0, .inr (.inl 100000)), (1, .inr (.inl 0)), (2, .inr (.inl 86)), (3, .inl x3.toInt)] := by
    intro q hq
    simp only [List.mem_cons, List.not_mem_nil, or_false] at hq
    rcases hq with rfl | rfl | rfl | rfl
    · exact ⟨_, a0, .inl ⟨rfl, 0, rfl⟩⟩
    · exact ⟨_, a1, .inr ⟨by decide, rfl⟩⟩
    · exact ⟨_, a2, .inr ⟨by decide, rfl⟩⟩
    · exact ⟨_, a3, x3, rfl, rfl⟩
  obtain ⟨r, k1, k2, k3⟩ := hlaw hH n x3.toInt (hm w) i2 (hW_0 hw) 100 lv [] w o hll trivial i1 rfl hn
  have k3 : r = some (.inl 1) := k3
  subst k3
  refine ⟨o, ?_, n, hn⟩
  cases ho : o.1 with
  | none => rw [ho] at k1; exact k1.elim
  | some v =>
    rw [ho] at k1
    obtain ⟨z, rfl, hz⟩ := hg_int (x := 1) k1
    have : z = 1 := Int32.toInt_inj.mp (by rw [hz]; rfl)
    rw [this]
