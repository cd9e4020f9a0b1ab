/-! the law's loop with the tape's count: its contract -/
theorem bl_some {r : Option (List bx_O)} (h : bl_ok r = true) : ∃ outs, r = some outs ∧ outs.all (fun o => bx_fit bw_INV bk_law o && bf_chk o.2) = true := by
  cases r with
  | none => cases h
  | some outs => exact ⟨outs, rfl, h⟩
def bl_A (xs : List Int32) (X : sx_W → Prop) (o : bx_O) (outs2 : List bx_O) : Prop := ∃ T2 : List bx_K, (∀ K ∈ T2, bx_Kok yp_P xs bw_INV X K) ∧ (∀ K ∈ T2, K.1 ≠ 276) ∧ bx_run yp_P T2 700 27 bl_C yp_m276 276 [18, 1251] false o.2 = some outs2
theorem bl_join {xs : List Int32} {X : sx_W → Prop} : ∀ l : List bx_O, (∀ o ∈ l, ∃ outs2, bl_A xs X o outs2 ∧ outs2.all (fun o => bx_fit bw_INV bk_law o && bf_chk o.2) = true) → ∃ outs : List bx_O, outs.all (fun o => bx_fit bw_INV bk_law o && bf_chk o.2) = true ∧ ∀ o ∈ l, ∃ outs2, bl_A xs X o outs2 ∧ ∀ y ∈ outs2, y ∈ outs
  | [], _ => ⟨[], rfl, fun o ho => by cases ho⟩
  | o :: l, h => by
    obtain ⟨outs2, h1, h2⟩ := h o List.mem_cons_self
    obtain ⟨outs, h3, h4⟩ := bl_join l (fun q hq => h q (List.mem_cons_of_mem _ hq))
    refine ⟨outs2 ++ outs, by rw [List.all_append, h2, h3]; rfl, fun q hq => ?_⟩
    rcases List.mem_cons.mp hq with rfl | hq
    · exact ⟨outs2, h1, fun y hy => List.mem_append_left _ hy⟩
    · obtain ⟨o2, h5, h6⟩ := h4 q hq
      exact ⟨o2, h5, fun y hy => List.mem_append_right _ (h6 y hy)⟩
theorem bl_one {xs : List Int32} {X : sx_W → Prop} {S : bx_S} {T2 : List bx_K} (hT : ∀ K ∈ T2, bx_Kok yp_P xs bw_INV X K) (hn : T2.all (fun K => decide (K.1 ≠ 276)) = true) (h : bl_ok (bx_run yp_P T2 700 27 bl_C yp_m276 276 [18, 1251] false S) = true) : ∃ outs2, bl_A xs X (none, S) outs2 ∧ outs2.all (fun o => bx_fit bw_INV bk_law o && bf_chk o.2) = true := by
  obtain ⟨outs, h1, h2⟩ := bl_some h
  exact ⟨outs, ⟨T2, hT, fun K hK => of_decide_eq_true (List.all_eq_true.mp hn K hK), h1⟩, h2⟩
def bf_L : List bx_O := bl_L ++ bf_P.map (fun cp => (none, bf_T cp.1 cp.2))
set_option maxRecDepth 100000 in
theorem bl_each0 {xs : List Int32} {X : sx_W → Prop} (h : bf_H xs X) : ∀ o ∈ bl_L, ∃ outs2, bl_A xs X o outs2 ∧ outs2.all (fun o => bx_fit bw_INV bk_law o && bf_chk o.2) = true := by
  unfold bl_L
  exact (List.forall_mem_cons.mpr ⟨bl_one (T2 := [bk_0, bk_50]) (List.forall_mem_cons.mpr ⟨(bo_0 h.1), (List.forall_mem_cons.mpr ⟨(bo_50 h.1), bx_Tnil⟩)⟩) (by decide +kernel) bl_h0, (List.forall_mem_cons.mpr ⟨bl_one (T2 := [bk_2, bk_52]) (List.forall_mem_cons.mpr ⟨(bo_2 h.1), (List.forall_mem_cons.mpr ⟨(bo_52 h.1), bx_Tnil⟩)⟩) (by decide +kernel) bl_h2, (List.forall_mem_cons.mpr ⟨bl_one (T2 := [bk_3, bk_53, bk_95]) (List.forall_mem_cons.mpr ⟨(bo_3 h.1), (List.forall_mem_cons.mpr ⟨(bo_53 h.1), (List.forall_mem_cons.mpr ⟨(bo_95 h.1), bx_Tnil⟩)⟩)⟩) (by decide +kernel) bl_h3, (List.forall_mem_cons.mpr ⟨bl_one (T2 := []) bx_Tnil (by decide +kernel) bl_h4, (List.forall_mem_cons.mpr ⟨bl_one (T2 := [bk_4, bk_54]) (List.forall_mem_cons.mpr ⟨(bo_4 h.1), (List.forall_mem_cons.mpr ⟨(bo_54 h.1), bx_Tnil⟩)⟩) (by decide +kernel) bl_h5, (List.forall_mem_cons.mpr ⟨bl_one (T2 := [bk_5, bk_55]) (List.forall_mem_cons.mpr ⟨(bo_5 h.1), (List.forall_mem_cons.mpr ⟨(bo_55 h.1), bx_Tnil⟩)⟩) (by decide +kernel) bl_h6, (List.forall_mem_cons.mpr ⟨bl_one (T2 := [bk_6, bk_56]) (List.forall_mem_cons.mpr ⟨(bo_6 h.1), (List.forall_mem_cons.mpr ⟨(bo_56 h.1), bx_Tnil⟩)⟩) (by decide +kernel) bl_h7, (List.forall_mem_cons.mpr ⟨bl_one (T2 := [bf_order, bk_30, bk_36, bk_88, bk_245]) (List.forall_mem_cons.mpr ⟨(bo_forder h), (List.forall_mem_cons.mpr ⟨(bo_30 h.1), (List.forall_mem_cons.mpr ⟨(bo_36 h.1), (List.forall_mem_cons.mpr ⟨(bo_88 h.1), (List.forall_mem_cons.mpr ⟨(bo_245 h.1), bx_Tnil⟩)⟩)⟩)⟩)⟩) (by decide +kernel) bl_h8, (List.forall_mem_cons.mpr ⟨bl_one (T2 := [bk_8, bk_57]) (List.forall_mem_cons.mpr ⟨(bo_8 h.1), (List.forall_mem_cons.mpr ⟨(bo_57 h.1), bx_Tnil⟩)⟩) (by decide +kernel) bl_h9, (List.forall_mem_cons.mpr ⟨bl_one (T2 := [bk_9, bk_58]) (List.forall_mem_cons.mpr ⟨(bo_9 h.1), (List.forall_mem_cons.mpr ⟨(bo_58 h.1), bx_Tnil⟩)⟩) (by decide +kernel) bl_h10, (List.forall_mem_cons.mpr ⟨bl_one (T2 := [bk_10, bk_59]) (List.forall_mem_cons.mpr ⟨(bo_10 h.1), (List.forall_mem_cons.mpr ⟨(bo_59 h.1), bx_Tnil⟩)⟩) (by decide +kernel) bl_h11, (List.forall_mem_cons.mpr ⟨bl_one (T2 := [bk_11, bk_60]) (List.forall_mem_cons.mpr ⟨(bo_11 h.1), (List.forall_mem_cons.mpr ⟨(bo_60 h.1), bx_Tnil⟩)⟩) (by decide +kernel) bl_h12, (List.forall_mem_cons.mpr ⟨bl_one (T2 := [bk_30, bk_90, bk_141, bk_196, bk_206, bk_258, bk_259, bk_260, bk_261]) (List.forall_mem_cons.mpr ⟨(bo_30 h.1), (List.forall_mem_cons.mpr ⟨(bo_90 h.1), (List.forall_mem_cons.mpr ⟨(bo_141 h.1), (List.forall_mem_cons.mpr ⟨(bo_196 h.1), (List.forall_mem_cons.mpr ⟨(bo_206 h.1), (List.forall_mem_cons.mpr ⟨(bo_258 h.1), (List.forall_mem_cons.mpr ⟨(bo_259 h.1), (List.forall_mem_cons.mpr ⟨(bo_260 h.1), (List.forall_mem_cons.mpr ⟨(bo_261 h.1), bx_Tnil⟩)⟩)⟩)⟩)⟩)⟩)⟩)⟩)⟩) (by decide +kernel) bl_h13, (List.forall_mem_cons.mpr ⟨bl_one (T2 := [bf_sold, bk_30, bk_91, bk_197, bk_259, bk_266, bk_418]) (List.forall_mem_cons.mpr ⟨(bo_fsold h), (List.forall_mem_cons.mpr ⟨(bo_30 h.1), (List.forall_mem_cons.mpr ⟨(bo_91 h.1), (List.forall_mem_cons.mpr ⟨(bo_197 h.1), (List.forall_mem_cons.mpr ⟨(bo_259 h.1), (List.forall_mem_cons.mpr ⟨(bo_266 h.1), (List.forall_mem_cons.mpr ⟨(bo_418 h.1), bx_Tnil⟩)⟩)⟩)⟩)⟩)⟩)⟩) (by decide +kernel) bl_h14, (List.forall_mem_cons.mpr ⟨bl_one (T2 := [bk_14, bk_61]) (List.forall_mem_cons.mpr ⟨(bo_14 h.1), (List.forall_mem_cons.mpr ⟨(bo_61 h.1), bx_Tnil⟩)⟩) (by decide +kernel) bl_h15, (List.forall_mem_cons.mpr ⟨bl_one (T2 := [bk_15, bk_62]) (List.forall_mem_cons.mpr ⟨(bo_15 h.1), (List.forall_mem_cons.mpr ⟨(bo_62 h.1), bx_Tnil⟩)⟩) (by decide +kernel) bl_h16, (List.forall_mem_cons.mpr ⟨bl_one (T2 := [bk_16, bk_63]) (List.forall_mem_cons.mpr ⟨(bo_16 h.1), (List.forall_mem_cons.mpr ⟨(bo_63 h.1), bx_Tnil⟩)⟩) (by decide +kernel) bl_h17, (List.forall_mem_cons.mpr ⟨bl_one (T2 := [bk_17, bk_64]) (List.forall_mem_cons.mpr ⟨(bo_17 h.1), (List.forall_mem_cons.mpr ⟨(bo_64 h.1), bx_Tnil⟩)⟩) (by decide +kernel) bl_h18, (List.forall_mem_cons.mpr ⟨bl_one (T2 := [bk_18, bk_65]) (List.forall_mem_cons.mpr ⟨(bo_18 h.1), (List.forall_mem_cons.mpr ⟨(bo_65 h.1), bx_Tnil⟩)⟩) (by decide +kernel) bl_h19, (List.forall_mem_cons.mpr ⟨bl_one (T2 := [bk_19, bk_66]) (List.forall_mem_cons.mpr ⟨(bo_19 h.1), (List.forall_mem_cons.mpr ⟨(bo_66 h.1), bx_Tnil⟩)⟩) (by decide +kernel) bl_h20, (List.forall_mem_cons.mpr ⟨bl_one (T2 := [bk_20, bk_67]) (List.forall_mem_cons.mpr ⟨(bo_20 h.1), (List.forall_mem_cons.mpr ⟨(bo_67 h.1), bx_Tnil⟩)⟩) (by decide +kernel) bl_h21, (List.forall_mem_cons.mpr ⟨bl_one (T2 := [bk_21, bk_68]) (List.forall_mem_cons.mpr ⟨(bo_21 h.1), (List.forall_mem_cons.mpr ⟨(bo_68 h.1), bx_Tnil⟩)⟩) (by decide +kernel) bl_h22, (List.forall_mem_cons.mpr ⟨bl_one (T2 := [bk_22, bk_69]) (List.forall_mem_cons.mpr ⟨(bo_22 h.1), (List.forall_mem_cons.mpr ⟨(bo_69 h.1), bx_Tnil⟩)⟩) (by decide +kernel) bl_h23, (List.forall_mem_cons.mpr ⟨bl_one (T2 := [bk_23, bk_70]) (List.forall_mem_cons.mpr ⟨(bo_23 h.1), (List.forall_mem_cons.mpr ⟨(bo_70 h.1), bx_Tnil⟩)⟩) (by decide +kernel) bl_h24, (List.forall_mem_cons.mpr ⟨bl_one (T2 := [bf_acts, bk_30, bk_36, bk_88, bk_100, bk_246, bk_410, bk_411]) (List.forall_mem_cons.mpr ⟨(bo_facts h), (List.forall_mem_cons.mpr ⟨(bo_30 h.1), (List.forall_mem_cons.mpr ⟨(bo_36 h.1), (List.forall_mem_cons.mpr ⟨(bo_88 h.1), (List.forall_mem_cons.mpr ⟨(bo_100 h.1), (List.forall_mem_cons.mpr ⟨(bo_246 h.1), (List.forall_mem_cons.mpr ⟨(bo_410 h.1), (List.forall_mem_cons.mpr ⟨(bo_411 h.1), bx_Tnil⟩)⟩)⟩)⟩)⟩)⟩)⟩)⟩) (by decide +kernel) bl_h25, (List.forall_mem_cons.mpr ⟨bl_one (T2 := [bf_acts, bk_30, bk_88, bk_198, bk_247]) (List.forall_mem_cons.mpr ⟨(bo_facts h), (List.forall_mem_cons.mpr ⟨(bo_30 h.1), (List.forall_mem_cons.mpr ⟨(bo_88 h.1), (List.forall_mem_cons.mpr ⟨(bo_198 h.1), (List.forall_mem_cons.mpr ⟨(bo_247 h.1), bx_Tnil⟩)⟩)⟩)⟩)⟩) (by decide +kernel) bl_h26, (List.forall_mem_cons.mpr ⟨bl_one (T2 := [bf_law, bk_30, bk_92]) (List.forall_mem_cons.mpr ⟨(bo_flaw h), (List.forall_mem_cons.mpr ⟨(bo_30 h.1), (List.forall_mem_cons.mpr ⟨(bo_92 h.1), bx_Tnil⟩)⟩)⟩) (by decide +kernel) bl_h27, (List.forall_mem_cons.mpr ⟨bl_one (T2 := []) bx_Tnil (by decide +kernel) bl_h28, (List.forall_mem_cons.mpr ⟨bl_one (T2 := [bk_27, bk_71]) (List.forall_mem_cons.mpr ⟨(bo_27 h.1), (List.forall_mem_cons.mpr ⟨(bo_71 h.1), bx_Tnil⟩)⟩) (by decide +kernel) bl_h29, (List.forall_mem_cons.mpr ⟨bl_one (T2 := []) bx_Tnil (by decide +kernel) bl_h30, (List.forall_mem_cons.mpr ⟨bl_one (T2 := []) bx_Tnil (by decide +kernel) bl_h31, (List.forall_mem_cons.mpr ⟨bl_one (T2 := []) bx_Tnil (by decide +kernel) bl_h32, (fun _ h => by cases h)⟩)⟩)⟩)⟩)⟩)⟩)⟩)⟩)⟩)⟩)⟩)⟩)⟩)⟩)⟩)⟩)⟩)⟩)⟩)⟩)⟩)⟩)⟩)⟩)⟩)⟩)⟩)⟩)⟩)⟩)⟩)⟩)
theorem bl_each {xs : List Int32} {X : sx_W → Prop} (h : bf_H xs X) : ∀ o ∈ bf_L, ∃ outs2, bl_A xs X o outs2 ∧ outs2.all (fun o => bx_fit bw_INV bk_law o && bf_chk o.2) = true := by
  intro o ho
  rcases List.mem_append.mp ho with ho | ho
  · exact bl_each0 h o ho
  · obtain ⟨cp, hc, rfl⟩ := List.mem_map.mp ho
    exact bl_one (T2 := [bk_30, bk_87, bk_96]) (List.forall_mem_cons.mpr ⟨(bo_30 h.1), (List.forall_mem_cons.mpr ⟨(bo_87 h.1), (List.forall_mem_cons.mpr ⟨(bo_96 h.1), bx_Tnil⟩)⟩)⟩) (by decide +kernel) (bf_hP cp hc)
theorem bf_env {vs : List Int} {e0 e1 e2 e3 c p : Int × Int} {z n : Int} (he : bx_env [e0, e1, e2, e3] vs) (hz : vs[1]? = some z) (h1 : c.1 ≤ z ∧ z ≤ c.2) (h2 : p.1 ≤ n ∧ n ≤ p.2) : bx_env [e0, c, e2, e3, p] (vs ++ [n]) := by
  obtain ⟨hl, hb⟩ := he
  rcases vs with _ | ⟨v0, _ | ⟨v1, _ | ⟨v2, _ | ⟨v3, _ | ⟨v4, r⟩⟩⟩⟩⟩
  all_goals try (exact absurd hl (by simp only [List.length_cons, List.length_nil]; omega))
  refine ⟨rfl, fun i q y hq hy => ?_⟩
  match i, hq, hy with
  | 0, hq, hy => exact hb 0 q y hq hy
  | 1, hq, hy =>
    cases hq; cases hy; cases hz
    exact h1
  | 2, hq, hy => exact hb 2 q y hq hy
  | 3, hq, hy => exact hb 3 q y hq hy
  | 4, hq, hy =>
    cases hq; cases hy
    exact h2
  | i + 5, hq, _ => exact absurd hq (by simp)
theorem bf_split {xs : List Int32} {X : sx_W → Prop} {vs : List Int} {lv : sx_L} {w : sx_W} {z : Int} (hok : bx_ok xs bw_INV X vs bl_S1 lv [] w) (hz : vs[1]? = some z) (h20 : z % 20 = 0) (hz0 : 0 ≤ z) (hz1 : z ≤ 260) : ∃ cp ∈ bf_P, ∃ vs2, bx_ext vs vs2 ∧ bx_ok xs bw_INV X vs2 (bf_T cp.1 cp.2) lv [] w := by
  obtain ⟨he, hl, -, hw, hk, hd⟩ := hok
  have he' : bx_env [(0, 4088), (0, 260), (8, 4096), ((-2147483648), 2147483647)] vs := he
  have hlen : vs.length = 4 := he'.1.symm
  obtain ⟨i, hi⟩ : ∃ i, vs[0]? = some i := ⟨_, List.getElem?_eq_getElem (by omega)⟩
  obtain ⟨n, hn, n1, n2⟩ : ∃ n : Int, (∀ v, bx_rd xs w 100000 (i + 1).toNat = some v → ∃ x : Int32, v = .int x ∧ x.toInt = n) ∧ -2147483648 ≤ n ∧ n ≤ 2147483647 := by
    cases hr : xs[(i + 1).toNat]? with
    | none => exact ⟨0, fun v hv => (by unfold bx_rd at hv; rw [if_pos rfl, hr] at hv; cases hv), by decide, by decide⟩
    | some x => exact ⟨x.toInt, fun v hv => (by unfold bx_rd at hv; rw [if_pos rfl, hr] at hv; cases hv; exact ⟨x, rfl, rfl⟩), ax_lo x, ax_hi x⟩
  have h0 : (vs ++ [n])[0]? = some i := bx_up [n] hi
  have h4 : (vs ++ [n])[4]? = some n := by rw [List.getElem?_append_right (by omega), hlen]; rfl
  have go : ∀ c p : Int × Int, (c, p) ∈ bf_P → True → True → (c.1 ≤ z ∧ z ≤ c.2) → (p.1 ≤ n ∧ n ≤ p.2) → ∃ cp ∈ bf_P, ∃ vs2, bx_ext vs vs2 ∧ bx_ok xs bw_INV X vs2 (bf_T cp.1 cp.2) lv [] w := by
    intro c p hm _ _ h1 h2
    refine ⟨(c, p), hm, vs ++ [n], ⟨[n], rfl⟩, bf_env he' hz h1 h2, hl.up [n], rfl, hw, fun q hq => ?_, fun q hq => (bx_ext.df ⟨[n], rfl⟩ hd) q hq⟩
    have hq' : q ∈ ((100000, (4, 0, 1), (4, 4, 0)) :: bl_S1.2.2.2.2.1 : bx_Kn) := hq
    rcases List.mem_cons.mp hq' with rfl | hq
    · refine ⟨i + 1, ?_, fun v _ hv => ?_⟩
      · have : bx_ixz (vs ++ [n]) (4, 0, 1) = ((vs ++ [n])[0]?).map (fun z => z + 1) := rfl
        show bx_ixz (vs ++ [n]) (4, 0, 1) = some (i + 1)
        rw [this, h0]
        rfl
      · obtain ⟨x, e, hx⟩ := hn v hv
        exact .inl ⟨rfl, x, n, e, h4, by dsimp only; omega⟩
    · exact (hk q hq).up [n]
  by_cases hn0 : n < 0
  · exact go (0, 260) ((-2147483648), (-1)) (by decide +kernel) trivial trivial (by dsimp only; omega) (by dsimp only; omega)
  by_cases hn1 : 40 < n
  · exact go (0, 260) (41, 2147483647) (by decide +kernel) trivial trivial (by dsimp only; omega) (by dsimp only; omega)
  have hz14 : z = 0 ∨ z = 20 ∨ z = 40 ∨ z = 60 ∨ z = 80 ∨ z = 100 ∨ z = 120 ∨ z = 140 ∨ z = 160 ∨ z = 180 ∨ z = 200 ∨ z = 220 ∨ z = 240 ∨ z = 260 := by omega
  rcases hz14 with rfl | rfl | rfl | rfl | rfl | rfl | rfl | rfl | rfl | rfl | rfl | rfl | rfl | rfl
  · by_cases hc : n ≤ 0
    · exact go (0, 0) (0, 0) (by decide +kernel) trivial trivial (by dsimp only; omega) (by dsimp only; omega)
    · exact go (0, 0) (1, 40) (by decide +kernel) trivial trivial (by dsimp only; omega) (by dsimp only; omega)
  · by_cases hc : n ≤ 5
    · exact go (20, 20) (0, 5) (by decide +kernel) trivial trivial (by dsimp only; omega) (by dsimp only; omega)
    · exact go (20, 20) (6, 40) (by decide +kernel) trivial trivial (by dsimp only; omega) (by dsimp only; omega)
  · by_cases hc : n ≤ 10
    · exact go (40, 40) (0, 10) (by decide +kernel) trivial trivial (by dsimp only; omega) (by dsimp only; omega)
    · exact go (40, 40) (11, 40) (by decide +kernel) trivial trivial (by dsimp only; omega) (by dsimp only; omega)
  · by_cases hc : n ≤ 15
    · exact go (60, 60) (0, 15) (by decide +kernel) trivial trivial (by dsimp only; omega) (by dsimp only; omega)
    · exact go (60, 60) (16, 40) (by decide +kernel) trivial trivial (by dsimp only; omega) (by dsimp only; omega)
  · by_cases hc : n ≤ 20
    · exact go (80, 80) (0, 20) (by decide +kernel) trivial trivial (by dsimp only; omega) (by dsimp only; omega)
    · exact go (80, 80) (21, 40) (by decide +kernel) trivial trivial (by dsimp only; omega) (by dsimp only; omega)
  · by_cases hc : n ≤ 25
    · exact go (100, 100) (0, 25) (by decide +kernel) trivial trivial (by dsimp only; omega) (by dsimp only; omega)
    · exact go (100, 100) (26, 40) (by decide +kernel) trivial trivial (by dsimp only; omega) (by dsimp only; omega)
  · by_cases hc : n ≤ 30
    · exact go (120, 120) (0, 30) (by decide +kernel) trivial trivial (by dsimp only; omega) (by dsimp only; omega)
    · exact go (120, 120) (31, 40) (by decide +kernel) trivial trivial (by dsimp only; omega) (by dsimp only; omega)
  · by_cases hc : n ≤ 35
    · exact go (140, 140) (0, 35) (by decide +kernel) trivial trivial (by dsimp only; omega) (by dsimp only; omega)
    · exact go (140, 140) (36, 40) (by decide +kernel) trivial trivial (by dsimp only; omega) (by dsimp only; omega)
  · exact go (160, 160) (0, 40) (by decide +kernel) trivial trivial (by dsimp only; omega) (by dsimp only; omega)
  · exact go (180, 180) (0, 40) (by decide +kernel) trivial trivial (by dsimp only; omega) (by dsimp only; omega)
  · exact go (200, 200) (0, 40) (by decide +kernel) trivial trivial (by dsimp only; omega) (by dsimp only; omega)
  · exact go (220, 220) (0, 40) (by decide +kernel) trivial trivial (by dsimp only; omega) (by dsimp only; omega)
  · exact go (240, 240) (0, 40) (by decide +kernel) trivial trivial (by dsimp only; omega) (by dsimp only; omega)
  · exact go (260, 260) (0, 40) (by decide +kernel) trivial trivial (by dsimp only; omega) (by dsimp only; omega)
theorem bf_in {xs : List Int32} {X : sx_W → Prop} {vs : List Int} {lv : sx_L} {w : sx_W} (hok : bx_ok xs bw_INV (fun w => X w ∧ bf_R xs w) vs (bx_st0 18 bk_law.2.2.1 bk_law.2.2.2.1) lv [] w) : ∃ z, z % 20 = 0 ∧ 0 ≤ z ∧ z ≤ 260 ∧ (vs ++ [z])[1]? = some z ∧ bx_ok xs bw_INV X (vs ++ [z]) bf_S lv [] w := by
  obtain ⟨he, hl, -, ⟨hw, hX, z, z0, z1, z20, k1, k2⟩, -, -⟩ := hok
  have he' : bx_env [(0, 4096)] vs := he
  have hl' : bx_gl vs [(0, (3, 0, 0)), (1, (2, 0, 0)), (2, (2, 86, 0)), (3, (4, 0, 0))] lv := hl
  have hlen : vs.length = 1 := he'.1.symm
  have h1 : (vs ++ [z])[1]? = some z := by rw [List.getElem?_append_right (by omega), hlen]; rfl
  refine ⟨z, z20, z0, z1, h1, he'.push z0 z1, hl'.up [z], rfl, ⟨hw, hX⟩, fun q hq => ?_, fun q hq => by cases hq⟩
  have hq' : q ∈ ([(1, (0, 1, 1), (4, 1, 0)), (86, (0, 4, 4), (4, 1, 0))] : bx_Kn) := hq
  rw [List.mem_cons, List.mem_singleton] at hq'
  rcases hq' with rfl | rfl
  · refine ⟨1, bx_ixk 1, fun v _ hv => ?_⟩
    obtain ⟨x, e, hx⟩ := k1 v hv
    exact .inl ⟨rfl, x, z, e, h1, by dsimp only; omega⟩
  · refine ⟨4, bx_ixk 4, fun v _ hv => ?_⟩
    obtain ⟨x, e, hx⟩ := k2 v hv
    exact .inl ⟨rfl, x, z, e, h1, by dsimp only; omega⟩
theorem bo_law {xs : List Int32} {X : sx_W → Prop} (h : bf_H xs X) : bx_KokM yp_P xs bw_INV (fun w => X w ∧ bf_R xs w) yp_m276 bk_law := by
  have hlen := bl_len
  obtain ⟨outs, hall, hjo⟩ := bl_join bf_L (bl_each h)
  have hall1 : outs.all (bx_fit bw_INV bk_law) = true := List.all_eq_true.mpr (fun o ho => by
    have := List.all_eq_true.mp hall o ho
    rw [Bool.and_eq_true] at this
    exact this.1)
  cases hr : bl_run1 with
  | none => rw [hr] at hlen; cases hlen
  | some l =>
    rw [hr] at hlen
    refine bx_chk2_ok (PC := bw_PC) (stops := [18, 1251]) bl_ctr hall1 (fun d0 hd vs lv w hok => ?_)
    obtain ⟨z, z20, z0, z1, hz, hok1⟩ := bf_in hok
    obtain ⟨o, hom, vs1, hx1, lv1, w1, fw1, hm⟩ := bx_run_ok h.1.1 h.1.2.1 (T := []) bx_Tnil 100 27 [(200000, 0, 0)] [3] yp_m276 276 _ true bf_S l (fun K hK => by cases hK) hr (vs ++ [z]) lv [] w hok1 d0 hd
    have hz1 : vs1[1]? = some z := by
      obtain ⟨u, rfl⟩ := hx1
      exact bx_up u hz
    have hxv : bx_ext vs vs1 := bx_ext.tr ⟨[z], rfl⟩ hx1
    -- which way, or which piece of the check's
    have hway : ∃ (S' : bx_S) (vs2 : List Int), (none, S') ∈ bf_L ∧ bx_ext vs1 vs2 ∧ bx_ok xs bw_INV X vs2 S' lv1 [] w1 ∧ bx_fl [3] lv lv1 ∧ ∀ res, sx_rn yp_P xs d0 yp_m276 S'.2.1 lv1 [] w1 res → sx_rn yp_P xs d0 yp_m276 18 lv [] w res := by
      have h1 := List.all_eq_true.mp hlen o hom
      rw [Bool.or_eq_true] at h1
      rcases h1 with h1 | h1
      · obtain ⟨q, hq, hoq⟩ := List.any_eq_true.mp h1
        have hoq := bl_eq_ok hoq
        subst hoq
        have hn : o.1 = none := of_decide_eq_true (List.all_eq_true.mp (by decide +kernel : bl_L.all (fun o => decide (o.1 = none)) = true) o hq)
        obtain ⟨r, S⟩ := o
        dsimp only at hn
        subst hn
        obtain ⟨j1, j2, -, j4⟩ := hm
        exact ⟨S, vs1, List.mem_append_left _ hq, bx_ext.rf, j1, j2, j4⟩
      · have hoq := bl_eq_ok h1
        subst hoq
        obtain ⟨j1, j2, -, j4⟩ := hm
        obtain ⟨cp, hcp, vs2, hx2, hok2⟩ := bf_split j1 hz1 z20 z0 z1
        exact ⟨_, vs2, List.mem_append_right _ (List.mem_map.mpr ⟨cp, hcp, rfl⟩), hx2, hok2, j2, j4⟩
    obtain ⟨S', vs2, hmem, hx2, hok2, hfl, hback⟩ := hway
    obtain ⟨outs2, ⟨T2, g2, g3, g4⟩, g5⟩ := hjo _ hmem
    obtain ⟨o3, hm3, vs3, hx3, lv3, w3, fw3, hm4⟩ := bx_run_ok h.1.1 h.1.2.1 g2 700 27 [(200000, 0, 0)] [3] yp_m276 276 [18, 1251] false S' outs2 (fun K hK e => absurd e (g3 K hK)) g4 vs2 lv1 [] w1 hok2 d0 hd
    have hz3 : vs3[1]? = some z := by
      obtain ⟨u, rfl⟩ := hx2
      obtain ⟨u', rfl⟩ := hx3
      exact bx_up u' (bx_up u hz1)
    have hc : bf_chk o3.2 = true := by
      have := List.all_eq_true.mp hall o3 (g5 o3 hm3)
      rw [Bool.and_eq_true] at this
      exact this.2
    refine ⟨o3, g5 o3 hm3, vs3, hxv.tr (hx2.tr hx3), lv3, w3, fw1.tr fw3, ?_⟩
    obtain ⟨r3, S3⟩ := o3
    match r3, hm4 with
    | none, hm4 =>
      obtain ⟨⟨a1, a2, a3, a4, a5, a6⟩, b2, b3, b4⟩ := hm4
      exact ⟨⟨a1, a2, a3, ⟨a4.1, a4.2, bf_chk_ok hc a1 a5 hz3 z20⟩, a5, a6⟩, hfl.tr b2, b3, fun res hres => hback res (b4 res hres)⟩
    | some r, hm4 =>
      obtain ⟨⟨a1, a4, a5, a6⟩, rv, b1, b2⟩ := hm4
      exact ⟨⟨a1, ⟨a4.1, a4.2, bf_chk_ok hc a1 a5 hz3 z20⟩, a5, a6⟩, rv, b1, hback _ b2⟩
