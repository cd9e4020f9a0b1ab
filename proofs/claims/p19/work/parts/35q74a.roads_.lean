section
/-! ring: roads (109, 111, 119 lie in 73a, 243 in 73b) -/
/-- readRing from 0 on -/
theorem hr121_0 {xs : List Int32} {n : Nat} {Q : hQ} {m : gx_M}
    (h1 : hxn xs n yp_m109 0 [(0, .inr (.inl 81)), (1, .inr (.inl 5)), (2, .inr (.inl 3))] [] m (fun r m' => hxn xs n yp_m121 6 [(0, .inr (.inl 81)), (1, .inr (.inl 5))] (hrs r ++ []) m' Q)) : hxn xs (n + 1) yp_m121 0 [(0, .inr (.inl 81)), (1, .inr (.inl 5)), (2, .inr (.inl 3))] [] m Q := by
  refine hx_blks (npc := 3) (L' := [(0, .inr (.inl 81)), (1, .inr (.inl 5)), (2, .inr (.inl 3))]) (st' := [.inr (.inl 3), .inr (.inl 5), .inr (.inl 81)]) (m' := m) ((0, .aload_n 0, 1, 0, 0, 0, 0), (0, 0, 0)) [((1, .aload_n 1, 1, 0, 0, 0, 0), (0, 0, 0)), ((2, .aload_n 2, 1, 0, 0, 0, 0), (0, 0, 0))] (by decide +kernel) rfl ?_
  exact hx_call (E := (3, .invokevirtual 50, 3, 109, 0, 4120, 0)) (M' := yp_m109) [.inr (.inl 81), .inr (.inl 5), .inr (.inl 3)] [] rfl (by decide +kernel) rfl ⟨rfl, rfl⟩ rfl rfl (hx_mono h1 (fun r m' h' => hx_pick [0, 1] h'))

/-- readRing from 6 on -/
theorem hr121_6 {xs : List Int32} {n : Nat} {Q : hQ} {m : gx_M} {s0 : Int}
    (h1 : (s0 ≠ 0) → hxn xs n yp_m121 16 [(0, .inr (.inl 81)), (1, .inr (.inl 5)), (3, .inl 0), (4, .inl 0)] [] m Q)
    (h2 : (s0 = 0) → Q (some (.inl 0)) m) : hxn xs (n + 1) yp_m121 6 [(0, .inr (.inl 81)), (1, .inr (.inl 5))] [.inl s0] m Q := by
  refine hx_ifs .ne 11 (by decide +kernel) (fun c1 => ?_) (fun c1 => ?_)
  · have c1 : s0 ≠ 0 := c1
    refine hx_blk (npc := 16) (L' := [(0, .inr (.inl 81)), (1, .inr (.inl 5)), (3, .inl 0), (4, .inl 0)]) (st' := []) (m' := m) [((11, .iconst 0, 1, 0, 0, 0, 0), (0, 0, 0)), ((12, .istore_n 3, 1, 0, 0, 0, 0), (0, 0, 0)), ((13, .iconst 0, 1, 0, 0, 0, 0), (0, 0, 0)), ((14, .istore 4, 2, 0, 0, 0, 0), (0, 0, 0))] (by decide +kernel) rfl ?_
    exact hx_pick [0, 1, 3, 4] (h1 c1)
  · have c1 : s0 = 0 := by have h : ¬ (s0 ≠ 0) := c1; omega
    refine hx_blk (npc := 10) (L' := [(0, .inr (.inl 81)), (1, .inr (.inl 5))]) (st' := [.inl 0]) (m' := m) [((9, .iconst 0, 1, 0, 0, 0, 0), (0, 0, 0))] (by decide +kernel) rfl ?_
    exact hx_reti (by decide +kernel) (h2 c1)

/-- readRing from 16 on -/
theorem hr121_16 {xs : List Int32} {n : Nat} {Q : hQ} {m : gx_M} {x3 x4 : Int}
    (h1 : ((m 81 1) ≤ x4) → Q (some (.inl 1)) m)
    (h2 : (x4 < (m 81 1)) → (8 ≤ x4) → Q (some (.inl 1)) m)
    (h3 : (x4 < (m 81 1)) → (x4 < 8) → hxn xs n yp_m111 0 [(0, .inr (.inl 81)), (1, .inr (.inl 5)), (2, .inl x4)] [] m (fun r m' => hxn xs n yp_m121 39 [(0, .inr (.inl 81)), (1, .inr (.inl 5)), (3, .inl x3), (4, .inl x4)] (hrs r ++ []) m' Q)) : hxn xs (n + 1) yp_m121 16 [(0, .inr (.inl 81)), (1, .inr (.inl 5)), (3, .inl x3), (4, .inl x4)] [] m Q := by
  refine hx_blks (npc := 22) (L' := [(0, .inr (.inl 81)), (1, .inr (.inl 5)), (3, .inl x3), (4, .inl x4)]) (st' := [.inl (m 81 1), .inl x4]) (m' := m) ((16, .iload 4, 2, 0, 0, 0, 0), (0, 0, 0)) [((18, .aload_n 0, 1, 0, 0, 0, 0), (0, 0, 0)), ((19, .getfield 36, 3, 8, 1, 2104, 0), (0, 81, 0))] (by decide +kernel) rfl ?_
  refine hx_cmp .ge 65 (by decide +kernel) (fun c1 => ?_) (fun c1 => ?_)
  · have c1 : (m 81 1) ≤ x4 := c1
    refine hx_blk (npc := 66) (L' := [(0, .inr (.inl 81)), (1, .inr (.inl 5)), (3, .inl x3), (4, .inl x4)]) (st' := [.inl 1]) (m' := m) [((65, .iconst 1, 1, 0, 0, 0, 0), (0, 0, 0))] (by decide +kernel) rfl ?_
    exact hx_reti (by decide +kernel) (h1 c1)
  · have c1 : x4 < (m 81 1) := by have h : ¬ ((m 81 1) ≤ x4) := c1; omega
    refine hx_blk (npc := 29) (L' := [(0, .inr (.inl 81)), (1, .inr (.inl 5)), (3, .inl x3), (4, .inl x4)]) (st' := [.inl 8, .inl x4]) (m' := m) [((25, .iload 4, 2, 0, 0, 0, 0), (0, 0, 0)), ((27, .bipush 8, 2, 0, 0, 0, 0), (0, 0, 0))] (by decide +kernel) rfl ?_
    refine hx_cmp .ge 65 (by decide +kernel) (fun c2 => ?_) (fun c2 => ?_)
    · have c2 : 8 ≤ x4 := c2
      refine hx_blk (npc := 66) (L' := [(0, .inr (.inl 81)), (1, .inr (.inl 5)), (3, .inl x3), (4, .inl x4)]) (st' := [.inl 1]) (m' := m) [((65, .iconst 1, 1, 0, 0, 0, 0), (0, 0, 0))] (by decide +kernel) rfl ?_
      exact hx_reti (by decide +kernel) (h2 c1 c2)
    · have c2 : x4 < 8 := by have h : ¬ (8 ≤ x4) := c2; omega
      refine hx_blk (npc := 36) (L' := [(0, .inr (.inl 81)), (1, .inr (.inl 5)), (3, .inl x3), (4, .inl x4)]) (st' := [.inl x4, .inr (.inl 5), .inr (.inl 81)]) (m' := m) [((32, .aload_n 0, 1, 0, 0, 0, 0), (0, 0, 0)), ((33, .aload_n 1, 1, 0, 0, 0, 0), (0, 0, 0)), ((34, .iload 4, 2, 0, 0, 0, 0), (0, 0, 0))] (by decide +kernel) rfl ?_
      exact hx_call (E := (36, .invokevirtual 54, 3, 111, 0, 4132, 0)) (M' := yp_m111) [.inr (.inl 81), .inr (.inl 5), .inl x4] [] rfl (by decide +kernel) rfl ⟨rfl, rfl⟩ rfl rfl (hx_mono (h3 c1 c2) (fun r m' h' => hx_pick [0, 1, 3, 4] h'))

/-- readRing from 39 on -/
theorem hr121_39 {xs : List Int32} {n : Nat} {Q : hQ} {m : gx_M} {x3 x4 s0 : Int}
    (h1 : ((gx_and (gx_shr x3 s0) 1) = 0) → hxn xs n yp_m121 16 [(0, .inr (.inl 81)), (1, .inr (.inl 5)), (3, .inl (gx_or x3 (gx_shl 1 s0))), (4, .inl (gx_w (x4 + 1)))] [] m Q)
    (h2 : ((gx_and (gx_shr x3 s0) 1) ≠ 0) → Q (some (.inl 0)) m) : hxn xs (n + 1) yp_m121 39 [(0, .inr (.inl 81)), (1, .inr (.inl 5)), (3, .inl x3), (4, .inl x4)] [.inl s0] m Q := by
  have f1 := gx_and_bd (gx_shr x3 s0) 1 (by decide)
  refine hx_blks (npc := 47) (L' := [(0, .inr (.inl 81)), (1, .inr (.inl 5)), (3, .inl x3), (4, .inl x4), (5, .inl s0)]) (st' := [.inl (gx_and (gx_shr x3 s0) 1)]) (m' := m) ((39, .istore 5, 2, 0, 0, 0, 0), (0, 0, 0)) [((41, .iload_n 3, 1, 0, 0, 0, 0), (0, 0, 0)), ((42, .iload 5, 2, 0, 0, 0, 0), (0, 0, 0)), ((44, .ishr, 1, 0, 0, 0, 0), (0, 0, 0)), ((45, .iconst 1, 1, 0, 0, 0, 0), (0, 0, 0)), ((46, .iand, 1, 0, 0, 0, 0), (0, 0, 0))] (by decide +kernel) rfl ?_
  refine hx_if .eq 52 (by decide +kernel) (fun c1 => ?_) (fun c1 => ?_)
  · have c1 : (gx_and (gx_shr x3 s0) 1) = 0 := c1
    refine hx_blk (npc := 16) (L' := [(0, .inr (.inl 81)), (1, .inr (.inl 5)), (3, .inl (gx_or x3 (gx_shl 1 s0))), (4, .inl (gx_w (x4 + 1))), (5, .inl s0)]) (st' := []) (m' := m) [((52, .iload_n 3, 1, 0, 0, 0, 0), (0, 0, 0)), ((53, .iconst 1, 1, 0, 0, 0, 0), (0, 0, 0)), ((54, .iload 5, 2, 0, 0, 0, 0), (0, 0, 0)), ((56, .ishl, 1, 0, 0, 0, 0), (0, 0, 0)), ((57, .ior, 1, 0, 0, 0, 0), (0, 0, 0)), ((58, .istore_n 3, 1, 0, 0, 0, 0), (0, 0, 0)), ((59, .iinc 4 1, 3, 0, 0, 0, 0), (0, 0, 0)), ((62, .goto (-46), 3, 0, 0, 0, 0), (0, 0, 0))] (by decide +kernel) rfl ?_
    exact hx_pick [0, 1, 3, 4] (h1 c1)
  · have c1 : (gx_and (gx_shr x3 s0) 1) ≠ 0 := c1
    refine hx_blk (npc := 51) (L' := [(0, .inr (.inl 81)), (1, .inr (.inl 5)), (3, .inl x3), (4, .inl x4), (5, .inl s0)]) (st' := [.inl 0]) (m' := m) [((50, .iconst 0, 1, 0, 0, 0, 0), (0, 0, 0))] (by decide +kernel) rfl ?_
    exact hx_reti (by decide +kernel) (h2 c1)

/-- wanted from 0 on -/
theorem hr124_0 {xs : List Int32} {n : Nat} {Q : hQ} {m : gx_M} {x1 x2 : Int}
    (h1 : (x1 < 0) → Q (some (.inl x1)) m)
    (h2 : (0 ≤ x1) → (x1 < 8) → hxn xs n yp_m124 20 [(0, .inr (.inl 81)), (1, .inl x1), (2, .inl x2), (3, .inl (-1)), (4, .inl x1), (5, .inl 0)] [] m Q)
    (h3 : (0 ≤ x1) → (8 ≤ x1) → Q (some (.inl x1)) m) : hxn xs (n + 1) yp_m124 0 [(0, .inr (.inl 81)), (1, .inl x1), (2, .inl x2)] [] m Q := by
  refine hx_blks (npc := 1) (L' := [(0, .inr (.inl 81)), (1, .inl x1), (2, .inl x2)]) (st' := [.inl x1]) (m' := m) ((0, .iload_n 1, 1, 0, 0, 0, 0), (0, 0, 0)) [] (by decide +kernel) rfl ?_
  refine hx_if .lt 10 (by decide +kernel) (fun c1 => ?_) (fun c1 => ?_)
  · have c1 : x1 < 0 := c1
    refine hx_blk (npc := 11) (L' := [(0, .inr (.inl 81)), (1, .inl x1), (2, .inl x2)]) (st' := [.inl x1]) (m' := m) [((10, .iload_n 1, 1, 0, 0, 0, 0), (0, 0, 0))] (by decide +kernel) rfl ?_
    exact hx_reti (by decide +kernel) (h1 c1)
  · have c1 : 0 ≤ x1 := by have h : ¬ (x1 < 0) := c1; omega
    refine hx_blk (npc := 7) (L' := [(0, .inr (.inl 81)), (1, .inl x1), (2, .inl x2)]) (st' := [.inl 8, .inl x1]) (m' := m) [((4, .iload_n 1, 1, 0, 0, 0, 0), (0, 0, 0)), ((5, .bipush 8, 2, 0, 0, 0, 0), (0, 0, 0))] (by decide +kernel) rfl ?_
    refine hx_cmp .lt 12 (by decide +kernel) (fun c2 => ?_) (fun c2 => ?_)
    · have c2 : x1 < 8 := c2
      refine hx_blk (npc := 20) (L' := [(0, .inr (.inl 81)), (1, .inl x1), (2, .inl x2), (3, .inl (-1)), (4, .inl x1), (5, .inl 0)]) (st' := []) (m' := m) [((12, .iconst (-1), 1, 0, 0, 0, 0), (0, 0, 0)), ((13, .istore_n 3, 1, 0, 0, 0, 0), (0, 0, 0)), ((14, .iload_n 1, 1, 0, 0, 0, 0), (0, 0, 0)), ((15, .istore 4, 2, 0, 0, 0, 0), (0, 0, 0)), ((17, .iconst 0, 1, 0, 0, 0, 0), (0, 0, 0)), ((18, .istore 5, 2, 0, 0, 0, 0), (0, 0, 0))] (by decide +kernel) rfl ?_
      exact hx_pick [0, 1, 2, 3, 4, 5] (h2 c1 c2)
    · have c2 : 8 ≤ x1 := by have h : ¬ (x1 < 8) := c2; omega
      refine hx_blk (npc := 11) (L' := [(0, .inr (.inl 81)), (1, .inl x1), (2, .inl x2)]) (st' := [.inl x1]) (m' := m) [((10, .iload_n 1, 1, 0, 0, 0, 0), (0, 0, 0))] (by decide +kernel) rfl ?_
      exact hx_reti (by decide +kernel) (h3 c1 c2)

/-- wanted from 20 on -/
theorem hr124_20 {xs : List Int32} {n : Nat} {Q : hQ} {m : gx_M} {x1 x2 x3 x4 x5 : Int}
    (h1 : (8 ≤ x5) → Q (some (.inl x4)) m)
    (h2 : (x5 < 8) → ((gx_and (gx_shr x2 x5) 1) = 0) → hxn xs n yp_m124 20 [(0, .inr (.inl 81)), (1, .inl x1), (2, .inl x2), (3, .inl x3), (4, .inl x4), (5, .inl (gx_w (x5 + 1)))] [] m Q)
    (h3 : (x5 < 8) → ((gx_and (gx_shr x2 x5) 1) ≠ 0) → (x3 < (m 83 (gx_w ((gx_w (x1 * 8)) + x5)).toNat)) → hxn xs n yp_m124 20 [(0, .inr (.inl 81)), (1, .inl x1), (2, .inl x2), (3, .inl (m 83 (gx_w ((gx_w (x1 * 8)) + x5)).toNat)), (4, .inl x5), (5, .inl (gx_w (x5 + 1)))] [] m Q)
    (h4 : (x5 < 8) → ((gx_and (gx_shr x2 x5) 1) ≠ 0) → ((m 83 (gx_w ((gx_w (x1 * 8)) + x5)).toNat) ≤ x3) → hxn xs n yp_m124 20 [(0, .inr (.inl 81)), (1, .inl x1), (2, .inl x2), (3, .inl x3), (4, .inl x4), (5, .inl (gx_w (x5 + 1)))] [] m Q) : hxn xs (n + 1) yp_m124 20 [(0, .inr (.inl 81)), (1, .inl x1), (2, .inl x2), (3, .inl x3), (4, .inl x4), (5, .inl x5)] [] m Q := by
  refine hx_blks (npc := 24) (L' := [(0, .inr (.inl 81)), (1, .inl x1), (2, .inl x2), (3, .inl x3), (4, .inl x4), (5, .inl x5)]) (st' := [.inl 8, .inl x5]) (m' := m) ((20, .iload 5, 2, 0, 0, 0, 0), (0, 0, 0)) [((22, .bipush 8, 2, 0, 0, 0, 0), (0, 0, 0))] (by decide +kernel) rfl ?_
  refine hx_cmp .ge 78 (by decide +kernel) (fun c1 => ?_) (fun c1 => ?_)
  · have c1 : 8 ≤ x5 := c1
    refine hx_blk (npc := 80) (L' := [(0, .inr (.inl 81)), (1, .inl x1), (2, .inl x2), (3, .inl x3), (4, .inl x4), (5, .inl x5)]) (st' := [.inl x4]) (m' := m) [((78, .iload 4, 2, 0, 0, 0, 0), (0, 0, 0))] (by decide +kernel) rfl ?_
    exact hx_reti (by decide +kernel) (h1 c1)
  · have c1 : x5 < 8 := by have h : ¬ (8 ≤ x5) := c1; omega
    have f1 := gx_and_bd (gx_shr x2 x5) 1 (by decide)
    refine hx_blk (npc := 33) (L' := [(0, .inr (.inl 81)), (1, .inl x1), (2, .inl x2), (3, .inl x3), (4, .inl x4), (5, .inl x5)]) (st' := [.inl (gx_and (gx_shr x2 x5) 1)]) (m' := m) [((27, .iload_n 2, 1, 0, 0, 0, 0), (0, 0, 0)), ((28, .iload 5, 2, 0, 0, 0, 0), (0, 0, 0)), ((30, .ishr, 1, 0, 0, 0, 0), (0, 0, 0)), ((31, .iconst 1, 1, 0, 0, 0, 0), (0, 0, 0)), ((32, .iand, 1, 0, 0, 0, 0), (0, 0, 0))] (by decide +kernel) rfl ?_
    refine hx_if .eq 72 (by decide +kernel) (fun c2 => ?_) (fun c2 => ?_)
    · have c2 : (gx_and (gx_shr x2 x5) 1) = 0 := c2
      refine hx_blk (npc := 20) (L' := [(0, .inr (.inl 81)), (1, .inl x1), (2, .inl x2), (3, .inl x3), (4, .inl x4), (5, .inl (gx_w (x5 + 1)))]) (st' := []) (m' := m) [((72, .iinc 5 1, 3, 0, 0, 0, 0), (0, 0, 0)), ((75, .goto (-55), 3, 0, 0, 0, 0), (0, 0, 0))] (by decide +kernel) rfl ?_
      exact hx_pick [0, 1, 2, 3, 4, 5] (h2 c1 c2)
    · have c2 : (gx_and (gx_shr x2 x5) 1) ≠ 0 := c2
      refine hx_blk (npc := 49) (L' := [(0, .inr (.inl 81)), (1, .inl x1), (2, .inl x2), (3, .inl x3), (4, .inl x4), (5, .inl x5)]) (st' := [.inl x3, .inl (m 83 (gx_w ((gx_w (x1 * 8)) + x5)).toNat)]) (m' := m) [((36, .aload_n 0, 1, 0, 0, 0, 0), (0, 0, 0)), ((37, .getfield 15, 3, 8, 2, 2105, 0), (1, 81, 83)), ((40, .iload_n 1, 1, 0, 0, 0, 0), (0, 0, 0)), ((41, .bipush 8, 2, 0, 0, 0, 0), (0, 0, 0)), ((43, .imul, 1, 0, 0, 0, 0), (0, 0, 0)), ((44, .iload 5, 2, 0, 0, 0, 0), (0, 0, 0)), ((46, .iadd, 1, 0, 0, 0, 0), (0, 0, 0)), ((47, .iaload, 1, 0, 0, 0, 0), (0, 83, 0)), ((48, .iload_n 3, 1, 0, 0, 0, 0), (0, 0, 0))] (by decide +kernel) rfl ?_
      refine hx_cmp .gt 55 (by decide +kernel) (fun c3 => ?_) (fun c3 => ?_)
      · have c3 : x3 < (m 83 (gx_w ((gx_w (x1 * 8)) + x5)).toNat) := c3
        refine hx_blk (npc := 20) (L' := [(0, .inr (.inl 81)), (1, .inl x1), (2, .inl x2), (3, .inl (m 83 (gx_w ((gx_w (x1 * 8)) + x5)).toNat)), (4, .inl x5), (5, .inl (gx_w (x5 + 1)))]) (st' := []) (m' := m) [((55, .aload_n 0, 1, 0, 0, 0, 0), (0, 0, 0)), ((56, .getfield 15, 3, 8, 2, 2105, 0), (1, 81, 83)), ((59, .iload_n 1, 1, 0, 0, 0, 0), (0, 0, 0)), ((60, .bipush 8, 2, 0, 0, 0, 0), (0, 0, 0)), ((62, .imul, 1, 0, 0, 0, 0), (0, 0, 0)), ((63, .iload 5, 2, 0, 0, 0, 0), (0, 0, 0)), ((65, .iadd, 1, 0, 0, 0, 0), (0, 0, 0)), ((66, .iaload, 1, 0, 0, 0, 0), (0, 83, 0)), ((67, .istore_n 3, 1, 0, 0, 0, 0), (0, 0, 0)), ((68, .iload 5, 2, 0, 0, 0, 0), (0, 0, 0)), ((70, .istore 4, 2, 0, 0, 0, 0), (0, 0, 0)), ((72, .iinc 5 1, 3, 0, 0, 0, 0), (0, 0, 0)), ((75, .goto (-55), 3, 0, 0, 0, 0), (0, 0, 0))] (by decide +kernel) rfl ?_
        exact hx_pick [0, 1, 2, 3, 4, 5] (h3 c1 c2 c3)
      · have c3 : (m 83 (gx_w ((gx_w (x1 * 8)) + x5)).toNat) ≤ x3 := by have h : ¬ (x3 < (m 83 (gx_w ((gx_w (x1 * 8)) + x5)).toNat)) := c3; omega
        refine hx_blk (npc := 20) (L' := [(0, .inr (.inl 81)), (1, .inl x1), (2, .inl x2), (3, .inl x3), (4, .inl x4), (5, .inl (gx_w (x5 + 1)))]) (st' := []) (m' := m) [((52, .goto 20, 3, 0, 0, 0, 0), (0, 0, 0)), ((72, .iinc 5 1, 3, 0, 0, 0, 0), (0, 0, 0)), ((75, .goto (-55), 3, 0, 0, 0, 0), (0, 0, 0))] (by decide +kernel) rfl ?_
        exact hx_pick [0, 1, 2, 3, 4, 5] (h4 c1 c2 c3)

/-- isInRing from 0 on -/
theorem hr125_0 {xs : List Int32} {n : Nat} {Q : hQ} {m : gx_M} {x1 : Int}
    (h1 : hxn xs n yp_m125 4 [(0, .inr (.inl 81)), (1, .inl x1), (2, .inl x1), (3, .inl 0)] [] m Q) : hxn xs (n + 1) yp_m125 0 [(0, .inr (.inl 81)), (1, .inl x1)] [] m Q := by
  refine hx_blks (npc := 4) (L' := [(0, .inr (.inl 81)), (1, .inl x1), (2, .inl x1), (3, .inl 0)]) (st' := []) (m' := m) ((0, .iload_n 1, 1, 0, 0, 0, 0), (0, 0, 0)) [((1, .istore_n 2, 1, 0, 0, 0, 0), (0, 0, 0)), ((2, .iconst 0, 1, 0, 0, 0, 0), (0, 0, 0)), ((3, .istore_n 3, 1, 0, 0, 0, 0), (0, 0, 0))] (by decide +kernel) rfl ?_
  exact hx_pick [0, 1, 2, 3] h1

/-- isInRing from 4 on -/
theorem hr125_4 {xs : List Int32} {n : Nat} {Q : hQ} {m : gx_M} {x1 x2 x3 : Int}
    (h1 : (8 ≤ x3) → Q (some (.inl 0)) m)
    (h2 : (x3 < 8) → (x2 < 0) → Q (some (.inl 0)) m)
    (h3 : (x3 < 8) → (0 ≤ x2) → (x2 < 8) → ((m 85 (x2).toNat) ≠ x1) → hxn xs n yp_m125 4 [(0, .inr (.inl 81)), (1, .inl x1), (2, .inl (m 85 (x2).toNat)), (3, .inl (gx_w (x3 + 1)))] [] m Q)
    (h4 : (x3 < 8) → (0 ≤ x2) → (x2 < 8) → ((m 85 (x2).toNat) = x1) → Q (some (.inl 1)) m)
    (h5 : (x3 < 8) → (0 ≤ x2) → (8 ≤ x2) → Q (some (.inl 0)) m) : hxn xs (n + 1) yp_m125 4 [(0, .inr (.inl 81)), (1, .inl x1), (2, .inl x2), (3, .inl x3)] [] m Q := by
  refine hx_blks (npc := 7) (L' := [(0, .inr (.inl 81)), (1, .inl x1), (2, .inl x2), (3, .inl x3)]) (st' := [.inl 8, .inl x3]) (m' := m) ((4, .iload_n 3, 1, 0, 0, 0, 0), (0, 0, 0)) [((5, .bipush 8, 2, 0, 0, 0, 0), (0, 0, 0))] (by decide +kernel) rfl ?_
  refine hx_cmp .ge 42 (by decide +kernel) (fun c1 => ?_) (fun c1 => ?_)
  · have c1 : 8 ≤ x3 := c1
    refine hx_blk (npc := 43) (L' := [(0, .inr (.inl 81)), (1, .inl x1), (2, .inl x2), (3, .inl x3)]) (st' := [.inl 0]) (m' := m) [((42, .iconst 0, 1, 0, 0, 0, 0), (0, 0, 0))] (by decide +kernel) rfl ?_
    exact hx_reti (by decide +kernel) (h1 c1)
  · have c1 : x3 < 8 := by have h : ¬ (8 ≤ x3) := c1; omega
    refine hx_blk (npc := 11) (L' := [(0, .inr (.inl 81)), (1, .inl x1), (2, .inl x2), (3, .inl x3)]) (st' := [.inl x2]) (m' := m) [((10, .iload_n 2, 1, 0, 0, 0, 0), (0, 0, 0))] (by decide +kernel) rfl ?_
    refine hx_if .lt 20 (by decide +kernel) (fun c2 => ?_) (fun c2 => ?_)
    · have c2 : x2 < 0 := c2
      refine hx_blk (npc := 21) (L' := [(0, .inr (.inl 81)), (1, .inl x1), (2, .inl x2), (3, .inl x3)]) (st' := [.inl 0]) (m' := m) [((20, .iconst 0, 1, 0, 0, 0, 0), (0, 0, 0))] (by decide +kernel) rfl ?_
      exact hx_reti (by decide +kernel) (h2 c1 c2)
    · have c2 : 0 ≤ x2 := by have h : ¬ (x2 < 0) := c2; omega
      refine hx_blk (npc := 17) (L' := [(0, .inr (.inl 81)), (1, .inl x1), (2, .inl x2), (3, .inl x3)]) (st' := [.inl 8, .inl x2]) (m' := m) [((14, .iload_n 2, 1, 0, 0, 0, 0), (0, 0, 0)), ((15, .bipush 8, 2, 0, 0, 0, 0), (0, 0, 0))] (by decide +kernel) rfl ?_
      refine hx_cmp .lt 22 (by decide +kernel) (fun c3 => ?_) (fun c3 => ?_)
      · have c3 : x2 < 8 := c3
        refine hx_blk (npc := 31) (L' := [(0, .inr (.inl 81)), (1, .inl x1), (2, .inl (m 85 (x2).toNat)), (3, .inl x3)]) (st' := [.inl x1, .inl (m 85 (x2).toNat)]) (m' := m) [((22, .aload_n 0, 1, 0, 0, 0, 0), (0, 0, 0)), ((23, .getfield 21, 3, 8, 4, 2107, 0), (1, 81, 85)), ((26, .iload_n 2, 1, 0, 0, 0, 0), (0, 0, 0)), ((27, .iaload, 1, 0, 0, 0, 0), (0, 85, 0)), ((28, .istore_n 2, 1, 0, 0, 0, 0), (0, 0, 0)), ((29, .iload_n 2, 1, 0, 0, 0, 0), (0, 0, 0)), ((30, .iload_n 1, 1, 0, 0, 0, 0), (0, 0, 0))] (by decide +kernel) rfl ?_
        refine hx_cmp .ne 36 (by decide +kernel) (fun c4 => ?_) (fun c4 => ?_)
        · have c4 : (m 85 (x2).toNat) ≠ x1 := c4
          refine hx_blk (npc := 4) (L' := [(0, .inr (.inl 81)), (1, .inl x1), (2, .inl (m 85 (x2).toNat)), (3, .inl (gx_w (x3 + 1)))]) (st' := []) (m' := m) [((36, .iinc 3 1, 3, 0, 0, 0, 0), (0, 0, 0)), ((39, .goto (-35), 3, 0, 0, 0, 0), (0, 0, 0))] (by decide +kernel) rfl ?_
          exact hx_pick [0, 1, 2, 3] (h3 c1 c2 c3 c4)
        · have c4 : (m 85 (x2).toNat) = x1 := by have h : ¬ ((m 85 (x2).toNat) ≠ x1) := c4; omega
          refine hx_blk (npc := 35) (L' := [(0, .inr (.inl 81)), (1, .inl x1), (2, .inl (m 85 (x2).toNat)), (3, .inl x3)]) (st' := [.inl 1]) (m' := m) [((34, .iconst 1, 1, 0, 0, 0, 0), (0, 0, 0))] (by decide +kernel) rfl ?_
          exact hx_reti (by decide +kernel) (h4 c1 c2 c3 c4)
      · have c3 : 8 ≤ x2 := by have h : ¬ (x2 < 8) := c3; omega
        refine hx_blk (npc := 21) (L' := [(0, .inr (.inl 81)), (1, .inl x1), (2, .inl x2), (3, .inl x3)]) (st' := [.inl 0]) (m' := m) [((20, .iconst 0, 1, 0, 0, 0, 0), (0, 0, 0))] (by decide +kernel) rfl ?_
        exact hx_reti (by decide +kernel) (h5 c1 c2 c3)

/-- turnedOnce from 0 on -/
theorem hr123_0 {xs : List Int32} {n : Nat} {Q : hQ} {m : gx_M} {x1 : Int}
    (h1 : hxn xs n yp_m123 2 [(0, .inr (.inl 81)), (1, .inl x1), (2, .inl 0)] [] m Q) : hxn xs (n + 1) yp_m123 0 [(0, .inr (.inl 81)), (1, .inl x1)] [] m Q := by
  refine hx_blks (npc := 2) (L' := [(0, .inr (.inl 81)), (1, .inl x1), (2, .inl 0)]) (st' := []) (m' := m) ((0, .iconst 0, 1, 0, 0, 0, 0), (0, 0, 0)) [((1, .istore_n 2, 1, 0, 0, 0, 0), (0, 0, 0))] (by decide +kernel) rfl ?_
  exact hx_pick [0, 1, 2] h1

/-- turnedOnce from 2 on -/
theorem hr123_2 {xs : List Int32} {n : Nat} {Q : hQ} {m : gx_M} {x1 x2 : Int}
    (h1 : (8 ≤ x2) → hxn xs n yp_m123 38 [(0, .inr (.inl 81)), (1, .inl x1), (2, .inl 0), (3, .inl 0)] [] m Q)
    (h2 : (x2 < 8) → ((gx_and (gx_shr x1 x2) 1) = 0) → hxn xs n yp_m123 2 [(0, .inr (.inl 81)), (1, .inl x1), (2, .inl (gx_w (x2 + 1)))] [] m Q)
    (h3 : (x2 < 8) → ((gx_and (gx_shr x1 x2) 1) ≠ 0) → hxn xs n yp_m124 0 [(0, .inr (.inl 81)), (1, .inl x2), (2, .inl x1)] [] m (fun r m' => hxn xs n yp_m123 27 [(0, .inr (.inl 81)), (1, .inl x1), (2, .inl x2)] (hrs r ++ [.inl x2, .inr (.inl 85)]) m' Q)) : hxn xs (n + 1) yp_m123 2 [(0, .inr (.inl 81)), (1, .inl x1), (2, .inl x2)] [] m Q := by
  refine hx_blks (npc := 5) (L' := [(0, .inr (.inl 81)), (1, .inl x1), (2, .inl x2)]) (st' := [.inl 8, .inl x2]) (m' := m) ((2, .iload_n 2, 1, 0, 0, 0, 0), (0, 0, 0)) [((3, .bipush 8, 2, 0, 0, 0, 0), (0, 0, 0))] (by decide +kernel) rfl ?_
  refine hx_cmp .ge 34 (by decide +kernel) (fun c1 => ?_) (fun c1 => ?_)
  · have c1 : 8 ≤ x2 := c1
    refine hx_blk (npc := 38) (L' := [(0, .inr (.inl 81)), (1, .inl x1), (2, .inl 0), (3, .inl 0)]) (st' := []) (m' := m) [((34, .iconst 0, 1, 0, 0, 0, 0), (0, 0, 0)), ((35, .istore_n 2, 1, 0, 0, 0, 0), (0, 0, 0)), ((36, .iconst 0, 1, 0, 0, 0, 0), (0, 0, 0)), ((37, .istore_n 3, 1, 0, 0, 0, 0), (0, 0, 0))] (by decide +kernel) rfl ?_
    exact hx_pick [0, 1, 2, 3] (h1 c1)
  · have c1 : x2 < 8 := by have h : ¬ (8 ≤ x2) := c1; omega
    have f1 := gx_and_bd (gx_shr x1 x2) 1 (by decide)
    refine hx_blk (npc := 13) (L' := [(0, .inr (.inl 81)), (1, .inl x1), (2, .inl x2)]) (st' := [.inl (gx_and (gx_shr x1 x2) 1)]) (m' := m) [((8, .iload_n 1, 1, 0, 0, 0, 0), (0, 0, 0)), ((9, .iload_n 2, 1, 0, 0, 0, 0), (0, 0, 0)), ((10, .ishr, 1, 0, 0, 0, 0), (0, 0, 0)), ((11, .iconst 1, 1, 0, 0, 0, 0), (0, 0, 0)), ((12, .iand, 1, 0, 0, 0, 0), (0, 0, 0))] (by decide +kernel) rfl ?_
    refine hx_if .eq 28 (by decide +kernel) (fun c2 => ?_) (fun c2 => ?_)
    · have c2 : (gx_and (gx_shr x1 x2) 1) = 0 := c2
      refine hx_blk (npc := 2) (L' := [(0, .inr (.inl 81)), (1, .inl x1), (2, .inl (gx_w (x2 + 1)))]) (st' := []) (m' := m) [((28, .iinc 2 1, 3, 0, 0, 0, 0), (0, 0, 0)), ((31, .goto (-29), 3, 0, 0, 0, 0), (0, 0, 0))] (by decide +kernel) rfl ?_
      exact hx_pick [0, 1, 2] (h2 c1 c2)
    · have c2 : (gx_and (gx_shr x1 x2) 1) ≠ 0 := c2
      refine hx_blk (npc := 24) (L' := [(0, .inr (.inl 81)), (1, .inl x1), (2, .inl x2)]) (st' := [.inl x1, .inl x2, .inr (.inl 81), .inl x2, .inr (.inl 85)]) (m' := m) [((16, .aload_n 0, 1, 0, 0, 0, 0), (0, 0, 0)), ((17, .getfield 21, 3, 8, 4, 2107, 0), (1, 81, 85)), ((20, .iload_n 2, 1, 0, 0, 0, 0), (0, 0, 0)), ((21, .aload_n 0, 1, 0, 0, 0, 0), (0, 0, 0)), ((22, .iload_n 2, 1, 0, 0, 0, 0), (0, 0, 0)), ((23, .iload_n 1, 1, 0, 0, 0, 0), (0, 0, 0))] (by decide +kernel) rfl ?_
      exact hx_call (E := (24, .invokevirtual 94, 3, 124, 0, 4187, 0)) (M' := yp_m124) [.inr (.inl 81), .inl x2, .inl x1] [.inl x2, .inr (.inl 85)] rfl (by decide +kernel) rfl ⟨rfl, rfl⟩ rfl rfl (hx_mono (h3 c1 c2) (fun r m' h' => hx_pick [0, 1, 2] h'))

/-- turnedOnce from 27 on -/
theorem hr123_27 {xs : List Int32} {n : Nat} {Q : hQ} {m : gx_M} {x1 x2 s1 s2 : Int}
    (h1 : hxn xs n yp_m123 2 [(0, .inr (.inl 81)), (1, .inl x1), (2, .inl (gx_w (x2 + 1)))] [] (gx_u m 85 (s1).toNat s2) Q) : hxn xs (n + 1) yp_m123 27 [(0, .inr (.inl 81)), (1, .inl x1), (2, .inl x2)] [.inl s2, .inl s1, .inr (.inl 85)] m Q := by
  refine hx_blks (npc := 2) (L' := [(0, .inr (.inl 81)), (1, .inl x1), (2, .inl (gx_w (x2 + 1)))]) (st' := []) (m' := (gx_u m 85 (s1).toNat s2)) ((27, .iastore, 1, 0, 0, 0, 0), (0, 85, 0)) [((28, .iinc 2 1, 3, 0, 0, 0, 0), (0, 0, 0)), ((31, .goto (-29), 3, 0, 0, 0, 0), (0, 0, 0))] (by decide +kernel) rfl ?_
  exact hx_pick [0, 1, 2] h1

/-- turnedOnce from 38 on -/
theorem hr123_38 {xs : List Int32} {n : Nat} {Q : hQ} {m : gx_M} {x1 x2 x3 : Int}
    (h1 : (8 ≤ x3) → Q (some (.inl x2)) m)
    (h2 : (x3 < 8) → ((gx_and (gx_shr x1 x3) 1) = 0) → hxn xs n yp_m123 38 [(0, .inr (.inl 81)), (1, .inl x1), (2, .inl x2), (3, .inl (gx_w (x3 + 1)))] [] m Q)
    (h3 : (x3 < 8) → ((gx_and (gx_shr x1 x3) 1) ≠ 0) → hxn xs n yp_m125 0 [(0, .inr (.inl 81)), (1, .inl x3)] [] m (fun r m' => hxn xs n yp_m123 57 [(0, .inr (.inl 81)), (1, .inl x1), (2, .inl x2), (3, .inl x3)] (hrs r ++ []) m' Q)) : hxn xs (n + 1) yp_m123 38 [(0, .inr (.inl 81)), (1, .inl x1), (2, .inl x2), (3, .inl x3)] [] m Q := by
  refine hx_blks (npc := 41) (L' := [(0, .inr (.inl 81)), (1, .inl x1), (2, .inl x2), (3, .inl x3)]) (st' := [.inl 8, .inl x3]) (m' := m) ((38, .iload_n 3, 1, 0, 0, 0, 0), (0, 0, 0)) [((39, .bipush 8, 2, 0, 0, 0, 0), (0, 0, 0))] (by decide +kernel) rfl ?_
  refine hx_cmp .ge 72 (by decide +kernel) (fun c1 => ?_) (fun c1 => ?_)
  · have c1 : 8 ≤ x3 := c1
    refine hx_blk (npc := 73) (L' := [(0, .inr (.inl 81)), (1, .inl x1), (2, .inl x2), (3, .inl x3)]) (st' := [.inl x2]) (m' := m) [((72, .iload_n 2, 1, 0, 0, 0, 0), (0, 0, 0))] (by decide +kernel) rfl ?_
    exact hx_reti (by decide +kernel) (h1 c1)
  · have c1 : x3 < 8 := by have h : ¬ (8 ≤ x3) := c1; omega
    have f1 := gx_and_bd (gx_shr x1 x3) 1 (by decide)
    refine hx_blk (npc := 49) (L' := [(0, .inr (.inl 81)), (1, .inl x1), (2, .inl x2), (3, .inl x3)]) (st' := [.inl (gx_and (gx_shr x1 x3) 1)]) (m' := m) [((44, .iload_n 1, 1, 0, 0, 0, 0), (0, 0, 0)), ((45, .iload_n 3, 1, 0, 0, 0, 0), (0, 0, 0)), ((46, .ishr, 1, 0, 0, 0, 0), (0, 0, 0)), ((47, .iconst 1, 1, 0, 0, 0, 0), (0, 0, 0)), ((48, .iand, 1, 0, 0, 0, 0), (0, 0, 0))] (by decide +kernel) rfl ?_
    refine hx_if .eq 66 (by decide +kernel) (fun c2 => ?_) (fun c2 => ?_)
    · have c2 : (gx_and (gx_shr x1 x3) 1) = 0 := c2
      refine hx_blk (npc := 38) (L' := [(0, .inr (.inl 81)), (1, .inl x1), (2, .inl x2), (3, .inl (gx_w (x3 + 1)))]) (st' := []) (m' := m) [((66, .iinc 3 1, 3, 0, 0, 0, 0), (0, 0, 0)), ((69, .goto (-31), 3, 0, 0, 0, 0), (0, 0, 0))] (by decide +kernel) rfl ?_
      exact hx_pick [0, 1, 2, 3] (h2 c1 c2)
    · have c2 : (gx_and (gx_shr x1 x3) 1) ≠ 0 := c2
      refine hx_blk (npc := 54) (L' := [(0, .inr (.inl 81)), (1, .inl x1), (2, .inl x2), (3, .inl x3)]) (st' := [.inl x3, .inr (.inl 81)]) (m' := m) [((52, .aload_n 0, 1, 0, 0, 0, 0), (0, 0, 0)), ((53, .iload_n 3, 1, 0, 0, 0, 0), (0, 0, 0))] (by decide +kernel) rfl ?_
      exact hx_call (E := (54, .invokevirtual 97, 3, 125, 0, 4191, 0)) (M' := yp_m125) [.inr (.inl 81), .inl x3] [] rfl (by decide +kernel) rfl ⟨rfl, rfl⟩ rfl rfl (hx_mono (h3 c1 c2) (fun r m' h' => hx_pick [0, 1, 2, 3] h'))

/-- turnedOnce from 57 on -/
theorem hr123_57 {xs : List Int32} {n : Nat} {Q : hQ} {m : gx_M} {x1 x2 x3 s0 : Int}
    (h1 : (s0 = 0) → hxn xs n yp_m123 38 [(0, .inr (.inl 81)), (1, .inl x1), (2, .inl x2), (3, .inl (gx_w (x3 + 1)))] [] m Q)
    (h2 : (s0 ≠ 0) → hxn xs n yp_m123 38 [(0, .inr (.inl 81)), (1, .inl x1), (2, .inl (gx_or x2 (gx_shl 1 x3))), (3, .inl (gx_w (x3 + 1)))] [] m Q) : hxn xs (n + 1) yp_m123 57 [(0, .inr (.inl 81)), (1, .inl x1), (2, .inl x2), (3, .inl x3)] [.inl s0] m Q := by
  refine hx_ifs .eq 66 (by decide +kernel) (fun c1 => ?_) (fun c1 => ?_)
  · have c1 : s0 = 0 := c1
    refine hx_blk (npc := 38) (L' := [(0, .inr (.inl 81)), (1, .inl x1), (2, .inl x2), (3, .inl (gx_w (x3 + 1)))]) (st' := []) (m' := m) [((66, .iinc 3 1, 3, 0, 0, 0, 0), (0, 0, 0)), ((69, .goto (-31), 3, 0, 0, 0, 0), (0, 0, 0))] (by decide +kernel) rfl ?_
    exact hx_pick [0, 1, 2, 3] (h1 c1)
  · have c1 : s0 ≠ 0 := c1
    refine hx_blk (npc := 38) (L' := [(0, .inr (.inl 81)), (1, .inl x1), (2, .inl (gx_or x2 (gx_shl 1 x3))), (3, .inl (gx_w (x3 + 1)))]) (st' := []) (m' := m) [((60, .iload_n 2, 1, 0, 0, 0, 0), (0, 0, 0)), ((61, .iconst 1, 1, 0, 0, 0, 0), (0, 0, 0)), ((62, .iload_n 3, 1, 0, 0, 0, 0), (0, 0, 0)), ((63, .ishl, 1, 0, 0, 0, 0), (0, 0, 0)), ((64, .ior, 1, 0, 0, 0, 0), (0, 0, 0)), ((65, .istore_n 2, 1, 0, 0, 0, 0), (0, 0, 0)), ((66, .iinc 3 1, 3, 0, 0, 0, 0), (0, 0, 0)), ((69, .goto (-31), 3, 0, 0, 0, 0), (0, 0, 0))] (by decide +kernel) rfl ?_
    exact hx_pick [0, 1, 2, 3] (h2 c1)

/-- turn from 0 on -/
theorem hr122_0 {xs : List Int32} {n : Nat} {Q : hQ} {m : gx_M}
    (h1 : hxn xs n yp_m122 2 [(0, .inr (.inl 81)), (1, .inr (.inl 5)), (2, .inr (.inl 44)), (3, .inl 0)] [] m Q) : hxn xs (n + 1) yp_m122 0 [(0, .inr (.inl 81)), (1, .inr (.inl 5)), (2, .inr (.inl 44))] [] m Q := by
  refine hx_blks (npc := 2) (L' := [(0, .inr (.inl 81)), (1, .inr (.inl 5)), (2, .inr (.inl 44)), (3, .inl 0)]) (st' := []) (m' := m) ((0, .iconst 0, 1, 0, 0, 0, 0), (0, 0, 0)) [((1, .istore_n 3, 1, 0, 0, 0, 0), (0, 0, 0))] (by decide +kernel) rfl ?_
  exact hx_pick [0, 1, 2, 3] h1

/-- turn from 2 on -/
theorem hr122_2 {xs : List Int32} {n : Nat} {Q : hQ} {m : gx_M} {x3 : Int}
    (h1 : ((m 81 1) ≤ x3) → hxn xs n yp_m122 96 [(0, .inr (.inl 81)), (3, .inl (gx_w ((gx_shl 1 (m 81 1)) - 1))), (4, .inl 0)] [] m Q)
    (h2 : (x3 < (m 81 1)) → (8 ≤ x3) → hxn xs n yp_m122 96 [(0, .inr (.inl 81)), (3, .inl (gx_w ((gx_shl 1 (m 81 1)) - 1))), (4, .inl 0)] [] m Q)
    (h3 : (x3 < (m 81 1)) → (x3 < 8) → hxn xs n yp_m111 0 [(0, .inr (.inl 81)), (1, .inr (.inl 5)), (2, .inl x3)] [] m (fun r m' => hxn xs n yp_m122 22 [(0, .inr (.inl 81)), (1, .inr (.inl 5)), (2, .inr (.inl 44)), (3, .inl x3)] (hrs r ++ []) m' Q)) : hxn xs (n + 1) yp_m122 2 [(0, .inr (.inl 81)), (1, .inr (.inl 5)), (2, .inr (.inl 44)), (3, .inl x3)] [] m Q := by
  refine hx_blks (npc := 7) (L' := [(0, .inr (.inl 81)), (1, .inr (.inl 5)), (2, .inr (.inl 44)), (3, .inl x3)]) (st' := [.inl (m 81 1), .inl x3]) (m' := m) ((2, .iload_n 3, 1, 0, 0, 0, 0), (0, 0, 0)) [((3, .aload_n 0, 1, 0, 0, 0, 0), (0, 0, 0)), ((4, .getfield 36, 3, 8, 1, 2104, 0), (0, 81, 0))] (by decide +kernel) rfl ?_
  refine hx_cmp .ge 84 (by decide +kernel) (fun c1 => ?_) (fun c1 => ?_)
  · have c1 : (m 81 1) ≤ x3 := c1
    refine hx_blk (npc := 96) (L' := [(0, .inr (.inl 81)), (1, .inr (.inl 5)), (2, .inr (.inl 44)), (3, .inl (gx_w ((gx_shl 1 (m 81 1)) - 1))), (4, .inl 0)]) (st' := []) (m' := m) [((84, .iconst 1, 1, 0, 0, 0, 0), (0, 0, 0)), ((85, .aload_n 0, 1, 0, 0, 0, 0), (0, 0, 0)), ((86, .getfield 36, 3, 8, 1, 2104, 0), (0, 81, 0)), ((89, .ishl, 1, 0, 0, 0, 0), (0, 0, 0)), ((90, .iconst 1, 1, 0, 0, 0, 0), (0, 0, 0)), ((91, .isub, 1, 0, 0, 0, 0), (0, 0, 0)), ((92, .istore_n 3, 1, 0, 0, 0, 0), (0, 0, 0)), ((93, .iconst 0, 1, 0, 0, 0, 0), (0, 0, 0)), ((94, .istore 4, 2, 0, 0, 0, 0), (0, 0, 0))] (by decide +kernel) rfl ?_
    exact hx_pick [0, 3, 4] (h1 c1)
  · have c1 : x3 < (m 81 1) := by have h : ¬ ((m 81 1) ≤ x3) := c1; omega
    refine hx_blk (npc := 13) (L' := [(0, .inr (.inl 81)), (1, .inr (.inl 5)), (2, .inr (.inl 44)), (3, .inl x3)]) (st' := [.inl 8, .inl x3]) (m' := m) [((10, .iload_n 3, 1, 0, 0, 0, 0), (0, 0, 0)), ((11, .bipush 8, 2, 0, 0, 0, 0), (0, 0, 0))] (by decide +kernel) rfl ?_
    refine hx_cmp .ge 84 (by decide +kernel) (fun c2 => ?_) (fun c2 => ?_)
    · have c2 : 8 ≤ x3 := c2
      refine hx_blk (npc := 96) (L' := [(0, .inr (.inl 81)), (1, .inr (.inl 5)), (2, .inr (.inl 44)), (3, .inl (gx_w ((gx_shl 1 (m 81 1)) - 1))), (4, .inl 0)]) (st' := []) (m' := m) [((84, .iconst 1, 1, 0, 0, 0, 0), (0, 0, 0)), ((85, .aload_n 0, 1, 0, 0, 0, 0), (0, 0, 0)), ((86, .getfield 36, 3, 8, 1, 2104, 0), (0, 81, 0)), ((89, .ishl, 1, 0, 0, 0, 0), (0, 0, 0)), ((90, .iconst 1, 1, 0, 0, 0, 0), (0, 0, 0)), ((91, .isub, 1, 0, 0, 0, 0), (0, 0, 0)), ((92, .istore_n 3, 1, 0, 0, 0, 0), (0, 0, 0)), ((93, .iconst 0, 1, 0, 0, 0, 0), (0, 0, 0)), ((94, .istore 4, 2, 0, 0, 0, 0), (0, 0, 0))] (by decide +kernel) rfl ?_
      exact hx_pick [0, 3, 4] (h2 c1 c2)
    · have c2 : x3 < 8 := by have h : ¬ (8 ≤ x3) := c2; omega
      refine hx_blk (npc := 19) (L' := [(0, .inr (.inl 81)), (1, .inr (.inl 5)), (2, .inr (.inl 44)), (3, .inl x3)]) (st' := [.inl x3, .inr (.inl 5), .inr (.inl 81)]) (m' := m) [((16, .aload_n 0, 1, 0, 0, 0, 0), (0, 0, 0)), ((17, .aload_n 1, 1, 0, 0, 0, 0), (0, 0, 0)), ((18, .iload_n 3, 1, 0, 0, 0, 0), (0, 0, 0))] (by decide +kernel) rfl ?_
      exact hx_call (E := (19, .invokevirtual 54, 3, 111, 0, 4132, 0)) (M' := yp_m111) [.inr (.inl 81), .inr (.inl 5), .inl x3] [] rfl (by decide +kernel) rfl ⟨rfl, rfl⟩ rfl rfl (hx_mono (h3 c1 c2) (fun r m' h' => hx_pick [0, 1, 2, 3] h'))

/-- turn from 22 on -/
theorem hr122_22 {xs : List Int32} {n : Nat} {Q : hQ} {m : gx_M} {x3 s0 : Int}
    (h1 : hxn xs n yp_m122 27 [(0, .inr (.inl 81)), (1, .inr (.inl 5)), (2, .inr (.inl 44)), (3, .inl x3), (4, .inl s0), (5, .inl 0)] [] m Q) : hxn xs (n + 1) yp_m122 22 [(0, .inr (.inl 81)), (1, .inr (.inl 5)), (2, .inr (.inl 44)), (3, .inl x3)] [.inl s0] m Q := by
  refine hx_blks (npc := 27) (L' := [(0, .inr (.inl 81)), (1, .inr (.inl 5)), (2, .inr (.inl 44)), (3, .inl x3), (4, .inl s0), (5, .inl 0)]) (st' := []) (m' := m) ((22, .istore 4, 2, 0, 0, 0, 0), (0, 0, 0)) [((24, .iconst 0, 1, 0, 0, 0, 0), (0, 0, 0)), ((25, .istore 5, 2, 0, 0, 0, 0), (0, 0, 0))] (by decide +kernel) rfl ?_
  exact hx_pick [0, 1, 2, 3, 4, 5] h1

/-- turn from 27 on -/
theorem hr122_27 {xs : List Int32} {n : Nat} {Q : hQ} {m : gx_M} {x3 x4 x5 : Int}
    (h1 : ((m 81 1) ≤ x5) → hxn xs n yp_m122 2 [(0, .inr (.inl 81)), (1, .inr (.inl 5)), (2, .inr (.inl 44)), (3, .inl (gx_w (x3 + 1)))] [] m Q)
    (h2 : (x5 < (m 81 1)) → (8 ≤ x5) → hxn xs n yp_m122 2 [(0, .inr (.inl 81)), (1, .inr (.inl 5)), (2, .inr (.inl 44)), (3, .inl (gx_w (x3 + 1)))] [] m Q)
    (h3 : (x5 < (m 81 1)) → (x5 < 8) → hxn xs n yp_m82 0 [(0, .inr (.inl 44)), (1, .inr (.inl 5)), (2, .inl 118), (3, .inl (m 82 (x5).toNat)), (4, .inl x4), (5, .inl 0)] [] m (fun r m' => hxn xs n yp_m122 71 [(0, .inr (.inl 81)), (1, .inr (.inl 5)), (2, .inr (.inl 44)), (3, .inl x3), (4, .inl x4), (5, .inl x5)] (hrs r ++ [.inl (gx_w ((gx_w (x3 * 8)) + x5)), .inr (.inl 83)]) m' Q)) : hxn xs (n + 1) yp_m122 27 [(0, .inr (.inl 81)), (1, .inr (.inl 5)), (2, .inr (.inl 44)), (3, .inl x3), (4, .inl x4), (5, .inl x5)] [] m Q := by
  refine hx_blks (npc := 33) (L' := [(0, .inr (.inl 81)), (1, .inr (.inl 5)), (2, .inr (.inl 44)), (3, .inl x3), (4, .inl x4), (5, .inl x5)]) (st' := [.inl (m 81 1), .inl x5]) (m' := m) ((27, .iload 5, 2, 0, 0, 0, 0), (0, 0, 0)) [((29, .aload_n 0, 1, 0, 0, 0, 0), (0, 0, 0)), ((30, .getfield 36, 3, 8, 1, 2104, 0), (0, 81, 0))] (by decide +kernel) rfl ?_
  refine hx_cmp .ge 78 (by decide +kernel) (fun c1 => ?_) (fun c1 => ?_)
  · have c1 : (m 81 1) ≤ x5 := c1
    refine hx_blk (npc := 2) (L' := [(0, .inr (.inl 81)), (1, .inr (.inl 5)), (2, .inr (.inl 44)), (3, .inl (gx_w (x3 + 1))), (4, .inl x4), (5, .inl x5)]) (st' := []) (m' := m) [((78, .iinc 3 1, 3, 0, 0, 0, 0), (0, 0, 0)), ((81, .goto (-79), 3, 0, 0, 0, 0), (0, 0, 0))] (by decide +kernel) rfl ?_
    exact hx_pick [0, 1, 2, 3] (h1 c1)
  · have c1 : x5 < (m 81 1) := by have h : ¬ ((m 81 1) ≤ x5) := c1; omega
    refine hx_blk (npc := 40) (L' := [(0, .inr (.inl 81)), (1, .inr (.inl 5)), (2, .inr (.inl 44)), (3, .inl x3), (4, .inl x4), (5, .inl x5)]) (st' := [.inl 8, .inl x5]) (m' := m) [((36, .iload 5, 2, 0, 0, 0, 0), (0, 0, 0)), ((38, .bipush 8, 2, 0, 0, 0, 0), (0, 0, 0))] (by decide +kernel) rfl ?_
    refine hx_cmp .ge 78 (by decide +kernel) (fun c2 => ?_) (fun c2 => ?_)
    · have c2 : 8 ≤ x5 := c2
      refine hx_blk (npc := 2) (L' := [(0, .inr (.inl 81)), (1, .inr (.inl 5)), (2, .inr (.inl 44)), (3, .inl (gx_w (x3 + 1))), (4, .inl x4), (5, .inl x5)]) (st' := []) (m' := m) [((78, .iinc 3 1, 3, 0, 0, 0, 0), (0, 0, 0)), ((81, .goto (-79), 3, 0, 0, 0, 0), (0, 0, 0))] (by decide +kernel) rfl ?_
      exact hx_pick [0, 1, 2, 3] (h2 c1 c2)
    · have c2 : x5 < 8 := by have h : ¬ (8 ≤ x5) := c2; omega
      refine hx_blk (npc := 68) (L' := [(0, .inr (.inl 81)), (1, .inr (.inl 5)), (2, .inr (.inl 44)), (3, .inl x3), (4, .inl x4), (5, .inl x5)]) (st' := [.inl 0, .inl x4, .inl (m 82 (x5).toNat), .inl 118, .inr (.inl 5), .inr (.inl 44), .inl (gx_w ((gx_w (x3 * 8)) + x5)), .inr (.inl 83)]) (m' := m) [((43, .aload_n 0, 1, 0, 0, 0, 0), (0, 0, 0)), ((44, .getfield 15, 3, 8, 2, 2105, 0), (1, 81, 83)), ((47, .iload_n 3, 1, 0, 0, 0, 0), (0, 0, 0)), ((48, .bipush 8, 2, 0, 0, 0, 0), (0, 0, 0)), ((50, .imul, 1, 0, 0, 0, 0), (0, 0, 0)), ((51, .iload 5, 2, 0, 0, 0, 0), (0, 0, 0)), ((53, .iadd, 1, 0, 0, 0, 0), (0, 0, 0)), ((54, .aload_n 2, 1, 0, 0, 0, 0), (0, 0, 0)), ((55, .aload_n 1, 1, 0, 0, 0, 0), (0, 0, 0)), ((56, .bipush 118, 2, 0, 0, 0, 0), (0, 0, 0)), ((58, .aload_n 0, 1, 0, 0, 0, 0), (0, 0, 0)), ((59, .getfield 9, 3, 8, 0, 2103, 0), (1, 81, 82)), ((62, .iload 5, 2, 0, 0, 0, 0), (0, 0, 0)), ((64, .iaload, 1, 0, 0, 0, 0), (0, 82, 0)), ((65, .iload 4, 2, 0, 0, 0, 0), (0, 0, 0)), ((67, .iconst 0, 1, 0, 0, 0, 0), (0, 0, 0))] (by decide +kernel) rfl ?_
      exact hx_call (E := (68, .invokevirtual 61, 3, 82, 0, 4136, 0)) (M' := yp_m82) [.inr (.inl 44), .inr (.inl 5), .inl 118, .inl (m 82 (x5).toNat), .inl x4, .inl 0] [.inl (gx_w ((gx_w (x3 * 8)) + x5)), .inr (.inl 83)] rfl (by decide +kernel) rfl ⟨rfl, rfl⟩ rfl rfl (hx_mono (h3 c1 c2) (fun r m' h' => hx_pick [0, 1, 2, 3, 4, 5] h'))

/-- turn from 71 on -/
theorem hr122_71 {xs : List Int32} {n : Nat} {Q : hQ} {m : gx_M} {x3 x4 x5 s1 s2 : Int}
    (h1 : hxn xs n yp_m122 27 [(0, .inr (.inl 81)), (1, .inr (.inl 5)), (2, .inr (.inl 44)), (3, .inl x3), (4, .inl x4), (5, .inl (gx_w (x5 + 1)))] [] (gx_u m 83 (s1).toNat s2) Q) : hxn xs (n + 1) yp_m122 71 [(0, .inr (.inl 81)), (1, .inr (.inl 5)), (2, .inr (.inl 44)), (3, .inl x3), (4, .inl x4), (5, .inl x5)] [.inl s2, .inl s1, .inr (.inl 83)] m Q := by
  refine hx_blks (npc := 27) (L' := [(0, .inr (.inl 81)), (1, .inr (.inl 5)), (2, .inr (.inl 44)), (3, .inl x3), (4, .inl x4), (5, .inl (gx_w (x5 + 1)))]) (st' := []) (m' := (gx_u m 83 (s1).toNat s2)) ((71, .iastore, 1, 0, 0, 0, 0), (0, 83, 0)) [((72, .iinc 5 1, 3, 0, 0, 0, 0), (0, 0, 0)), ((75, .goto (-48), 3, 0, 0, 0, 0), (0, 0, 0))] (by decide +kernel) rfl ?_
  exact hx_pick [0, 1, 2, 3, 4, 5] h1

/-- turn from 96 on -/
theorem hr122_96 {xs : List Int32} {n : Nat} {Q : hQ} {m : gx_M} {x3 x4 : Int}
    (h1 : (8 ≤ x4) → Q none m)
    (h2 : (x4 < 8) → (x3 = 0) → Q none m)
    (h3 : (x4 < 8) → (x3 ≠ 0) → hxn xs n yp_m123 0 [(0, .inr (.inl 81)), (1, .inl x3)] [] m (fun r m' => hxn xs n yp_m122 113 [(0, .inr (.inl 81)), (4, .inl x4)] (hrs r ++ [.inl x3]) m' Q)) : hxn xs (n + 1) yp_m122 96 [(0, .inr (.inl 81)), (3, .inl x3), (4, .inl x4)] [] m Q := by
  refine hx_blks (npc := 100) (L' := [(0, .inr (.inl 81)), (3, .inl x3), (4, .inl x4)]) (st' := [.inl 8, .inl x4]) (m' := m) ((96, .iload 4, 2, 0, 0, 0, 0), (0, 0, 0)) [((98, .bipush 8, 2, 0, 0, 0, 0), (0, 0, 0))] (by decide +kernel) rfl ?_
  refine hx_cmp .ge 123 (by decide +kernel) (fun c1 => ?_) (fun c1 => ?_)
  · have c1 : 8 ≤ x4 := c1
    exact hx_ret0 (by decide +kernel) (h1 c1)
  · have c1 : x4 < 8 := by have h : ¬ (8 ≤ x4) := c1; omega
    refine hx_blk (npc := 104) (L' := [(0, .inr (.inl 81)), (3, .inl x3), (4, .inl x4)]) (st' := [.inl x3]) (m' := m) [((103, .iload_n 3, 1, 0, 0, 0, 0), (0, 0, 0))] (by decide +kernel) rfl ?_
    refine hx_if .eq 123 (by decide +kernel) (fun c2 => ?_) (fun c2 => ?_)
    · have c2 : x3 = 0 := c2
      exact hx_ret0 (by decide +kernel) (h2 c1 c2)
    · have c2 : x3 ≠ 0 := c2
      refine hx_blk (npc := 110) (L' := [(0, .inr (.inl 81)), (3, .inl x3), (4, .inl x4)]) (st' := [.inl x3, .inr (.inl 81), .inl x3]) (m' := m) [((107, .iload_n 3, 1, 0, 0, 0, 0), (0, 0, 0)), ((108, .aload_n 0, 1, 0, 0, 0, 0), (0, 0, 0)), ((109, .iload_n 3, 1, 0, 0, 0, 0), (0, 0, 0))] (by decide +kernel) rfl ?_
      exact hx_call (E := (110, .invokevirtual 91, 3, 123, 0, 4183, 0)) (M' := yp_m123) [.inr (.inl 81), .inl x3] [.inl x3] rfl (by decide +kernel) rfl ⟨rfl, rfl⟩ rfl rfl (hx_mono (h3 c1 c2) (fun r m' h' => hx_pick [0, 4] h'))

/-- turn from 113 on -/
theorem hr122_113 {xs : List Int32} {n : Nat} {Q : hQ} {m : gx_M} {x4 s0 s1 : Int}
    (h1 : hxn xs n yp_m122 96 [(0, .inr (.inl 81)), (3, .inl (gx_and s0 (gx_xor s1 (-1)))), (4, .inl (gx_w (x4 + 1)))] [] m Q) : hxn xs (n + 1) yp_m122 113 [(0, .inr (.inl 81)), (4, .inl x4)] [.inl s1, .inl s0] m Q := by
  refine hx_blks (npc := 96) (L' := [(0, .inr (.inl 81)), (4, .inl (gx_w (x4 + 1))), (3, .inl (gx_and s0 (gx_xor s1 (-1))))]) (st' := []) (m' := m) ((113, .iconst (-1), 1, 0, 0, 0, 0), (0, 0, 0)) [((114, .ixor, 1, 0, 0, 0, 0), (0, 0, 0)), ((115, .iand, 1, 0, 0, 0, 0), (0, 0, 0)), ((116, .istore_n 3, 1, 0, 0, 0, 0), (0, 0, 0)), ((117, .iinc 4 1, 3, 0, 0, 0, 0), (0, 0, 0)), ((120, .goto (-24), 3, 0, 0, 0, 0), (0, 0, 0))] (by decide +kernel) rfl ?_
  exact hx_pick [0, 3, 4] h1

/-- ring from 0 on -/
theorem hr120_0 {xs : List Int32} {n : Nat} {Q : hQ} {m : gx_M} {x1 x2 : Int}
    (h1 : hxn xs n yp_m23 0 [(0, .inr (.inl 1)), (1, .inl x1), (2, .inl 8)] [] m (fun r m' => hxn xs n yp_m120 10 [(0, .inr (.inl 0)), (1, .inl x1), (2, .inl x2)] (hrs r ++ []) m' Q)) : hxn xs (n + 1) yp_m120 0 [(0, .inr (.inl 0)), (1, .inl x1), (2, .inl x2)] [] m Q := by
  refine hx_blks (npc := 7) (L' := [(0, .inr (.inl 0)), (1, .inl x1), (2, .inl x2)]) (st' := [.inl 8, .inl x1, .inr (.inl 1)]) (m' := m) ((0, .aload_n 0, 1, 0, 0, 0, 0), (0, 0, 0)) [((1, .getfield 10, 3, 9, 0, 2119, 0), (1, 0, 1)), ((4, .iload_n 1, 1, 0, 0, 0, 0), (0, 0, 0)), ((5, .bipush 8, 2, 0, 0, 0, 0), (0, 0, 0))] (by decide +kernel) rfl ?_
  exact hx_call (E := (7, .invokevirtual 124, 3, 23, 0, 2212, 0)) (M' := yp_m23) [.inr (.inl 1), .inl x1, .inl 8] [] rfl (by decide +kernel) rfl ⟨rfl, rfl⟩ rfl rfl (hx_mono h1 (fun r m' h' => hx_pick [0, 1, 2] h'))

/-- ring from 10 on -/
theorem hr120_10 {xs : List Int32} {n : Nat} {Q : hQ} {m : gx_M} {x1 x2 s0 : Int}
    (h1 : (s0 ≠ 0) → hxn xs n yp_m24 0 [(0, .inr (.inl 3)), (1, .inr (.inl 1)), (2, .inl x1)] [] m (fun r m' => hxn xs n yp_m120 27 [(0, .inr (.inl 0)), (1, .inl x1), (2, .inl x2)] (hrs r ++ []) m' Q))
    (h2 : (s0 = 0) → Q (some (.inl (-1))) m) : hxn xs (n + 1) yp_m120 10 [(0, .inr (.inl 0)), (1, .inl x1), (2, .inl x2)] [.inl s0] m Q := by
  refine hx_ifs .ne 15 (by decide +kernel) (fun c1 => ?_) (fun c1 => ?_)
  · have c1 : s0 ≠ 0 := c1
    refine hx_blk (npc := 24) (L' := [(0, .inr (.inl 0)), (1, .inl x1), (2, .inl x2)]) (st' := [.inl x1, .inr (.inl 1), .inr (.inl 3)]) (m' := m) [((15, .aload_n 0, 1, 0, 0, 0, 0), (0, 0, 0)), ((16, .getfield 19, 3, 9, 1, 2120, 0), (1, 0, 3)), ((19, .aload_n 0, 1, 0, 0, 0, 0), (0, 0, 0)), ((20, .getfield 10, 3, 9, 0, 2119, 0), (1, 0, 1)), ((23, .iload_n 1, 1, 0, 0, 0, 0), (0, 0, 0))] (by decide +kernel) rfl ?_
    exact hx_call (E := (24, .invokevirtual 128, 3, 24, 0, 2216, 0)) (M' := yp_m24) [.inr (.inl 3), .inr (.inl 1), .inl x1] [] rfl (by decide +kernel) rfl ⟨rfl, rfl⟩ rfl rfl (hx_mono (h1 c1) (fun r m' h' => hx_pick [0, 1, 2] h'))
  · have c1 : s0 = 0 := by have h : ¬ (s0 ≠ 0) := c1; omega
    refine hx_blk (npc := 14) (L' := [(0, .inr (.inl 0)), (1, .inl x1), (2, .inl x2)]) (st' := [.inl (-1)]) (m' := m) [((13, .iconst (-1), 1, 0, 0, 0, 0), (0, 0, 0))] (by decide +kernel) rfl ?_
    exact hx_reti (by decide +kernel) (h2 c1)

/-- ring from 27 on -/
theorem hr120_27 {xs : List Int32} {n : Nat} {Q : hQ} {m : gx_M} {x1 x2 : Int}
    (h1 : hxn xs n yp_m121 0 [(0, .inr (.inl 81)), (1, .inr (.inl 5)), (2, .inr (.inl 3))] [] m (fun r m' => hxn xs n yp_m120 42 [(0, .inr (.inl 0)), (1, .inl x1), (2, .inl x2)] (hrs r ++ []) m' Q)) : hxn xs (n + 1) yp_m120 27 [(0, .inr (.inl 0)), (1, .inl x1), (2, .inl x2)] [] m Q := by
  refine hx_blks (npc := 39) (L' := [(0, .inr (.inl 0)), (1, .inl x1), (2, .inl x2)]) (st' := [.inr (.inl 3), .inr (.inl 5), .inr (.inl 81)]) (m' := m) ((27, .aload_n 0, 1, 0, 0, 0, 0), (0, 0, 0)) [((28, .getfield 81, 3, 9, 11, 2130, 0), (1, 0, 81)), ((31, .aload_n 0, 1, 0, 0, 0, 0), (0, 0, 0)), ((32, .getfield 26, 3, 9, 2, 2121, 0), (1, 0, 5)), ((35, .aload_n 0, 1, 0, 0, 0, 0), (0, 0, 0)), ((36, .getfield 19, 3, 9, 1, 2120, 0), (1, 0, 3))] (by decide +kernel) rfl ?_
  exact hx_call (E := (39, .invokevirtual 272, 3, 121, 0, 4175, 0)) (M' := yp_m121) [.inr (.inl 81), .inr (.inl 5), .inr (.inl 3)] [] rfl (by decide +kernel) rfl ⟨rfl, rfl⟩ rfl rfl (hx_mono h1 (fun r m' h' => hx_pick [0, 1, 2] h'))

/-- ring from 42 on -/
theorem hr120_42 {xs : List Int32} {n : Nat} {Q : hQ} {m : gx_M} {x1 x2 s0 : Int}
    (h1 : (s0 ≠ 0) → (x2 = 10) → hxn xs n yp_m122 0 [(0, .inr (.inl 81)), (1, .inr (.inl 5)), (2, .inr (.inl 44))] [] m (fun r m' => hxn xs n yp_m120 81 [(0, .inr (.inl 0)), (2, .inl x2)] (hrs r ++ []) m' Q))
    (h2 : (s0 ≠ 0) → (x2 ≠ 10) → (x2 < 0) → Q (some (.inl (-3))) m)
    (h3 : (s0 ≠ 0) → (x2 ≠ 10) → (0 ≤ x2) → (x2 < x1) → hxn xs n yp_m122 0 [(0, .inr (.inl 81)), (1, .inr (.inl 5)), (2, .inr (.inl 44))] [] m (fun r m' => hxn xs n yp_m120 81 [(0, .inr (.inl 0)), (2, .inl x2)] (hrs r ++ []) m' Q))
    (h4 : (s0 ≠ 0) → (x2 ≠ 10) → (0 ≤ x2) → (x1 ≤ x2) → Q (some (.inl (-3))) m)
    (h5 : (s0 = 0) → Q (some (.inl (-2))) m) : hxn xs (n + 1) yp_m120 42 [(0, .inr (.inl 0)), (1, .inl x1), (2, .inl x2)] [.inl s0] m Q := by
  refine hx_ifs .ne 48 (by decide +kernel) (fun c1 => ?_) (fun c1 => ?_)
  · have c1 : s0 ≠ 0 := c1
    refine hx_blk (npc := 51) (L' := [(0, .inr (.inl 0)), (1, .inl x1), (2, .inl x2)]) (st' := [.inl 10, .inl x2]) (m' := m) [((48, .iload_n 2, 1, 0, 0, 0, 0), (0, 0, 0)), ((49, .bipush 10, 2, 0, 0, 0, 0), (0, 0, 0))] (by decide +kernel) rfl ?_
    refine hx_cmp .eq 66 (by decide +kernel) (fun c2 => ?_) (fun c2 => ?_)
    · have c2 : x2 = 10 := c2
      refine hx_blk (npc := 78) (L' := [(0, .inr (.inl 0)), (1, .inl x1), (2, .inl x2)]) (st' := [.inr (.inl 44), .inr (.inl 5), .inr (.inl 81)]) (m' := m) [((66, .aload_n 0, 1, 0, 0, 0, 0), (0, 0, 0)), ((67, .getfield 81, 3, 9, 11, 2130, 0), (1, 0, 81)), ((70, .aload_n 0, 1, 0, 0, 0, 0), (0, 0, 0)), ((71, .getfield 26, 3, 9, 2, 2121, 0), (1, 0, 5)), ((74, .aload_n 0, 1, 0, 0, 0, 0), (0, 0, 0)), ((75, .getfield 39, 3, 9, 5, 2124, 0), (1, 0, 44))] (by decide +kernel) rfl ?_
      exact hx_call (E := (78, .invokevirtual 275, 3, 122, 0, 4179, 0)) (M' := yp_m122) [.inr (.inl 81), .inr (.inl 5), .inr (.inl 44)] [] rfl (by decide +kernel) rfl ⟨rfl, rfl⟩ rfl rfl (hx_mono (h1 c1 c2) (fun r m' h' => hx_pick [0, 2] h'))
    · have c2 : x2 ≠ 10 := c2
      refine hx_blk (npc := 55) (L' := [(0, .inr (.inl 0)), (1, .inl x1), (2, .inl x2)]) (st' := [.inl x2]) (m' := m) [((54, .iload_n 2, 1, 0, 0, 0, 0), (0, 0, 0))] (by decide +kernel) rfl ?_
      refine hx_if .lt 63 (by decide +kernel) (fun c3 => ?_) (fun c3 => ?_)
      · have c3 : x2 < 0 := c3
        refine hx_blk (npc := 65) (L' := [(0, .inr (.inl 0)), (1, .inl x1), (2, .inl x2)]) (st' := [.inl (-3)]) (m' := m) [((63, .bipush (-3), 2, 0, 0, 0, 0), (0, 0, 0))] (by decide +kernel) rfl ?_
        exact hx_reti (by decide +kernel) (h2 c1 c2 c3)
      · have c3 : 0 ≤ x2 := by have h : ¬ (x2 < 0) := c3; omega
        refine hx_blk (npc := 60) (L' := [(0, .inr (.inl 0)), (1, .inl x1), (2, .inl x2)]) (st' := [.inl x1, .inl x2]) (m' := m) [((58, .iload_n 2, 1, 0, 0, 0, 0), (0, 0, 0)), ((59, .iload_n 1, 1, 0, 0, 0, 0), (0, 0, 0))] (by decide +kernel) rfl ?_
        refine hx_cmp .lt 66 (by decide +kernel) (fun c4 => ?_) (fun c4 => ?_)
        · have c4 : x2 < x1 := c4
          refine hx_blk (npc := 78) (L' := [(0, .inr (.inl 0)), (1, .inl x1), (2, .inl x2)]) (st' := [.inr (.inl 44), .inr (.inl 5), .inr (.inl 81)]) (m' := m) [((66, .aload_n 0, 1, 0, 0, 0, 0), (0, 0, 0)), ((67, .getfield 81, 3, 9, 11, 2130, 0), (1, 0, 81)), ((70, .aload_n 0, 1, 0, 0, 0, 0), (0, 0, 0)), ((71, .getfield 26, 3, 9, 2, 2121, 0), (1, 0, 5)), ((74, .aload_n 0, 1, 0, 0, 0, 0), (0, 0, 0)), ((75, .getfield 39, 3, 9, 5, 2124, 0), (1, 0, 44))] (by decide +kernel) rfl ?_
          exact hx_call (E := (78, .invokevirtual 275, 3, 122, 0, 4179, 0)) (M' := yp_m122) [.inr (.inl 81), .inr (.inl 5), .inr (.inl 44)] [] rfl (by decide +kernel) rfl ⟨rfl, rfl⟩ rfl rfl (hx_mono (h3 c1 c2 c3 c4) (fun r m' h' => hx_pick [0, 2] h'))
        · have c4 : x1 ≤ x2 := by have h : ¬ (x2 < x1) := c4; omega
          refine hx_blk (npc := 65) (L' := [(0, .inr (.inl 0)), (1, .inl x1), (2, .inl x2)]) (st' := [.inl (-3)]) (m' := m) [((63, .bipush (-3), 2, 0, 0, 0, 0), (0, 0, 0))] (by decide +kernel) rfl ?_
          exact hx_reti (by decide +kernel) (h4 c1 c2 c3 c4)
  · have c1 : s0 = 0 := by have h : ¬ (s0 ≠ 0) := c1; omega
    refine hx_blk (npc := 47) (L' := [(0, .inr (.inl 0)), (1, .inl x1), (2, .inl x2)]) (st' := [.inl (-2)]) (m' := m) [((45, .bipush (-2), 2, 0, 0, 0, 0), (0, 0, 0))] (by decide +kernel) rfl ?_
    exact hx_reti (by decide +kernel) (h5 c1)

/-- ring from 81 on -/
theorem hr120_81 {xs : List Int32} {n : Nat} {Q : hQ} {m : gx_M} {x2 : Int}
    (h1 : (x2 ≠ 10) → hxn xs n yp_m119 0 [(0, .inr (.inl 81)), (1, .inl x2)] [] m (fun r m' => hxn xs n yp_m120 105 [] (hrs r ++ []) m' Q))
    (h2 : (x2 = 10) → hxn xs n yp_m126 0 [(0, .inr (.inl 81))] [] m (fun r m' => hxn xs n yp_m120 94 [] (hrs r ++ []) m' Q)) : hxn xs (n + 1) yp_m120 81 [(0, .inr (.inl 0)), (2, .inl x2)] [] m Q := by
  refine hx_blks (npc := 84) (L' := [(0, .inr (.inl 0)), (2, .inl x2)]) (st' := [.inl 10, .inl x2]) (m' := m) ((81, .iload_n 2, 1, 0, 0, 0, 0), (0, 0, 0)) [((82, .bipush 10, 2, 0, 0, 0, 0), (0, 0, 0))] (by decide +kernel) rfl ?_
  refine hx_cmp .ne 97 (by decide +kernel) (fun c1 => ?_) (fun c1 => ?_)
  · have c1 : x2 ≠ 10 := c1
    refine hx_blk (npc := 102) (L' := [(0, .inr (.inl 0)), (2, .inl x2)]) (st' := [.inl x2, .inr (.inl 81)]) (m' := m) [((97, .aload_n 0, 1, 0, 0, 0, 0), (0, 0, 0)), ((98, .getfield 81, 3, 9, 11, 2130, 0), (1, 0, 81)), ((101, .iload_n 2, 1, 0, 0, 0, 0), (0, 0, 0))] (by decide +kernel) rfl ?_
    exact hx_call (E := (102, .invokevirtual 269, 3, 119, 0, 4167, 0)) (M' := yp_m119) [.inr (.inl 81), .inl x2] [] rfl (by decide +kernel) rfl ⟨rfl, rfl⟩ rfl rfl (hx_mono (h1 c1) (fun r m' h' => hx_pick [] h'))
  · have c1 : x2 = 10 := by have h : ¬ (x2 ≠ 10) := c1; omega
    refine hx_blk (npc := 91) (L' := [(0, .inr (.inl 0)), (2, .inl x2)]) (st' := [.inr (.inl 81)]) (m' := m) [((87, .aload_n 0, 1, 0, 0, 0, 0), (0, 0, 0)), ((88, .getfield 81, 3, 9, 11, 2130, 0), (1, 0, 81))] (by decide +kernel) rfl ?_
    exact hx_call (E := (91, .invokevirtual 279, 3, 126, 0, 4195, 0)) (M' := yp_m126) [.inr (.inl 81)] [] rfl (by decide +kernel) rfl ⟨rfl, rfl⟩ rfl rfl (hx_mono (h2 c1) (fun r m' h' => hx_pick [] h'))

/-- ring from 94 on -/
theorem hr120_94 {xs : List Int32} {n : Nat} {Q : hQ} {m : gx_M} {s0 : Int}
    (h1 : Q (some (.inl s0)) m) : hxn xs (n + 1) yp_m120 94 [] [.inl s0] m Q := by
  refine hx_blks (npc := 105) (L' := []) (st' := [.inl s0]) (m' := m) ((94, .goto 11, 3, 0, 0, 0, 0), (0, 0, 0)) [] (by decide +kernel) rfl ?_
  exact hx_reti (by decide +kernel) h1

/-- ring from 105 on -/
theorem hr120_105 {xs : List Int32} {n : Nat} {Q : hQ} {m : gx_M} {s0 : Int}
    (h1 : Q (some (.inl s0)) m) : hxn xs (n + 1) yp_m120 105 [] [.inl s0] m Q := by
  exact hx_reti (by decide +kernel) h1

/-- changed from 0 on -/
theorem hr126_0 {xs : List Int32} {n : Nat} {Q : hQ} {m : gx_M}
    (h1 : hxn xs n yp_m126 4 [(0, .inr (.inl 81)), (1, .inl 0), (2, .inl 0)] [] m Q) : hxn xs (n + 1) yp_m126 0 [(0, .inr (.inl 81))] [] m Q := by
  refine hx_blks (npc := 4) (L' := [(0, .inr (.inl 81)), (1, .inl 0), (2, .inl 0)]) (st' := []) (m' := m) ((0, .iconst 0, 1, 0, 0, 0, 0), (0, 0, 0)) [((1, .istore_n 1, 1, 0, 0, 0, 0), (0, 0, 0)), ((2, .iconst 0, 1, 0, 0, 0, 0), (0, 0, 0)), ((3, .istore_n 2, 1, 0, 0, 0, 0), (0, 0, 0))] (by decide +kernel) rfl ?_
  exact hx_pick [0, 1, 2] h1

/-- changed from 4 on -/
theorem hr126_4 {xs : List Int32} {n : Nat} {Q : hQ} {m : gx_M} {x1 x2 : Int} (r_x2 : 0 ≤ x2 ∧ x2 ≤ 8)
    (h1 : ((m 81 1) ≤ x2) → Q (some (.inl x1)) m)
    (h2 : (x2 < (m 81 1)) → (8 ≤ x2) → Q (some (.inl x1)) m)
    (h3 : (x2 < (m 81 1)) → (x2 < 8) → ((m 85 (x2).toNat) = x2) → hxn xs n yp_m126 4 [(0, .inr (.inl 81)), (1, .inl x1), (2, .inl (x2 + 1))] [] m Q)
    (h4 : (x2 < (m 81 1)) → (x2 < 8) → ((m 85 (x2).toNat) ≠ x2) → hxn xs n yp_m126 4 [(0, .inr (.inl 81)), (1, .inl (gx_w (x1 + 1))), (2, .inl (x2 + 1))] [] m Q) : hxn xs (n + 1) yp_m126 4 [(0, .inr (.inl 81)), (1, .inl x1), (2, .inl x2)] [] m Q := by
  refine hx_blks (npc := 9) (L' := [(0, .inr (.inl 81)), (1, .inl x1), (2, .inl x2)]) (st' := [.inl (m 81 1), .inl x2]) (m' := m) ((4, .iload_n 2, 1, 0, 0, 0, 0), (0, 0, 0)) [((5, .aload_n 0, 1, 0, 0, 0, 0), (0, 0, 0)), ((6, .getfield 36, 3, 8, 1, 2104, 0), (0, 81, 0))] (by decide +kernel) rfl ?_
  refine hx_cmp .ge 37 (by decide +kernel) (fun c1 => ?_) (fun c1 => ?_)
  · have c1 : (m 81 1) ≤ x2 := c1
    refine hx_blk (npc := 38) (L' := [(0, .inr (.inl 81)), (1, .inl x1), (2, .inl x2)]) (st' := [.inl x1]) (m' := m) [((37, .iload_n 1, 1, 0, 0, 0, 0), (0, 0, 0))] (by decide +kernel) rfl ?_
    exact hx_reti (by decide +kernel) (h1 c1)
  · have c1 : x2 < (m 81 1) := by have h : ¬ ((m 81 1) ≤ x2) := c1; omega
    refine hx_blk (npc := 15) (L' := [(0, .inr (.inl 81)), (1, .inl x1), (2, .inl x2)]) (st' := [.inl 8, .inl x2]) (m' := m) [((12, .iload_n 2, 1, 0, 0, 0, 0), (0, 0, 0)), ((13, .bipush 8, 2, 0, 0, 0, 0), (0, 0, 0))] (by decide +kernel) rfl ?_
    refine hx_cmp .ge 37 (by decide +kernel) (fun c2 => ?_) (fun c2 => ?_)
    · have c2 : 8 ≤ x2 := c2
      refine hx_blk (npc := 38) (L' := [(0, .inr (.inl 81)), (1, .inl x1), (2, .inl x2)]) (st' := [.inl x1]) (m' := m) [((37, .iload_n 1, 1, 0, 0, 0, 0), (0, 0, 0))] (by decide +kernel) rfl ?_
      exact hx_reti (by decide +kernel) (h2 c1 c2)
    · have c2 : x2 < 8 := by have h : ¬ (8 ≤ x2) := c2; omega
      refine hx_blk (npc := 25) (L' := [(0, .inr (.inl 81)), (1, .inl x1), (2, .inl x2)]) (st' := [.inl x2, .inl (m 85 (x2).toNat)]) (m' := m) [((18, .aload_n 0, 1, 0, 0, 0, 0), (0, 0, 0)), ((19, .getfield 21, 3, 8, 4, 2107, 0), (1, 81, 85)), ((22, .iload_n 2, 1, 0, 0, 0, 0), (0, 0, 0)), ((23, .iaload, 1, 0, 0, 0, 0), (0, 85, 0)), ((24, .iload_n 2, 1, 0, 0, 0, 0), (0, 0, 0))] (by decide +kernel) rfl ?_
      refine hx_cmp .eq 31 (by decide +kernel) (fun c3 => ?_) (fun c3 => ?_)
      · have c3 : (m 85 (x2).toNat) = x2 := c3
        have e1 : gx_w (x2 + 1) = x2 + 1 := gx_w_id (by omega) (by omega)
        refine hx_blk (npc := 4) (L' := [(0, .inr (.inl 81)), (1, .inl x1), (2, .inl (gx_w (x2 + 1)))]) (st' := []) (m' := m) [((31, .iinc 2 1, 3, 0, 0, 0, 0), (0, 0, 0)), ((34, .goto (-30), 3, 0, 0, 0, 0), (0, 0, 0))] (by decide +kernel) rfl ?_
        rw [e1]
        exact hx_pick [0, 1, 2] (h3 c1 c2 c3)
      · have c3 : (m 85 (x2).toNat) ≠ x2 := c3
        have e2 : gx_w (x2 + 1) = x2 + 1 := gx_w_id (by omega) (by omega)
        refine hx_blk (npc := 4) (L' := [(0, .inr (.inl 81)), (1, .inl (gx_w (x1 + 1))), (2, .inl (gx_w (x2 + 1)))]) (st' := []) (m' := m) [((28, .iinc 1 1, 3, 0, 0, 0, 0), (0, 0, 0)), ((31, .iinc 2 1, 3, 0, 0, 0, 0), (0, 0, 0)), ((34, .goto (-30), 3, 0, 0, 0, 0), (0, 0, 0))] (by decide +kernel) rfl ?_
        rw [e2]
        exact hx_pick [0, 1, 2] (h4 c1 c2 c3)

/-- wants from 0 on -/
theorem hr250_0 {xs : List Int32} {n : Nat} {Q : hQ} {m : gx_M} {x1 x2 : Int}
    (h1 : hxn xs n yp_m250 8 [(0, .inr (.inl 86)), (1, .inl x1), (2, .inl x2), (3, .inl (-1)), (4, .inl 0), (5, .inl 0)] [] m Q) : hxn xs (n + 1) yp_m250 0 [(0, .inr (.inl 86)), (1, .inl x1), (2, .inl x2)] [] m Q := by
  refine hx_blks (npc := 8) (L' := [(0, .inr (.inl 86)), (1, .inl x1), (2, .inl x2), (3, .inl (-1)), (4, .inl 0), (5, .inl 0)]) (st' := []) (m' := m) ((0, .iconst (-1), 1, 0, 0, 0, 0), (0, 0, 0)) [((1, .istore_n 3, 1, 0, 0, 0, 0), (0, 0, 0)), ((2, .iconst 0, 1, 0, 0, 0, 0), (0, 0, 0)), ((3, .istore 4, 2, 0, 0, 0, 0), (0, 0, 0)), ((5, .iconst 0, 1, 0, 0, 0, 0), (0, 0, 0)), ((6, .istore 5, 2, 0, 0, 0, 0), (0, 0, 0))] (by decide +kernel) rfl ?_
  exact hx_pick [0, 1, 2, 3, 4, 5] h1

/-- wants from 8 on -/
theorem hr250_8 {xs : List Int32} {n : Nat} {Q : hQ} {m : gx_M} {x1 x2 x3 x4 x5 : Int}
    (h1 : ((m 86 37) ≤ x5) → Q (some (.inl x3)) m)
    (h2 : (x5 < (m 86 37)) → (gx_and (gx_shr x2 x5) 1 = 1) → hxn xs n yp_m224 0 [(0, .inr (.inl 86)), (1, .inl (m 112 (x5).toNat)), (2, .inl (m 87 (gx_w (240 + (m 112 (x1).toNat))).toNat))] [] m (fun r m' => hxn xs n yp_m250 55 [(0, .inr (.inl 86)), (1, .inl x1), (2, .inl x2), (3, .inl x3), (4, .inl x4), (5, .inl x5)] (hrs r ++ []) m' Q))
    (h3 : (x5 < (m 86 37)) → (¬ (gx_and (gx_shr x2 x5) 1 = 1)) → hxn xs n yp_m250 8 [(0, .inr (.inl 86)), (1, .inl x1), (2, .inl x2), (3, .inl x3), (4, .inl x4), (5, .inl (gx_w (x5 + 1)))] [] m Q) : hxn xs (n + 1) yp_m250 8 [(0, .inr (.inl 86)), (1, .inl x1), (2, .inl x2), (3, .inl x3), (4, .inl x4), (5, .inl x5)] [] m Q := by
  refine hx_blks (npc := 14) (L' := [(0, .inr (.inl 86)), (1, .inl x1), (2, .inl x2), (3, .inl x3), (4, .inl x4), (5, .inl x5)]) (st' := [.inl (m 86 37), .inl x5]) (m' := m) ((8, .iload 5, 2, 0, 0, 0, 0), (0, 0, 0)) [((10, .aload_n 0, 1, 0, 0, 0, 0), (0, 0, 0)), ((11, .getfield 346, 3, 10, 37, 5150, 0), (0, 86, 0))] (by decide +kernel) rfl ?_
  refine hx_cmp .ge 85 (by decide +kernel) (fun c1 => ?_) (fun c1 => ?_)
  · have c1 : (m 86 37) ≤ x5 := c1
    refine hx_blk (npc := 86) (L' := [(0, .inr (.inl 86)), (1, .inl x1), (2, .inl x2), (3, .inl x3), (4, .inl x4), (5, .inl x5)]) (st' := [.inl x3]) (m' := m) [((85, .iload_n 3, 1, 0, 0, 0, 0), (0, 0, 0))] (by decide +kernel) rfl ?_
    exact hx_reti (by decide +kernel) (h1 c1)
  · have c1 : x5 < (m 86 37) := by have h : ¬ ((m 86 37) ≤ x5) := c1; omega
    refine hx_blk (npc := 20) (L' := [(0, .inr (.inl 86)), (1, .inl x1), (2, .inl x2), (3, .inl x3), (4, .inl x4), (5, .inl x5)]) (st' := [.inl x5, .inl x2]) (m' := m) [((17, .iload_n 2, 1, 0, 0, 0, 0), (0, 0, 0)), ((18, .iload 5, 2, 0, 0, 0, 0), (0, 0, 0))] (by decide +kernel) rfl ?_
    refine hx_call (E := (20, .invokestatic 104, 3, 165, 0, 6035, 0)) (M' := yp_m165) [.inl x2, .inl x5] [] rfl (by decide +kernel) rfl ⟨rfl, rfl⟩ rfl rfl (hs165 (fun c2 => ?_) (fun c2 => ?_))
    · have c2 : gx_and (gx_shr x2 x5) 1 = 1 := c2
      show hxn xs n yp_m250 23 [(0, .inr (.inl 86)), (1, .inl x1), (2, .inl x2), (3, .inl x3), (4, .inl x4), (5, .inl x5)] [.inl 1] m Q
      refine hx_if .ne 29 (by decide +kernel) (fun c3 => ?_) (fun c3 => ?_)
      · have c3 : (1 : Int) ≠ 0 := c3
        refine hx_blk (npc := 52) (L' := [(0, .inr (.inl 86)), (1, .inl x1), (2, .inl x2), (3, .inl x3), (4, .inl x4), (5, .inl x5)]) (st' := [.inl (m 87 (gx_w (240 + (m 112 (x1).toNat))).toNat), .inl (m 112 (x5).toNat), .inr (.inl 86)]) (m' := m) [((29, .aload_n 0, 1, 0, 0, 0, 0), (0, 0, 0)), ((30, .aload_n 0, 1, 0, 0, 0, 0), (0, 0, 0)), ((31, .getfield 86, 3, 10, 39, 5152, 0), (1, 86, 112)), ((34, .iload 5, 2, 0, 0, 0, 0), (0, 0, 0)), ((36, .iaload, 1, 0, 0, 0, 0), (0, 112, 0)), ((37, .aload_n 0, 1, 0, 0, 0, 0), (0, 0, 0)), ((38, .getfield 7, 3, 10, 0, 5113, 0), (1, 86, 87)), ((41, .sipush 240, 3, 0, 0, 0, 0), (0, 0, 0)), ((44, .aload_n 0, 1, 0, 0, 0, 0), (0, 0, 0)), ((45, .getfield 86, 3, 10, 39, 5152, 0), (1, 86, 112)), ((48, .iload_n 1, 1, 0, 0, 0, 0), (0, 0, 0)), ((49, .iaload, 1, 0, 0, 0, 0), (0, 112, 0)), ((50, .iadd, 1, 0, 0, 0, 0), (0, 0, 0)), ((51, .iaload, 1, 0, 0, 0, 0), (0, 87, 0))] (by decide +kernel) rfl ?_
        exact hx_call (E := (52, .invokevirtual 312, 3, 224, 0, 7024, 0)) (M' := yp_m224) [.inr (.inl 86), .inl (m 112 (x5).toNat), .inl (m 87 (gx_w (240 + (m 112 (x1).toNat))).toNat)] [] rfl (by decide +kernel) rfl ⟨rfl, rfl⟩ rfl rfl (hx_mono (h2 c1 c2) (fun r m' h' => hx_pick [0, 1, 2, 3, 4, 5] h'))
      · have c3 : (1 : Int) = 0 := by have h : ¬ ((1 : Int) ≠ 0) := c3; omega
        exfalso; omega
    · have c2 : ¬ (gx_and (gx_shr x2 x5) 1 = 1) := c2
      show hxn xs n yp_m250 23 [(0, .inr (.inl 86)), (1, .inl x1), (2, .inl x2), (3, .inl x3), (4, .inl x4), (5, .inl x5)] [.inl 0] m Q
      refine hx_if .ne 29 (by decide +kernel) (fun c3 => ?_) (fun c3 => ?_)
      · have c3 : (0 : Int) ≠ 0 := c3
        exfalso; omega
      · have c3 : (0 : Int) = 0 := by have h : ¬ ((0 : Int) ≠ 0) := c3; omega
        refine hx_blk (npc := 8) (L' := [(0, .inr (.inl 86)), (1, .inl x1), (2, .inl x2), (3, .inl x3), (4, .inl x4), (5, .inl (gx_w (x5 + 1)))]) (st' := []) (m' := m) [((26, .goto 53, 3, 0, 0, 0, 0), (0, 0, 0)), ((79, .iinc 5 1, 3, 0, 0, 0, 0), (0, 0, 0)), ((82, .goto (-74), 3, 0, 0, 0, 0), (0, 0, 0))] (by decide +kernel) rfl ?_
        exact hx_pick [0, 1, 2, 3, 4, 5] (h3 c1 c2)

/-- wants from 55 on -/
theorem hr250_55 {xs : List Int32} {n : Nat} {Q : hQ} {m : gx_M} {x1 x2 x3 x4 x5 s0 : Int}
    (h1 : (x3 = (-1)) → hxn xs n yp_m250 8 [(0, .inr (.inl 86)), (1, .inl x1), (2, .inl x2), (3, .inl x5), (4, .inl s0), (5, .inl (gx_w (x5 + 1)))] [] m Q)
    (h2 : (x3 ≠ (-1)) → (x4 < s0) → hxn xs n yp_m250 8 [(0, .inr (.inl 86)), (1, .inl x1), (2, .inl x2), (3, .inl x5), (4, .inl s0), (5, .inl (gx_w (x5 + 1)))] [] m Q)
    (h3 : (x3 ≠ (-1)) → (s0 ≤ x4) → hxn xs n yp_m250 8 [(0, .inr (.inl 86)), (1, .inl x1), (2, .inl x2), (3, .inl x3), (4, .inl x4), (5, .inl (gx_w (x5 + 1)))] [] m Q) : hxn xs (n + 1) yp_m250 55 [(0, .inr (.inl 86)), (1, .inl x1), (2, .inl x2), (3, .inl x3), (4, .inl x4), (5, .inl x5)] [.inl s0] m Q := by
  refine hx_blks (npc := 59) (L' := [(0, .inr (.inl 86)), (1, .inl x1), (2, .inl x2), (3, .inl x3), (4, .inl x4), (5, .inl x5), (6, .inl s0)]) (st' := [.inl (-1), .inl x3]) (m' := m) ((55, .istore 6, 2, 0, 0, 0, 0), (0, 0, 0)) [((57, .iload_n 3, 1, 0, 0, 0, 0), (0, 0, 0)), ((58, .iconst (-1), 1, 0, 0, 0, 0), (0, 0, 0))] (by decide +kernel) rfl ?_
  refine hx_cmp .eq 72 (by decide +kernel) (fun c1 => ?_) (fun c1 => ?_)
  · have c1 : x3 = (-1) := c1
    refine hx_blk (npc := 8) (L' := [(0, .inr (.inl 86)), (1, .inl x1), (2, .inl x2), (3, .inl x5), (4, .inl s0), (5, .inl (gx_w (x5 + 1))), (6, .inl s0)]) (st' := []) (m' := m) [((72, .iload 5, 2, 0, 0, 0, 0), (0, 0, 0)), ((74, .istore_n 3, 1, 0, 0, 0, 0), (0, 0, 0)), ((75, .iload 6, 2, 0, 0, 0, 0), (0, 0, 0)), ((77, .istore 4, 2, 0, 0, 0, 0), (0, 0, 0)), ((79, .iinc 5 1, 3, 0, 0, 0, 0), (0, 0, 0)), ((82, .goto (-74), 3, 0, 0, 0, 0), (0, 0, 0))] (by decide +kernel) rfl ?_
    exact hx_pick [0, 1, 2, 3, 4, 5] (h1 c1)
  · have c1 : x3 ≠ (-1) := c1
    refine hx_blk (npc := 66) (L' := [(0, .inr (.inl 86)), (1, .inl x1), (2, .inl x2), (3, .inl x3), (4, .inl x4), (5, .inl x5), (6, .inl s0)]) (st' := [.inl x4, .inl s0]) (m' := m) [((62, .iload 6, 2, 0, 0, 0, 0), (0, 0, 0)), ((64, .iload 4, 2, 0, 0, 0, 0), (0, 0, 0))] (by decide +kernel) rfl ?_
    refine hx_cmp .gt 72 (by decide +kernel) (fun c2 => ?_) (fun c2 => ?_)
    · have c2 : x4 < s0 := c2
      refine hx_blk (npc := 8) (L' := [(0, .inr (.inl 86)), (1, .inl x1), (2, .inl x2), (3, .inl x5), (4, .inl s0), (5, .inl (gx_w (x5 + 1))), (6, .inl s0)]) (st' := []) (m' := m) [((72, .iload 5, 2, 0, 0, 0, 0), (0, 0, 0)), ((74, .istore_n 3, 1, 0, 0, 0, 0), (0, 0, 0)), ((75, .iload 6, 2, 0, 0, 0, 0), (0, 0, 0)), ((77, .istore 4, 2, 0, 0, 0, 0), (0, 0, 0)), ((79, .iinc 5 1, 3, 0, 0, 0, 0), (0, 0, 0)), ((82, .goto (-74), 3, 0, 0, 0, 0), (0, 0, 0))] (by decide +kernel) rfl ?_
      exact hx_pick [0, 1, 2, 3, 4, 5] (h2 c1 c2)
    · have c2 : s0 ≤ x4 := by have h : ¬ (x4 < s0) := c2; omega
      refine hx_blk (npc := 8) (L' := [(0, .inr (.inl 86)), (1, .inl x1), (2, .inl x2), (3, .inl x3), (4, .inl x4), (5, .inl (gx_w (x5 + 1))), (6, .inl s0)]) (st' := []) (m' := m) [((69, .goto 10, 3, 0, 0, 0, 0), (0, 0, 0)), ((79, .iinc 5 1, 3, 0, 0, 0, 0), (0, 0, 0)), ((82, .goto (-74), 3, 0, 0, 0, 0), (0, 0, 0))] (by decide +kernel) rfl ?_
      exact hx_pick [0, 1, 2, 3, 4, 5] (h3 c1 c2)

/-- isInRing from 0 on -/
theorem hr251_0 {xs : List Int32} {n : Nat} {Q : hQ} {m : gx_M} {x1 : Int}
    (h1 : hxn xs n yp_m251 9 [(0, .inr (.inl 86)), (1, .inl x1), (2, .inl (m 115 (x1).toNat)), (3, .inl 0)] [] m Q) : hxn xs (n + 1) yp_m251 0 [(0, .inr (.inl 86)), (1, .inl x1)] [] m Q := by
  refine hx_blks (npc := 9) (L' := [(0, .inr (.inl 86)), (1, .inl x1), (2, .inl (m 115 (x1).toNat)), (3, .inl 0)]) (st' := []) (m' := m) ((0, .aload_n 0, 1, 0, 0, 0, 0), (0, 0, 0)) [((1, .getfield 95, 3, 10, 42, 5155, 0), (1, 86, 115)), ((4, .iload_n 1, 1, 0, 0, 0, 0), (0, 0, 0)), ((5, .iaload, 1, 0, 0, 0, 0), (0, 115, 0)), ((6, .istore_n 2, 1, 0, 0, 0, 0), (0, 0, 0)), ((7, .iconst 0, 1, 0, 0, 0, 0), (0, 0, 0)), ((8, .istore_n 3, 1, 0, 0, 0, 0), (0, 0, 0))] (by decide +kernel) rfl ?_
  exact hx_pick [0, 1, 2, 3] h1

/-- isInRing from 9 on -/
theorem hr251_9 {xs : List Int32} {n : Nat} {Q : hQ} {m : gx_M} {x1 x2 x3 : Int}
    (h1 : ((m 86 37) ≤ x3) → (x2 ≠ x1) → Q (some (.inl 0)) m)
    (h2 : ((m 86 37) ≤ x3) → (x2 = x1) → Q (some (.inl 1)) m)
    (h3 : (x3 < (m 86 37)) → (x2 = x1) → (x2 ≠ x1) → Q (some (.inl 0)) m)
    (h4 : (x3 < (m 86 37)) → (x2 = x1) → (x2 = x1) → Q (some (.inl 1)) m)
    (h5 : (x3 < (m 86 37)) → (x2 ≠ x1) → hxn xs n yp_m251 9 [(0, .inr (.inl 86)), (1, .inl x1), (2, .inl (m 115 (x2).toNat)), (3, .inl (gx_w (x3 + 1)))] [] m Q) : hxn xs (n + 1) yp_m251 9 [(0, .inr (.inl 86)), (1, .inl x1), (2, .inl x2), (3, .inl x3)] [] m Q := by
  refine hx_blks (npc := 14) (L' := [(0, .inr (.inl 86)), (1, .inl x1), (2, .inl x2), (3, .inl x3)]) (st' := [.inl (m 86 37), .inl x3]) (m' := m) ((9, .iload_n 3, 1, 0, 0, 0, 0), (0, 0, 0)) [((10, .aload_n 0, 1, 0, 0, 0, 0), (0, 0, 0)), ((11, .getfield 346, 3, 10, 37, 5150, 0), (0, 86, 0))] (by decide +kernel) rfl ?_
  refine hx_cmp .ge 35 (by decide +kernel) (fun c1 => ?_) (fun c1 => ?_)
  · have c1 : (m 86 37) ≤ x3 := c1
    refine hx_blk (npc := 37) (L' := [(0, .inr (.inl 86)), (1, .inl x1), (2, .inl x2), (3, .inl x3)]) (st' := [.inl x1, .inl x2]) (m' := m) [((35, .iload_n 2, 1, 0, 0, 0, 0), (0, 0, 0)), ((36, .iload_n 1, 1, 0, 0, 0, 0), (0, 0, 0))] (by decide +kernel) rfl ?_
    refine hx_cmp .ne 44 (by decide +kernel) (fun c2 => ?_) (fun c2 => ?_)
    · have c2 : x2 ≠ x1 := c2
      refine hx_blk (npc := 45) (L' := [(0, .inr (.inl 86)), (1, .inl x1), (2, .inl x2), (3, .inl x3)]) (st' := [.inl 0]) (m' := m) [((44, .iconst 0, 1, 0, 0, 0, 0), (0, 0, 0))] (by decide +kernel) rfl ?_
      exact hx_reti (by decide +kernel) (h1 c1 c2)
    · have c2 : x2 = x1 := by have h : ¬ (x2 ≠ x1) := c2; omega
      refine hx_blk (npc := 45) (L' := [(0, .inr (.inl 86)), (1, .inl x1), (2, .inl x2), (3, .inl x3)]) (st' := [.inl 1]) (m' := m) [((40, .iconst 1, 1, 0, 0, 0, 0), (0, 0, 0)), ((41, .goto 4, 3, 0, 0, 0, 0), (0, 0, 0))] (by decide +kernel) rfl ?_
      exact hx_reti (by decide +kernel) (h2 c1 c2)
  · have c1 : x3 < (m 86 37) := by have h : ¬ ((m 86 37) ≤ x3) := c1; omega
    refine hx_blk (npc := 19) (L' := [(0, .inr (.inl 86)), (1, .inl x1), (2, .inl x2), (3, .inl x3)]) (st' := [.inl x1, .inl x2]) (m' := m) [((17, .iload_n 2, 1, 0, 0, 0, 0), (0, 0, 0)), ((18, .iload_n 1, 1, 0, 0, 0, 0), (0, 0, 0))] (by decide +kernel) rfl ?_
    refine hx_cmp .eq 35 (by decide +kernel) (fun c2 => ?_) (fun c2 => ?_)
    · have c2 : x2 = x1 := c2
      refine hx_blk (npc := 37) (L' := [(0, .inr (.inl 86)), (1, .inl x1), (2, .inl x2), (3, .inl x3)]) (st' := [.inl x1, .inl x2]) (m' := m) [((35, .iload_n 2, 1, 0, 0, 0, 0), (0, 0, 0)), ((36, .iload_n 1, 1, 0, 0, 0, 0), (0, 0, 0))] (by decide +kernel) rfl ?_
      refine hx_cmp .ne 44 (by decide +kernel) (fun c3 => ?_) (fun c3 => ?_)
      · have c3 : x2 ≠ x1 := c3
        refine hx_blk (npc := 45) (L' := [(0, .inr (.inl 86)), (1, .inl x1), (2, .inl x2), (3, .inl x3)]) (st' := [.inl 0]) (m' := m) [((44, .iconst 0, 1, 0, 0, 0, 0), (0, 0, 0))] (by decide +kernel) rfl ?_
        exact hx_reti (by decide +kernel) (h3 c1 c2 c3)
      · have c3 : x2 = x1 := by have h : ¬ (x2 ≠ x1) := c3; omega
        refine hx_blk (npc := 45) (L' := [(0, .inr (.inl 86)), (1, .inl x1), (2, .inl x2), (3, .inl x3)]) (st' := [.inl 1]) (m' := m) [((40, .iconst 1, 1, 0, 0, 0, 0), (0, 0, 0)), ((41, .goto 4, 3, 0, 0, 0, 0), (0, 0, 0))] (by decide +kernel) rfl ?_
        exact hx_reti (by decide +kernel) (h4 c1 c2 c3)
    · have c2 : x2 ≠ x1 := c2
      refine hx_blk (npc := 9) (L' := [(0, .inr (.inl 86)), (1, .inl x1), (2, .inl (m 115 (x2).toNat)), (3, .inl (gx_w (x3 + 1)))]) (st' := []) (m' := m) [((22, .aload_n 0, 1, 0, 0, 0, 0), (0, 0, 0)), ((23, .getfield 95, 3, 10, 42, 5155, 0), (1, 86, 115)), ((26, .iload_n 2, 1, 0, 0, 0, 0), (0, 0, 0)), ((27, .iaload, 1, 0, 0, 0, 0), (0, 115, 0)), ((28, .istore_n 2, 1, 0, 0, 0, 0), (0, 0, 0)), ((29, .iinc 3 1, 3, 0, 0, 0, 0), (0, 0, 0)), ((32, .goto (-23), 3, 0, 0, 0, 0), (0, 0, 0))] (by decide +kernel) rfl ?_
      exact hx_pick [0, 1, 2, 3] (h5 c1 c2)

/-- laysRing from 0 on -/
theorem hr249_0 {xs : List Int32} {n : Nat} {Q : hQ} {m : gx_M}
    (h1 : hxn xs n yp_m249 9 [(0, .inr (.inl 86)), (1, .inl (gx_w ((gx_shl 1 (m 86 37)) - 1)))] [] m Q) : hxn xs (n + 1) yp_m249 0 [(0, .inr (.inl 86))] [] m Q := by
  refine hx_blks (npc := 9) (L' := [(0, .inr (.inl 86)), (1, .inl (gx_w ((gx_shl 1 (m 86 37)) - 1)))]) (st' := []) (m' := m) ((0, .iconst 1, 1, 0, 0, 0, 0), (0, 0, 0)) [((1, .aload_n 0, 1, 0, 0, 0, 0), (0, 0, 0)), ((2, .getfield 346, 3, 10, 37, 5150, 0), (0, 86, 0)), ((5, .ishl, 1, 0, 0, 0, 0), (0, 0, 0)), ((6, .iconst 1, 1, 0, 0, 0, 0), (0, 0, 0)), ((7, .isub, 1, 0, 0, 0, 0), (0, 0, 0)), ((8, .istore_n 1, 1, 0, 0, 0, 0), (0, 0, 0))] (by decide +kernel) rfl ?_
  exact hx_pick [0, 1] h1

/-- laysRing from 9 on -/
theorem hr249_9 {xs : List Int32} {n : Nat} {Q : hQ} {m : gx_M} {x1 : Int}
    (h1 : (x1 = 0) → Q none m)
    (h2 : (x1 ≠ 0) → hxn xs n yp_m249 15 [(0, .inr (.inl 86)), (1, .inl x1), (2, .inl 0)] [] m Q) : hxn xs (n + 1) yp_m249 9 [(0, .inr (.inl 86)), (1, .inl x1)] [] m Q := by
  refine hx_blks (npc := 10) (L' := [(0, .inr (.inl 86)), (1, .inl x1)]) (st' := [.inl x1]) (m' := m) ((9, .iload_n 1, 1, 0, 0, 0, 0), (0, 0, 0)) [] (by decide +kernel) rfl ?_
  refine hx_if .eq 113 (by decide +kernel) (fun c1 => ?_) (fun c1 => ?_)
  · have c1 : x1 = 0 := c1
    exact hx_ret0 (by decide +kernel) (h1 c1)
  · have c1 : x1 ≠ 0 := c1
    refine hx_blk (npc := 15) (L' := [(0, .inr (.inl 86)), (1, .inl x1), (2, .inl 0)]) (st' := []) (m' := m) [((13, .iconst 0, 1, 0, 0, 0, 0), (0, 0, 0)), ((14, .istore_n 2, 1, 0, 0, 0, 0), (0, 0, 0))] (by decide +kernel) rfl ?_
    exact hx_pick [0, 1, 2] (h2 c1)

/-- laysRing from 15 on -/
theorem hr249_15 {xs : List Int32} {n : Nat} {Q : hQ} {m : gx_M} {x1 x2 : Int}
    (h1 : ((m 86 37) ≤ x2) → hxn xs n yp_m249 53 [(0, .inr (.inl 86)), (1, .inl x1), (2, .inl 0), (3, .inl 0)] [] m Q)
    (h2 : (x2 < (m 86 37)) → (gx_and (gx_shr x1 x2) 1 = 1) → hxn xs n yp_m250 0 [(0, .inr (.inl 86)), (1, .inl x2), (2, .inl x1)] [] m (fun r m' => hxn xs n yp_m249 42 [(0, .inr (.inl 86)), (1, .inl x1), (2, .inl x2)] (hrs r ++ [.inl x2, .inr (.inl 115)]) m' Q))
    (h3 : (x2 < (m 86 37)) → (¬ (gx_and (gx_shr x1 x2) 1 = 1)) → hxn xs n yp_m249 15 [(0, .inr (.inl 86)), (1, .inl x1), (2, .inl (gx_w (x2 + 1)))] [] m Q) : hxn xs (n + 1) yp_m249 15 [(0, .inr (.inl 86)), (1, .inl x1), (2, .inl x2)] [] m Q := by
  refine hx_blks (npc := 20) (L' := [(0, .inr (.inl 86)), (1, .inl x1), (2, .inl x2)]) (st' := [.inl (m 86 37), .inl x2]) (m' := m) ((15, .iload_n 2, 1, 0, 0, 0, 0), (0, 0, 0)) [((16, .aload_n 0, 1, 0, 0, 0, 0), (0, 0, 0)), ((17, .getfield 346, 3, 10, 37, 5150, 0), (0, 86, 0))] (by decide +kernel) rfl ?_
  refine hx_cmp .ge 49 (by decide +kernel) (fun c1 => ?_) (fun c1 => ?_)
  · have c1 : (m 86 37) ≤ x2 := c1
    refine hx_blk (npc := 53) (L' := [(0, .inr (.inl 86)), (1, .inl x1), (2, .inl 0), (3, .inl 0)]) (st' := []) (m' := m) [((49, .iconst 0, 1, 0, 0, 0, 0), (0, 0, 0)), ((50, .istore_n 2, 1, 0, 0, 0, 0), (0, 0, 0)), ((51, .iconst 0, 1, 0, 0, 0, 0), (0, 0, 0)), ((52, .istore_n 3, 1, 0, 0, 0, 0), (0, 0, 0))] (by decide +kernel) rfl ?_
    exact hx_pick [0, 1, 2, 3] (h1 c1)
  · have c1 : x2 < (m 86 37) := by have h : ¬ ((m 86 37) ≤ x2) := c1; omega
    refine hx_blk (npc := 25) (L' := [(0, .inr (.inl 86)), (1, .inl x1), (2, .inl x2)]) (st' := [.inl x2, .inl x1]) (m' := m) [((23, .iload_n 1, 1, 0, 0, 0, 0), (0, 0, 0)), ((24, .iload_n 2, 1, 0, 0, 0, 0), (0, 0, 0))] (by decide +kernel) rfl ?_
    refine hx_call (E := (25, .invokestatic 104, 3, 165, 0, 6035, 0)) (M' := yp_m165) [.inl x1, .inl x2] [] rfl (by decide +kernel) rfl ⟨rfl, rfl⟩ rfl rfl (hs165 (fun c2 => ?_) (fun c2 => ?_))
    · have c2 : gx_and (gx_shr x1 x2) 1 = 1 := c2
      show hxn xs n yp_m249 28 [(0, .inr (.inl 86)), (1, .inl x1), (2, .inl x2)] [.inl 1] m Q
      refine hx_if .eq 43 (by decide +kernel) (fun c3 => ?_) (fun c3 => ?_)
      · have c3 : (1 : Int) = 0 := c3
        exfalso; omega
      · have c3 : (1 : Int) ≠ 0 := c3
        refine hx_blk (npc := 39) (L' := [(0, .inr (.inl 86)), (1, .inl x1), (2, .inl x2)]) (st' := [.inl x1, .inl x2, .inr (.inl 86), .inl x2, .inr (.inl 115)]) (m' := m) [((31, .aload_n 0, 1, 0, 0, 0, 0), (0, 0, 0)), ((32, .getfield 95, 3, 10, 42, 5155, 0), (1, 86, 115)), ((35, .iload_n 2, 1, 0, 0, 0, 0), (0, 0, 0)), ((36, .aload_n 0, 1, 0, 0, 0, 0), (0, 0, 0)), ((37, .iload_n 2, 1, 0, 0, 0, 0), (0, 0, 0)), ((38, .iload_n 1, 1, 0, 0, 0, 0), (0, 0, 0))] (by decide +kernel) rfl ?_
        exact hx_call (E := (39, .invokevirtual 367, 3, 250, 0, 7127, 0)) (M' := yp_m250) [.inr (.inl 86), .inl x2, .inl x1] [.inl x2, .inr (.inl 115)] rfl (by decide +kernel) rfl ⟨rfl, rfl⟩ rfl rfl (hx_mono (h2 c1 c2) (fun r m' h' => hx_pick [0, 1, 2] h'))
    · have c2 : ¬ (gx_and (gx_shr x1 x2) 1 = 1) := c2
      show hxn xs n yp_m249 28 [(0, .inr (.inl 86)), (1, .inl x1), (2, .inl x2)] [.inl 0] m Q
      refine hx_if .eq 43 (by decide +kernel) (fun c3 => ?_) (fun c3 => ?_)
      · have c3 : (0 : Int) = 0 := c3
        refine hx_blk (npc := 15) (L' := [(0, .inr (.inl 86)), (1, .inl x1), (2, .inl (gx_w (x2 + 1)))]) (st' := []) (m' := m) [((43, .iinc 2 1, 3, 0, 0, 0, 0), (0, 0, 0)), ((46, .goto (-31), 3, 0, 0, 0, 0), (0, 0, 0))] (by decide +kernel) rfl ?_
        exact hx_pick [0, 1, 2] (h3 c1 c2)
      · have c3 : (0 : Int) ≠ 0 := c3
        exfalso; omega

/-- laysRing from 42 on -/
theorem hr249_42 {xs : List Int32} {n : Nat} {Q : hQ} {m : gx_M} {x1 x2 s1 s2 : Int}
    (h1 : hxn xs n yp_m249 15 [(0, .inr (.inl 86)), (1, .inl x1), (2, .inl (gx_w (x2 + 1)))] [] (gx_u m 115 (s1).toNat s2) Q) : hxn xs (n + 1) yp_m249 42 [(0, .inr (.inl 86)), (1, .inl x1), (2, .inl x2)] [.inl s2, .inl s1, .inr (.inl 115)] m Q := by
  refine hx_blks (npc := 15) (L' := [(0, .inr (.inl 86)), (1, .inl x1), (2, .inl (gx_w (x2 + 1)))]) (st' := []) (m' := (gx_u m 115 (s1).toNat s2)) ((42, .iastore, 1, 0, 0, 0, 0), (0, 115, 0)) [((43, .iinc 2 1, 3, 0, 0, 0, 0), (0, 0, 0)), ((46, .goto (-31), 3, 0, 0, 0, 0), (0, 0, 0))] (by decide +kernel) rfl ?_
  exact hx_pick [0, 1, 2] h1

/-- laysRing from 53 on -/
theorem hr249_53 {xs : List Int32} {n : Nat} {Q : hQ} {m : gx_M} {x1 x2 x3 : Int}
    (h1 : ((m 86 37) ≤ x3) → hxn xs n yp_m249 9 [(0, .inr (.inl 86)), (1, .inl (gx_and x1 (gx_xor x2 (-1))))] [] m Q)
    (h2 : (x3 < (m 86 37)) → (gx_and (gx_shr x1 x3) 1 = 1) → hxn xs n yp_m251 0 [(0, .inr (.inl 86)), (1, .inl x3)] [] m (fun r m' => hxn xs n yp_m249 74 [(0, .inr (.inl 86)), (1, .inl x1), (2, .inl x2), (3, .inl x3)] (hrs r ++ []) m' Q))
    (h3 : (x3 < (m 86 37)) → (¬ (gx_and (gx_shr x1 x3) 1 = 1)) → hxn xs n yp_m249 53 [(0, .inr (.inl 86)), (1, .inl x1), (2, .inl x2), (3, .inl (gx_w (x3 + 1)))] [] m Q) : hxn xs (n + 1) yp_m249 53 [(0, .inr (.inl 86)), (1, .inl x1), (2, .inl x2), (3, .inl x3)] [] m Q := by
  refine hx_blks (npc := 58) (L' := [(0, .inr (.inl 86)), (1, .inl x1), (2, .inl x2), (3, .inl x3)]) (st' := [.inl (m 86 37), .inl x3]) (m' := m) ((53, .iload_n 3, 1, 0, 0, 0, 0), (0, 0, 0)) [((54, .aload_n 0, 1, 0, 0, 0, 0), (0, 0, 0)), ((55, .getfield 346, 3, 10, 37, 5150, 0), (0, 86, 0))] (by decide +kernel) rfl ?_
  refine hx_cmp .ge 104 (by decide +kernel) (fun c1 => ?_) (fun c1 => ?_)
  · have c1 : (m 86 37) ≤ x3 := c1
    refine hx_blk (npc := 9) (L' := [(0, .inr (.inl 86)), (1, .inl (gx_and x1 (gx_xor x2 (-1)))), (2, .inl x2), (3, .inl x3)]) (st' := []) (m' := m) [((104, .iload_n 1, 1, 0, 0, 0, 0), (0, 0, 0)), ((105, .iload_n 2, 1, 0, 0, 0, 0), (0, 0, 0)), ((106, .iconst (-1), 1, 0, 0, 0, 0), (0, 0, 0)), ((107, .ixor, 1, 0, 0, 0, 0), (0, 0, 0)), ((108, .iand, 1, 0, 0, 0, 0), (0, 0, 0)), ((109, .istore_n 1, 1, 0, 0, 0, 0), (0, 0, 0)), ((110, .goto (-101), 3, 0, 0, 0, 0), (0, 0, 0))] (by decide +kernel) rfl ?_
    exact hx_pick [0, 1] (h1 c1)
  · have c1 : x3 < (m 86 37) := by have h : ¬ ((m 86 37) ≤ x3) := c1; omega
    refine hx_blk (npc := 63) (L' := [(0, .inr (.inl 86)), (1, .inl x1), (2, .inl x2), (3, .inl x3)]) (st' := [.inl x3, .inl x1]) (m' := m) [((61, .iload_n 1, 1, 0, 0, 0, 0), (0, 0, 0)), ((62, .iload_n 3, 1, 0, 0, 0, 0), (0, 0, 0))] (by decide +kernel) rfl ?_
    refine hx_call (E := (63, .invokestatic 104, 3, 165, 0, 6035, 0)) (M' := yp_m165) [.inl x1, .inl x3] [] rfl (by decide +kernel) rfl ⟨rfl, rfl⟩ rfl rfl (hs165 (fun c2 => ?_) (fun c2 => ?_))
    · have c2 : gx_and (gx_shr x1 x3) 1 = 1 := c2
      show hxn xs n yp_m249 66 [(0, .inr (.inl 86)), (1, .inl x1), (2, .inl x2), (3, .inl x3)] [.inl 1] m Q
      refine hx_if .eq 98 (by decide +kernel) (fun c3 => ?_) (fun c3 => ?_)
      · have c3 : (1 : Int) = 0 := c3
        exfalso; omega
      · have c3 : (1 : Int) ≠ 0 := c3
        refine hx_blk (npc := 71) (L' := [(0, .inr (.inl 86)), (1, .inl x1), (2, .inl x2), (3, .inl x3)]) (st' := [.inl x3, .inr (.inl 86)]) (m' := m) [((69, .aload_n 0, 1, 0, 0, 0, 0), (0, 0, 0)), ((70, .iload_n 3, 1, 0, 0, 0, 0), (0, 0, 0))] (by decide +kernel) rfl ?_
        exact hx_call (E := (71, .invokevirtual 370, 3, 251, 0, 7131, 0)) (M' := yp_m251) [.inr (.inl 86), .inl x3] [] rfl (by decide +kernel) rfl ⟨rfl, rfl⟩ rfl rfl (hx_mono (h2 c1 c2) (fun r m' h' => hx_pick [0, 1, 2, 3] h'))
    · have c2 : ¬ (gx_and (gx_shr x1 x3) 1 = 1) := c2
      show hxn xs n yp_m249 66 [(0, .inr (.inl 86)), (1, .inl x1), (2, .inl x2), (3, .inl x3)] [.inl 0] m Q
      refine hx_if .eq 98 (by decide +kernel) (fun c3 => ?_) (fun c3 => ?_)
      · have c3 : (0 : Int) = 0 := c3
        refine hx_blk (npc := 53) (L' := [(0, .inr (.inl 86)), (1, .inl x1), (2, .inl x2), (3, .inl (gx_w (x3 + 1)))]) (st' := []) (m' := m) [((98, .iinc 3 1, 3, 0, 0, 0, 0), (0, 0, 0)), ((101, .goto (-48), 3, 0, 0, 0, 0), (0, 0, 0))] (by decide +kernel) rfl ?_
        exact hx_pick [0, 1, 2, 3] (h3 c1 c2)
      · have c3 : (0 : Int) ≠ 0 := c3
        exfalso; omega

/-- laysRing from 74 on -/
theorem hr249_74 {xs : List Int32} {n : Nat} {Q : hQ} {m : gx_M} {x1 x2 x3 s0 : Int}
    (h1 : (s0 ≠ 0) → hxn xs n yp_m249 53 [(0, .inr (.inl 86)), (1, .inl x1), (2, .inl (gx_or x2 (gx_shl 1 x3))), (3, .inl (gx_w (x3 + 1)))] [] (gx_u m 116 (x3).toNat (m 115 (x3).toNat)) Q)
    (h2 : (s0 = 0) → hxn xs n yp_m249 53 [(0, .inr (.inl 86)), (1, .inl x1), (2, .inl x2), (3, .inl (gx_w (x3 + 1)))] [] m Q) : hxn xs (n + 1) yp_m249 74 [(0, .inr (.inl 86)), (1, .inl x1), (2, .inl x2), (3, .inl x3)] [.inl s0] m Q := by
  refine hx_ifs .ne 80 (by decide +kernel) (fun c1 => ?_) (fun c1 => ?_)
  · have c1 : s0 ≠ 0 := c1
    refine hx_blk (npc := 53) (L' := [(0, .inr (.inl 86)), (1, .inl x1), (2, .inl (gx_or x2 (gx_shl 1 x3))), (3, .inl (gx_w (x3 + 1)))]) (st' := []) (m' := (gx_u m 116 (x3).toNat (m 115 (x3).toNat))) [((80, .aload_n 0, 1, 0, 0, 0, 0), (0, 0, 0)), ((81, .getfield 98, 3, 10, 43, 5156, 0), (1, 86, 116)), ((84, .iload_n 3, 1, 0, 0, 0, 0), (0, 0, 0)), ((85, .aload_n 0, 1, 0, 0, 0, 0), (0, 0, 0)), ((86, .getfield 95, 3, 10, 42, 5155, 0), (1, 86, 115)), ((89, .iload_n 3, 1, 0, 0, 0, 0), (0, 0, 0)), ((90, .iaload, 1, 0, 0, 0, 0), (0, 115, 0)), ((91, .iastore, 1, 0, 0, 0, 0), (0, 116, 0)), ((92, .iload_n 2, 1, 0, 0, 0, 0), (0, 0, 0)), ((93, .iconst 1, 1, 0, 0, 0, 0), (0, 0, 0)), ((94, .iload_n 3, 1, 0, 0, 0, 0), (0, 0, 0)), ((95, .ishl, 1, 0, 0, 0, 0), (0, 0, 0)), ((96, .ior, 1, 0, 0, 0, 0), (0, 0, 0)), ((97, .istore_n 2, 1, 0, 0, 0, 0), (0, 0, 0)), ((98, .iinc 3 1, 3, 0, 0, 0, 0), (0, 0, 0)), ((101, .goto (-48), 3, 0, 0, 0, 0), (0, 0, 0))] (by decide +kernel) rfl ?_
    exact hx_pick [0, 1, 2, 3] (h1 c1)
  · have c1 : s0 = 0 := by have h : ¬ (s0 ≠ 0) := c1; omega
    refine hx_blk (npc := 53) (L' := [(0, .inr (.inl 86)), (1, .inl x1), (2, .inl x2), (3, .inl (gx_w (x3 + 1)))]) (st' := []) (m' := m) [((77, .goto 21, 3, 0, 0, 0, 0), (0, 0, 0)), ((98, .iinc 3 1, 3, 0, 0, 0, 0), (0, 0, 0)), ((101, .goto (-48), 3, 0, 0, 0, 0), (0, 0, 0))] (by decide +kernel) rfl ?_
    exact hx_pick [0, 1, 2, 3] (h2 c1)

/-- ring from 0 on -/
theorem hr248_0 {xs : List Int32} {n : Nat} {Q : hQ} {m : gx_M} {x1 x2 : Int}
    (h1 : (1 ≤ x1 ∧ x1 ≤ 8) → (x1 ≤ (m 86 4)) → hxn xs n yp_m243 0 [(0, .inr (.inl 86)), (1, .inl x1)] [] (gx_u m 86 4 0) (fun r m' => hxn xs n yp_m248 30 [(0, .inr (.inl 86)), (1, .inl x1), (2, .inl x2)] (hrs r ++ []) m' Q))
    (h2 : (1 ≤ x1 ∧ x1 ≤ 8) → ((m 86 4) < x1) → Q (some (.inl (-1))) m)
    (h3 : (¬ (1 ≤ x1 ∧ x1 ≤ 8)) → Q (some (.inl (-1))) m) : hxn xs (n + 1) yp_m248 0 [(0, .inr (.inl 86)), (1, .inl x1), (2, .inl x2)] [] m Q := by
  refine hx_blks (npc := 4) (L' := [(0, .inr (.inl 86)), (1, .inl x1), (2, .inl x2)]) (st' := [.inl 8, .inl 1, .inl x1]) (m' := m) ((0, .iload_n 1, 1, 0, 0, 0, 0), (0, 0, 0)) [((1, .iconst 1, 1, 0, 0, 0, 0), (0, 0, 0)), ((2, .bipush 8, 2, 0, 0, 0, 0), (0, 0, 0))] (by decide +kernel) rfl ?_
  refine hx_call (E := (4, .invokestatic 108, 3, 162, 0, 6023, 0)) (M' := yp_m162) [.inl x1, .inl 1, .inl 8] [] rfl (by decide +kernel) rfl ⟨rfl, rfl⟩ rfl rfl (hs162 (fun c1 => ?_) (fun c1 => ?_))
  · have c1 : 1 ≤ x1 ∧ x1 ≤ 8 := c1
    show hxn xs n yp_m248 7 [(0, .inr (.inl 86)), (1, .inl x1), (2, .inl x2)] [.inl 1] m Q
    refine hx_if .eq 18 (by decide +kernel) (fun c2 => ?_) (fun c2 => ?_)
    · have c2 : (1 : Int) = 0 := c2
      exfalso; omega
    · have c2 : (1 : Int) ≠ 0 := c2
      refine hx_blk (npc := 15) (L' := [(0, .inr (.inl 86)), (1, .inl x1), (2, .inl x2)]) (st' := [.inl (m 86 4), .inl x1]) (m' := m) [((10, .iload_n 1, 1, 0, 0, 0, 0), (0, 0, 0)), ((11, .aload_n 0, 1, 0, 0, 0, 0), (0, 0, 0)), ((12, .getfield 124, 3, 10, 4, 5117, 0), (0, 86, 0))] (by decide +kernel) rfl ?_
      refine hx_cmp .le 20 (by decide +kernel) (fun c2 => ?_) (fun c2 => ?_)
      · have c2 : x1 ≤ (m 86 4) := c2
        refine hx_blk (npc := 27) (L' := [(0, .inr (.inl 86)), (1, .inl x1), (2, .inl x2)]) (st' := [.inl x1, .inr (.inl 86)]) (m' := (gx_u m 86 4 0)) [((20, .aload_n 0, 1, 0, 0, 0, 0), (0, 0, 0)), ((21, .iconst 0, 1, 0, 0, 0, 0), (0, 0, 0)), ((22, .putfield 124, 3, 10, 4, 5117, 0), (0, 86, 0)), ((25, .aload_n 0, 1, 0, 0, 0, 0), (0, 0, 0)), ((26, .iload_n 1, 1, 0, 0, 0, 0), (0, 0, 0))] (by decide +kernel) rfl ?_
        exact hx_call (E := (27, .invokevirtual 361, 3, 243, 0, 7099, 0)) (M' := yp_m243) [.inr (.inl 86), .inl x1] [] rfl (by decide +kernel) rfl ⟨rfl, rfl⟩ rfl rfl (hx_mono (h1 c1 c2) (fun r m' h' => hx_pick [0, 1, 2] h'))
      · have c2 : (m 86 4) < x1 := by have h : ¬ (x1 ≤ (m 86 4)) := c2; omega
        refine hx_blk (npc := 19) (L' := [(0, .inr (.inl 86)), (1, .inl x1), (2, .inl x2)]) (st' := [.inl (-1)]) (m' := m) [((18, .iconst (-1), 1, 0, 0, 0, 0), (0, 0, 0))] (by decide +kernel) rfl ?_
        exact hx_reti (by decide +kernel) (h2 c1 c2)
  · have c1 : ¬ (1 ≤ x1 ∧ x1 ≤ 8) := c1
    show hxn xs n yp_m248 7 [(0, .inr (.inl 86)), (1, .inl x1), (2, .inl x2)] [.inl 0] m Q
    refine hx_if .eq 18 (by decide +kernel) (fun c2 => ?_) (fun c2 => ?_)
    · have c2 : (0 : Int) = 0 := c2
      refine hx_blk (npc := 19) (L' := [(0, .inr (.inl 86)), (1, .inl x1), (2, .inl x2)]) (st' := [.inl (-1)]) (m' := m) [((18, .iconst (-1), 1, 0, 0, 0, 0), (0, 0, 0))] (by decide +kernel) rfl ?_
      exact hx_reti (by decide +kernel) (h3 c1)
    · have c2 : (0 : Int) ≠ 0 := c2
      exfalso; omega

/-- ring from 30 on -/
theorem hr248_30 {xs : List Int32} {n : Nat} {Q : hQ} {m : gx_M} {x1 x2 s0 : Int}
    (h1 : (s0 ≠ 0) → hxn xs n yp_m248 38 [(0, .inr (.inl 86)), (1, .inl x1), (2, .inl x2), (3, .inl 0)] [] m Q)
    (h2 : (s0 = 0) → Q (some (.inl (-2))) m) : hxn xs (n + 1) yp_m248 30 [(0, .inr (.inl 86)), (1, .inl x1), (2, .inl x2)] [.inl s0] m Q := by
  refine hx_ifs .ne 36 (by decide +kernel) (fun c1 => ?_) (fun c1 => ?_)
  · have c1 : s0 ≠ 0 := c1
    refine hx_blk (npc := 38) (L' := [(0, .inr (.inl 86)), (1, .inl x1), (2, .inl x2), (3, .inl 0)]) (st' := []) (m' := m) [((36, .iconst 0, 1, 0, 0, 0, 0), (0, 0, 0)), ((37, .istore_n 3, 1, 0, 0, 0, 0), (0, 0, 0))] (by decide +kernel) rfl ?_
    exact hx_pick [0, 1, 2, 3] (h1 c1)
  · have c1 : s0 = 0 := by have h : ¬ (s0 ≠ 0) := c1; omega
    refine hx_blk (npc := 35) (L' := [(0, .inr (.inl 86)), (1, .inl x1), (2, .inl x2)]) (st' := [.inl (-2)]) (m' := m) [((33, .bipush (-2), 2, 0, 0, 0, 0), (0, 0, 0))] (by decide +kernel) rfl ?_
    exact hx_reti (by decide +kernel) (h2 c1)

/-- ring from 38 on -/
theorem hr248_38 {xs : List Int32} {n : Nat} {Q : hQ} {m : gx_M} {x1 x2 x3 : Int}
    (h1 : (x1 ≤ x3) → (x2 = 10) → hxn xs n yp_m249 0 [(0, .inr (.inl 86))] [] m (fun r m' => hxn xs n yp_m248 125 [(0, .inr (.inl 86)), (1, .inl x1), (2, .inl x2)] (hrs r ++ []) m' Q))
    (h2 : (x1 ≤ x3) → (x2 ≠ 10) → (0 ≤ x2 ∧ x2 ≤ (gx_w (x1 - 1))) → hxn xs n yp_m249 0 [(0, .inr (.inl 86))] [] m (fun r m' => hxn xs n yp_m248 125 [(0, .inr (.inl 86)), (1, .inl x1), (2, .inl x2)] (hrs r ++ []) m' Q))
    (h3 : (x1 ≤ x3) → (x2 ≠ 10) → (¬ (0 ≤ x2 ∧ x2 ≤ (gx_w (x1 - 1)))) → Q (some (.inl (-3))) m)
    (h4 : (x3 < x1) → hxn xs n yp_m248 46 [(0, .inr (.inl 86)), (1, .inl x1), (2, .inl x2), (3, .inl x3), (4, .inl 0)] [] m Q) : hxn xs (n + 1) yp_m248 38 [(0, .inr (.inl 86)), (1, .inl x1), (2, .inl x2), (3, .inl x3)] [] m Q := by
  refine hx_blks (npc := 40) (L' := [(0, .inr (.inl 86)), (1, .inl x1), (2, .inl x2), (3, .inl x3)]) (st' := [.inl x1, .inl x3]) (m' := m) ((38, .iload_n 3, 1, 0, 0, 0, 0), (0, 0, 0)) [((39, .iload_n 1, 1, 0, 0, 0, 0), (0, 0, 0))] (by decide +kernel) rfl ?_
  refine hx_cmp .ge 101 (by decide +kernel) (fun c1 => ?_) (fun c1 => ?_)
  · have c1 : x1 ≤ x3 := c1
    refine hx_blk (npc := 104) (L' := [(0, .inr (.inl 86)), (1, .inl x1), (2, .inl x2), (3, .inl x3)]) (st' := [.inl 10, .inl x2]) (m' := m) [((101, .iload_n 2, 1, 0, 0, 0, 0), (0, 0, 0)), ((102, .bipush 10, 2, 0, 0, 0, 0), (0, 0, 0))] (by decide +kernel) rfl ?_
    refine hx_cmp .eq 121 (by decide +kernel) (fun c2 => ?_) (fun c2 => ?_)
    · have c2 : x2 = 10 := c2
      refine hx_blk (npc := 122) (L' := [(0, .inr (.inl 86)), (1, .inl x1), (2, .inl x2), (3, .inl x3)]) (st' := [.inr (.inl 86)]) (m' := m) [((121, .aload_n 0, 1, 0, 0, 0, 0), (0, 0, 0))] (by decide +kernel) rfl ?_
      exact hx_call (E := (122, .invokevirtual 373, 3, 249, 0, 7123, 0)) (M' := yp_m249) [.inr (.inl 86)] [] rfl (by decide +kernel) rfl ⟨rfl, rfl⟩ rfl rfl (hx_mono (h1 c1 c2) (fun r m' h' => hx_pick [0, 1, 2] h'))
    · have c2 : x2 ≠ 10 := c2
      refine hx_blk (npc := 112) (L' := [(0, .inr (.inl 86)), (1, .inl x1), (2, .inl x2), (3, .inl x3)]) (st' := [.inl (gx_w (x1 - 1)), .inl 0, .inl x2]) (m' := m) [((107, .iload_n 2, 1, 0, 0, 0, 0), (0, 0, 0)), ((108, .iconst 0, 1, 0, 0, 0, 0), (0, 0, 0)), ((109, .iload_n 1, 1, 0, 0, 0, 0), (0, 0, 0)), ((110, .iconst 1, 1, 0, 0, 0, 0), (0, 0, 0)), ((111, .isub, 1, 0, 0, 0, 0), (0, 0, 0))] (by decide +kernel) rfl ?_
      refine hx_call (E := (112, .invokestatic 108, 3, 162, 0, 6023, 0)) (M' := yp_m162) [.inl x2, .inl 0, .inl (gx_w (x1 - 1))] [] rfl (by decide +kernel) rfl ⟨rfl, rfl⟩ rfl rfl (hs162 (fun c3 => ?_) (fun c3 => ?_))
      · have c3 : 0 ≤ x2 ∧ x2 ≤ (gx_w (x1 - 1)) := c3
        show hxn xs n yp_m248 115 [(0, .inr (.inl 86)), (1, .inl x1), (2, .inl x2), (3, .inl x3)] [.inl 1] m Q
        refine hx_if .ne 121 (by decide +kernel) (fun c4 => ?_) (fun c4 => ?_)
        · have c4 : (1 : Int) ≠ 0 := c4
          refine hx_blk (npc := 122) (L' := [(0, .inr (.inl 86)), (1, .inl x1), (2, .inl x2), (3, .inl x3)]) (st' := [.inr (.inl 86)]) (m' := m) [((121, .aload_n 0, 1, 0, 0, 0, 0), (0, 0, 0))] (by decide +kernel) rfl ?_
          exact hx_call (E := (122, .invokevirtual 373, 3, 249, 0, 7123, 0)) (M' := yp_m249) [.inr (.inl 86)] [] rfl (by decide +kernel) rfl ⟨rfl, rfl⟩ rfl rfl (hx_mono (h2 c1 c2 c3) (fun r m' h' => hx_pick [0, 1, 2] h'))
        · have c4 : (1 : Int) = 0 := by have h : ¬ ((1 : Int) ≠ 0) := c4; omega
          exfalso; omega
      · have c3 : ¬ (0 ≤ x2 ∧ x2 ≤ (gx_w (x1 - 1))) := c3
        show hxn xs n yp_m248 115 [(0, .inr (.inl 86)), (1, .inl x1), (2, .inl x2), (3, .inl x3)] [.inl 0] m Q
        refine hx_if .ne 121 (by decide +kernel) (fun c4 => ?_) (fun c4 => ?_)
        · have c4 : (0 : Int) ≠ 0 := c4
          exfalso; omega
        · have c4 : (0 : Int) = 0 := by have h : ¬ ((0 : Int) ≠ 0) := c4; omega
          refine hx_blk (npc := 120) (L' := [(0, .inr (.inl 86)), (1, .inl x1), (2, .inl x2), (3, .inl x3)]) (st' := [.inl (-3)]) (m' := m) [((118, .bipush (-3), 2, 0, 0, 0, 0), (0, 0, 0))] (by decide +kernel) rfl ?_
          exact hx_reti (by decide +kernel) (h3 c1 c2 c3)
  · have c1 : x3 < x1 := by have h : ¬ (x1 ≤ x3) := c1; omega
    refine hx_blk (npc := 46) (L' := [(0, .inr (.inl 86)), (1, .inl x1), (2, .inl x2), (3, .inl x3), (4, .inl 0)]) (st' := []) (m' := m) [((43, .iconst 0, 1, 0, 0, 0, 0), (0, 0, 0)), ((44, .istore 4, 2, 0, 0, 0, 0), (0, 0, 0))] (by decide +kernel) rfl ?_
    exact hx_pick [0, 1, 2, 3, 4] (h4 c1)

/-- ring from 46 on -/
theorem hr248_46 {xs : List Int32} {n : Nat} {Q : hQ} {m : gx_M} {x1 x2 x3 x4 : Int}
    (h1 : (x3 ≤ x4) → hxn xs n yp_m248 38 [(0, .inr (.inl 86)), (1, .inl x1), (2, .inl x2), (3, .inl (gx_w (x3 + 1)))] [] m Q)
    (h2 : (x4 < x3) → ((m 87 (gx_w (240 + (m 112 (x3).toNat))).toNat) ≠ (m 87 (gx_w (240 + (m 112 (x4).toNat))).toNat)) → hxn xs n yp_m248 46 [(0, .inr (.inl 86)), (1, .inl x1), (2, .inl x2), (3, .inl x3), (4, .inl (gx_w (x4 + 1)))] [] m Q)
    (h3 : (x4 < x3) → ((m 87 (gx_w (240 + (m 112 (x3).toNat))).toNat) = (m 87 (gx_w (240 + (m 112 (x4).toNat))).toNat)) → Q (some (.inl (-2))) m) : hxn xs (n + 1) yp_m248 46 [(0, .inr (.inl 86)), (1, .inl x1), (2, .inl x2), (3, .inl x3), (4, .inl x4)] [] m Q := by
  refine hx_blks (npc := 49) (L' := [(0, .inr (.inl 86)), (1, .inl x1), (2, .inl x2), (3, .inl x3), (4, .inl x4)]) (st' := [.inl x3, .inl x4]) (m' := m) ((46, .iload 4, 2, 0, 0, 0, 0), (0, 0, 0)) [((48, .iload_n 3, 1, 0, 0, 0, 0), (0, 0, 0))] (by decide +kernel) rfl ?_
  refine hx_cmp .ge 95 (by decide +kernel) (fun c1 => ?_) (fun c1 => ?_)
  · have c1 : x3 ≤ x4 := c1
    refine hx_blk (npc := 38) (L' := [(0, .inr (.inl 86)), (1, .inl x1), (2, .inl x2), (3, .inl (gx_w (x3 + 1))), (4, .inl x4)]) (st' := []) (m' := m) [((95, .iinc 3 1, 3, 0, 0, 0, 0), (0, 0, 0)), ((98, .goto (-60), 3, 0, 0, 0, 0), (0, 0, 0))] (by decide +kernel) rfl ?_
    exact hx_pick [0, 1, 2, 3] (h1 c1)
  · have c1 : x4 < x3 := by have h : ¬ (x3 ≤ x4) := c1; omega
    refine hx_blk (npc := 83) (L' := [(0, .inr (.inl 86)), (1, .inl x1), (2, .inl x2), (3, .inl x3), (4, .inl x4)]) (st' := [.inl (m 87 (gx_w (240 + (m 112 (x4).toNat))).toNat), .inl (m 87 (gx_w (240 + (m 112 (x3).toNat))).toNat)]) (m' := m) [((52, .aload_n 0, 1, 0, 0, 0, 0), (0, 0, 0)), ((53, .getfield 7, 3, 10, 0, 5113, 0), (1, 86, 87)), ((56, .sipush 240, 3, 0, 0, 0, 0), (0, 0, 0)), ((59, .aload_n 0, 1, 0, 0, 0, 0), (0, 0, 0)), ((60, .getfield 86, 3, 10, 39, 5152, 0), (1, 86, 112)), ((63, .iload_n 3, 1, 0, 0, 0, 0), (0, 0, 0)), ((64, .iaload, 1, 0, 0, 0, 0), (0, 112, 0)), ((65, .iadd, 1, 0, 0, 0, 0), (0, 0, 0)), ((66, .iaload, 1, 0, 0, 0, 0), (0, 87, 0)), ((67, .aload_n 0, 1, 0, 0, 0, 0), (0, 0, 0)), ((68, .getfield 7, 3, 10, 0, 5113, 0), (1, 86, 87)), ((71, .sipush 240, 3, 0, 0, 0, 0), (0, 0, 0)), ((74, .aload_n 0, 1, 0, 0, 0, 0), (0, 0, 0)), ((75, .getfield 86, 3, 10, 39, 5152, 0), (1, 86, 112)), ((78, .iload 4, 2, 0, 0, 0, 0), (0, 0, 0)), ((80, .iaload, 1, 0, 0, 0, 0), (0, 112, 0)), ((81, .iadd, 1, 0, 0, 0, 0), (0, 0, 0)), ((82, .iaload, 1, 0, 0, 0, 0), (0, 87, 0))] (by decide +kernel) rfl ?_
    refine hx_cmp .ne 89 (by decide +kernel) (fun c2 => ?_) (fun c2 => ?_)
    · have c2 : (m 87 (gx_w (240 + (m 112 (x3).toNat))).toNat) ≠ (m 87 (gx_w (240 + (m 112 (x4).toNat))).toNat) := c2
      refine hx_blk (npc := 46) (L' := [(0, .inr (.inl 86)), (1, .inl x1), (2, .inl x2), (3, .inl x3), (4, .inl (gx_w (x4 + 1)))]) (st' := []) (m' := m) [((89, .iinc 4 1, 3, 0, 0, 0, 0), (0, 0, 0)), ((92, .goto (-46), 3, 0, 0, 0, 0), (0, 0, 0))] (by decide +kernel) rfl ?_
      exact hx_pick [0, 1, 2, 3, 4] (h2 c1 c2)
    · have c2 : (m 87 (gx_w (240 + (m 112 (x3).toNat))).toNat) = (m 87 (gx_w (240 + (m 112 (x4).toNat))).toNat) := by have h : ¬ ((m 87 (gx_w (240 + (m 112 (x3).toNat))).toNat) ≠ (m 87 (gx_w (240 + (m 112 (x4).toNat))).toNat)) := c2; omega
      refine hx_blk (npc := 88) (L' := [(0, .inr (.inl 86)), (1, .inl x1), (2, .inl x2), (3, .inl x3), (4, .inl x4)]) (st' := [.inl (-2)]) (m' := m) [((86, .bipush (-2), 2, 0, 0, 0, 0), (0, 0, 0))] (by decide +kernel) rfl ?_
      exact hx_reti (by decide +kernel) (h3 c1 c2)

/-- ring from 125 on -/
theorem hr248_125 {xs : List Int32} {n : Nat} {Q : hQ} {m : gx_M} {x1 x2 : Int}
    (h1 : (10 ≤ x2) → hxn xs n yp_m248 143 [(0, .inr (.inl 86)), (1, .inl x1), (3, .inl 0), (4, .inl 0)] [] m Q)
    (h2 : (x2 < 10) → Q (some (.inl (m 116 (x2).toNat))) m) : hxn xs (n + 1) yp_m248 125 [(0, .inr (.inl 86)), (1, .inl x1), (2, .inl x2)] [] m Q := by
  refine hx_blks (npc := 128) (L' := [(0, .inr (.inl 86)), (1, .inl x1), (2, .inl x2)]) (st' := [.inl 10, .inl x2]) (m' := m) ((125, .iload_n 2, 1, 0, 0, 0, 0), (0, 0, 0)) [((126, .bipush 10, 2, 0, 0, 0, 0), (0, 0, 0))] (by decide +kernel) rfl ?_
  refine hx_cmp .ge 138 (by decide +kernel) (fun c1 => ?_) (fun c1 => ?_)
  · have c1 : 10 ≤ x2 := c1
    refine hx_blk (npc := 143) (L' := [(0, .inr (.inl 86)), (1, .inl x1), (2, .inl x2), (3, .inl 0), (4, .inl 0)]) (st' := []) (m' := m) [((138, .iconst 0, 1, 0, 0, 0, 0), (0, 0, 0)), ((139, .istore_n 3, 1, 0, 0, 0, 0), (0, 0, 0)), ((140, .iconst 0, 1, 0, 0, 0, 0), (0, 0, 0)), ((141, .istore 4, 2, 0, 0, 0, 0), (0, 0, 0))] (by decide +kernel) rfl ?_
    exact hx_pick [0, 1, 3, 4] (h1 c1)
  · have c1 : x2 < 10 := by have h : ¬ (10 ≤ x2) := c1; omega
    refine hx_blk (npc := 137) (L' := [(0, .inr (.inl 86)), (1, .inl x1), (2, .inl x2)]) (st' := [.inl (m 116 (x2).toNat)]) (m' := m) [((131, .aload_n 0, 1, 0, 0, 0, 0), (0, 0, 0)), ((132, .getfield 98, 3, 10, 43, 5156, 0), (1, 86, 116)), ((135, .iload_n 2, 1, 0, 0, 0, 0), (0, 0, 0)), ((136, .iaload, 1, 0, 0, 0, 0), (0, 116, 0))] (by decide +kernel) rfl ?_
    exact hx_reti (by decide +kernel) (h2 c1)

/-- ring from 143 on -/
theorem hr248_143 {xs : List Int32} {n : Nat} {Q : hQ} {m : gx_M} {x1 x3 x4 : Int}
    (h1 : (x1 ≤ x4) → Q (some (.inl x3)) m)
    (h2 : (x4 < x1) → ((m 116 (x4).toNat) ≠ x4) → hxn xs n yp_m248 143 [(0, .inr (.inl 86)), (1, .inl x1), (3, .inl (gx_w (x3 + 1))), (4, .inl (gx_w (x4 + 1)))] [] m Q)
    (h3 : (x4 < x1) → ((m 116 (x4).toNat) = x4) → hxn xs n yp_m248 143 [(0, .inr (.inl 86)), (1, .inl x1), (3, .inl (gx_w (x3 + 0))), (4, .inl (gx_w (x4 + 1)))] [] m Q) : hxn xs (n + 1) yp_m248 143 [(0, .inr (.inl 86)), (1, .inl x1), (3, .inl x3), (4, .inl x4)] [] m Q := by
  refine hx_blks (npc := 146) (L' := [(0, .inr (.inl 86)), (1, .inl x1), (3, .inl x3), (4, .inl x4)]) (st' := [.inl x1, .inl x4]) (m' := m) ((143, .iload 4, 2, 0, 0, 0, 0), (0, 0, 0)) [((145, .iload_n 1, 1, 0, 0, 0, 0), (0, 0, 0))] (by decide +kernel) rfl ?_
  refine hx_cmp .ge 175 (by decide +kernel) (fun c1 => ?_) (fun c1 => ?_)
  · have c1 : x1 ≤ x4 := c1
    refine hx_blk (npc := 176) (L' := [(0, .inr (.inl 86)), (1, .inl x1), (3, .inl x3), (4, .inl x4)]) (st' := [.inl x3]) (m' := m) [((175, .iload_n 3, 1, 0, 0, 0, 0), (0, 0, 0))] (by decide +kernel) rfl ?_
    exact hx_reti (by decide +kernel) (h1 c1)
  · have c1 : x4 < x1 := by have h : ¬ (x1 ≤ x4) := c1; omega
    refine hx_blk (npc := 159) (L' := [(0, .inr (.inl 86)), (1, .inl x1), (3, .inl x3), (4, .inl x4)]) (st' := [.inl x4, .inl (m 116 (x4).toNat), .inl x3]) (m' := m) [((149, .iload_n 3, 1, 0, 0, 0, 0), (0, 0, 0)), ((150, .aload_n 0, 1, 0, 0, 0, 0), (0, 0, 0)), ((151, .getfield 98, 3, 10, 43, 5156, 0), (1, 86, 116)), ((154, .iload 4, 2, 0, 0, 0, 0), (0, 0, 0)), ((156, .iaload, 1, 0, 0, 0, 0), (0, 116, 0)), ((157, .iload 4, 2, 0, 0, 0, 0), (0, 0, 0))] (by decide +kernel) rfl ?_
    refine hx_cmp .ne 166 (by decide +kernel) (fun c2 => ?_) (fun c2 => ?_)
    · have c2 : (m 116 (x4).toNat) ≠ x4 := c2
      refine hx_blk (npc := 143) (L' := [(0, .inr (.inl 86)), (1, .inl x1), (3, .inl (gx_w (x3 + 1))), (4, .inl (gx_w (x4 + 1)))]) (st' := []) (m' := m) [((166, .iconst 1, 1, 0, 0, 0, 0), (0, 0, 0)), ((167, .iadd, 1, 0, 0, 0, 0), (0, 0, 0)), ((168, .istore_n 3, 1, 0, 0, 0, 0), (0, 0, 0)), ((169, .iinc 4 1, 3, 0, 0, 0, 0), (0, 0, 0)), ((172, .goto (-29), 3, 0, 0, 0, 0), (0, 0, 0))] (by decide +kernel) rfl ?_
      exact hx_pick [0, 1, 3, 4] (h2 c1 c2)
    · have c2 : (m 116 (x4).toNat) = x4 := by have h : ¬ ((m 116 (x4).toNat) ≠ x4) := c2; omega
      refine hx_blk (npc := 143) (L' := [(0, .inr (.inl 86)), (1, .inl x1), (3, .inl (gx_w (x3 + 0))), (4, .inl (gx_w (x4 + 1)))]) (st' := []) (m' := m) [((162, .iconst 0, 1, 0, 0, 0, 0), (0, 0, 0)), ((163, .goto 4, 3, 0, 0, 0, 0), (0, 0, 0)), ((167, .iadd, 1, 0, 0, 0, 0), (0, 0, 0)), ((168, .istore_n 3, 1, 0, 0, 0, 0), (0, 0, 0)), ((169, .iinc 4 1, 3, 0, 0, 0, 0), (0, 0, 0)), ((172, .goto (-29), 3, 0, 0, 0, 0), (0, 0, 0))] (by decide +kernel) rfl ?_
      exact hx_pick [0, 1, 3, 4] (h3 c1 c2)
end
section
/-! ring: what is wanted, and who stands in a ring -/
theorem pigeon : ∀ (n : Nat) (f : Nat → Nat), (∀ k, k ≤ n → f k < n) → ∃ a b, a < b ∧ b ≤ n ∧ f a = f b
  | 0, f, h => absurd (h 0 (Nat.le_refl _)) (Nat.not_lt_zero _)
  | n + 1, f, h => by
    rcases Classical.em (∃ k, k ≤ n ∧ f k = f (n + 1)) with ⟨k, hk, e⟩ | c
    · exact ⟨k, n + 1, by omega, Nat.le_refl _, e⟩
    · have hv := h (n + 1) (Nat.le_refl _)
      obtain ⟨a, b, h1, h2, h3⟩ := pigeon n (fun k => if f (n + 1) < f k then f k - 1 else f k) (fun k hk => by
        have a := h k (by omega)
        have b : f k ≠ f (n + 1) := fun e => c ⟨k, hk, e⟩
        show (if f (n + 1) < f k then f k - 1 else f k) < n
        split <;> omega)
      refine ⟨a, b, h1, by omega, ?_⟩
      have na : f a ≠ f (n + 1) := fun e => c ⟨a, by omega, e⟩
      have nb : f b ≠ f (n + 1) := fun e => c ⟨b, by omega, e⟩
      have h3 : (if f (n + 1) < f a then f a - 1 else f a) = (if f (n + 1) < f b then f b - 1 else f b) := h3
      split at h3 <;> split at h3 <;> omega
/-- so many steps on -/
def itw (w : Nat → Nat) : Nat → Nat → Nat
  | 0, i => i
  | t + 1, i => w (itw w t i)
theorem itw_add (w : Nat → Nat) (a : Nat) : ∀ b i, itw w (b + a) i = itw w b (itw w a i)
  | 0, i => by rw [Nat.zero_add]; rfl
  | b + 1, i => by
    have e : b + 1 + a = (b + a) + 1 := by omega
    rw [e]
    show w (itw w (b + a) i) = w (itw w b (itw w a i))
    rw [itw_add w a b i]
def inR (w : Nat → Nat) (i : Nat) : Prop := ∃ t, 1 ≤ t ∧ itw w t i = i
/-- a ring is no longer than there are places -/
theorem inR_n {w : Nat → Nat} {n i : Nat} (hw : ∀ t, itw w t i < n) (h : inR w i) : ∃ t, 1 ≤ t ∧ t ≤ n ∧ itw w t i = i := by
  obtain ⟨t, h1, h2⟩ := h
  induction t using Nat.strongRecOn with
  | ind t ih =>
    by_cases c : t ≤ n
    · exact ⟨t, h1, c, h2⟩
    · obtain ⟨a, b, q1, q2, q3⟩ := pigeon n (fun k => itw w k i) (fun k _ => hw k)
      have q3 : itw w a i = itw w b i := q3
      refine ih (t - b + a) (by omega) (by omega) ?_
      rw [itw_add, q3, ← itw_add]
      have e : t - b + b = t := by omega
      rw [e]
      exact h2
/-- somebody stands in a ring -/
theorem inR_some {w : Nat → Nat} {n i : Nat} (hw : ∀ t, itw w t i < n) : ∃ t, inR w (itw w t i) := by
  obtain ⟨a, b, q1, q2, q3⟩ := pigeon n (fun k => itw w k i) (fun k _ => hw k)
  have q3 : itw w a i = itw w b i := q3
  refine ⟨a, b - a, by omega, ?_⟩
  rw [← itw_add]
  have e : b - a + a = b := by omega
  rw [e, q3]
/-- the first that is worth the most -/
def wtS (V : Nat → Nat → Nat) (i L : Nat) : Nat → Int × Nat
  | 0 => (-1, i)
  | j + 1 => if L.testBit j = true ∧ (wtS V i L j).1 < (V i j : Int) then ((V i j : Int), j) else wtS V i L j
def wt (V : Nat → Nat → Nat) (L i : Nat) : Nat := (wtS V i L 8).2
theorem wtS_t {V : Nat → Nat → Nat} {i L j : Nat} (h : L.testBit j = true) (h2 : (wtS V i L j).1 < (V i j : Int)) : wtS V i L (j + 1) = ((V i j : Int), j) := if_pos ⟨h, h2⟩
theorem wtS_f {V : Nat → Nat → Nat} {i L j : Nat} (h : ¬ (L.testBit j = true ∧ (wtS V i L j).1 < (V i j : Int))) : wtS V i L (j + 1) = wtS V i L j := if_neg h
theorem wtS_in {V : Nat → Nat → Nat} {i L : Nat} : ∀ k, ((wtS V i L k).1 = -1 ∧ (wtS V i L k).2 = i ∧ ∀ j, j < k → L.testBit j = false) ∨ (0 ≤ (wtS V i L k).1 ∧ (wtS V i L k).2 < k ∧ L.testBit (wtS V i L k).2 = true ∧ (wtS V i L k).1 = (V i (wtS V i L k).2 : Int))
  | 0 => .inl ⟨rfl, rfl, fun j hj => absurd hj (Nat.not_lt_zero _)⟩
  | k + 1 => by
    have ih := wtS_in (V := V) (i := i) (L := L) k
    by_cases c : L.testBit k = true ∧ (wtS V i L k).1 < (V i k : Int)
    · rw [wtS_t c.1 c.2]
      exact .inr ⟨by show (0 : Int) ≤ (V i k : Int); omega, by show k < k + 1; omega, c.1, rfl⟩
    · rw [wtS_f c]
      rcases ih with ⟨a, b, d⟩ | ⟨a, b, d, e⟩
      · refine .inl ⟨a, b, fun j hj => ?_⟩
        by_cases q : j = k
        · rw [q, Bool.eq_false_iff]
          intro z
          exact c ⟨z, by omega⟩
        · exact d j (by omega)
      · exact .inr ⟨a, by omega, d, e⟩
theorem wt_in {V : Nat → Nat → Nat} {i L : Nat} (h8 : i < 8) (hi : L.testBit i = true) : wt V L i < 8 ∧ L.testBit (wt V L i) = true := by
  rcases wtS_in (V := V) (i := i) (L := L) 8 with ⟨-, -, d⟩ | ⟨-, b, d, -⟩
  · rw [d i h8] at hi
    cases hi
  · exact ⟨b, d⟩
theorem itw_in {V : Nat → Nat → Nat} {i L : Nat} (h8 : i < 8) (hi : L.testBit i = true) : ∀ t, itw (wt V L) t i < 8 ∧ L.testBit (itw (wt V L) t i) = true
  | 0 => ⟨h8, hi⟩
  | t + 1 => by
    obtain ⟨a, b⟩ := itw_in (V := V) h8 hi t
    exact wt_in a b
/-- who goes in a round, as a mask -/
noncomputable def goM (V : Nat → Nat → Nat) (L : Nat) : Nat → Nat
  | 0 => 0
  | i + 1 => @ite _ (L.testBit i = true ∧ inR (wt V L) i) (Classical.propDecidable _) (goM V L i ||| 2 ^ i) (goM V L i)
theorem goM_t {V : Nat → Nat → Nat} {L i : Nat} (h : L.testBit i = true) (h2 : inR (wt V L) i) : goM V L (i + 1) = goM V L i ||| 2 ^ i := if_pos ⟨h, h2⟩
theorem goM_f {V : Nat → Nat → Nat} {L i : Nat} (h : ¬ (L.testBit i = true ∧ inR (wt V L) i)) : goM V L (i + 1) = goM V L i := if_neg h
theorem goM_bit {V : Nat → Nat → Nat} {L : Nat} : ∀ k j, (goM V L k).testBit j = true ↔ j < k ∧ L.testBit j = true ∧ inR (wt V L) j
  | 0, j => by
    show Nat.testBit 0 j = true ↔ _
    rw [Nat.zero_testBit]
    exact ⟨fun h => (nomatch h), fun h => absurd h.1 (Nat.not_lt_zero _)⟩
  | k + 1, j => by
    have ih := goM_bit (V := V) (L := L) k j
    rcases Classical.em (L.testBit k = true ∧ inR (wt V L) k) with c | c
    · rw [goM_t c.1 c.2, Nat.testBit_or, Nat.testBit_two_pow, Bool.or_eq_true, decide_eq_true_eq, ih]
      constructor
      · rintro (⟨a, b⟩ | e)
        · exact ⟨by omega, b⟩
        · rw [← e]
          exact ⟨by omega, c⟩
      · rintro ⟨a, b⟩
        by_cases e : k = j
        · exact .inr e
        · exact .inl ⟨by omega, b⟩
    · rw [goM_f c, ih]
      constructor
      · rintro ⟨a, b⟩
        exact ⟨by omega, b⟩
      · rintro ⟨a, b⟩
        by_cases e : k = j
        · rw [← e] at b
          exact absurd b c
        · exact ⟨by omega, b⟩
theorem goM_lt {V : Nat → Nat → Nat} {L : Nat} : ∀ k, k ≤ 8 → goM V L k < 256
  | 0, _ => by show 0 < 256; decide
  | k + 1, h => by
    have ih := goM_lt (V := V) (L := L) k (by omega)
    rcases Classical.em (L.testBit k = true ∧ inR (wt V L) k) with c | c
    · rw [goM_t c.1 c.2]
      exact Nat.or_lt_two_pow (n := 8) ih (p2_lt (by omega))
    · rw [goM_f c]
      exact ih
/-- who is there before a round -/
noncomputable def Lr (V : Nat → Nat → Nat) (n : Nat) : Nat → Nat
  | 0 => 2 ^ n - 1
  | r + 1 => cmpl (Lr V n r) (goM V (Lr V n r) 8)
theorem Lr_lt {V : Nat → Nat → Nat} {n : Nat} (hn : n ≤ 8) : ∀ r, Lr V n r < 256
  | 0 => by
    have : 2 ^ n ≤ 2 ^ 8 := Nat.pow_le_pow_right (by decide) hn
    show 2 ^ n - 1 < 256
    omega
  | r + 1 => cmpl_lt (Lr_lt hn r)
theorem Lr_bit {V : Nat → Nat → Nat} {n r j : Nat} (hj : j < 8) : (Lr V n (r + 1)).testBit j = true ↔ (Lr V n r).testBit j = true ∧ ¬ inR (wt V (Lr V n r)) j := by
  show (cmpl (Lr V n r) (goM V (Lr V n r) 8)).testBit j = true ↔ _
  rw [cmpl_bit (goM_lt 8 (Nat.le_refl _)) (by omega), Bool.and_eq_true, Bool.not_eq_true', Bool.eq_false_iff, ne_eq, goM_bit]
  constructor
  · rintro ⟨a, b⟩
    exact ⟨a, fun q => b ⟨hj, a, q⟩⟩
  · rintro ⟨a, b⟩
    exact ⟨a, fun q => b q.2.2⟩
theorem Lr_n {V : Nat → Nat → Nat} {n : Nat} (hn : n ≤ 8) : ∀ r j, (Lr V n r).testBit j = true → j < n
  | 0, j, h => by
    have h : (2 ^ n - 1).testBit j = true := h
    rw [Nat.testBit_two_pow_sub_one, decide_eq_true_eq] at h
    exact h
  | r + 1, j, h => by
    rcases Nat.lt_or_ge j 8 with q | q
    · exact Lr_n hn r j ((Lr_bit q).mp h).1
    · rw [bit8 (Lr_lt hn (r + 1)) q] at h
      cases h
/-- each round somebody goes -/
theorem Lr_less {V : Nat → Nat → Nat} {n r : Nat} (hn : n ≤ 8) (h : Lr V n r ≠ 0) : hcnt (fun j => (Lr V n (r + 1)).testBit j) 8 + 1 ≤ hcnt (fun j => (Lr V n r).testBit j) 8 := by
  have l := Lr_lt (V := V) hn r
  obtain ⟨i, hi⟩ : ∃ i, (Lr V n r).testBit i = true := by
    rcases Classical.em (∃ i, (Lr V n r).testBit i = true) with q | q
    · exact q
    · exact absurd (Nat.eq_of_testBit_eq (fun j => by
        rw [Nat.zero_testBit, Bool.eq_false_iff]
        exact fun z => q ⟨j, z⟩)) h
  have i8 : i < 8 := by
    have := Lr_n hn r i hi
    omega
  have it := itw_in (V := V) i8 hi
  obtain ⟨t, ht⟩ := inR_some (n := 8) (fun t => (it t).1)
  refine hcnt_less (p := itw (wt V (Lr V n r)) t i) 8 (fun q hq hb => ((Lr_bit hq).mp hb).1) (it t).1 (it t).2 ?_
  rw [Bool.eq_false_iff]
  exact fun z => ((Lr_bit (it t).1).mp z).2 ht
theorem Lr_cnt {V : Nat → Nat → Nat} {n : Nat} (hn : n ≤ 8) : ∀ r, Lr V n r = 0 ∨ hcnt (fun j => (Lr V n r).testBit j) 8 + r ≤ 8
  | 0 => .inr (by
    have := hcnt_le (fun j => (Lr V n 0).testBit j) 8
    omega)
  | r + 1 => by
    rcases Classical.em (Lr V n r = 0) with z | z
    · refine .inl ?_
      show cmpl (Lr V n r) (goM V (Lr V n r) 8) = 0
      rw [z]
      exact Nat.zero_and _
    · rcases Lr_cnt (V := V) hn r with q | q
      · exact absurd q z
      · have := Lr_less (V := V) hn z
        exact .inr (by omega)
theorem Lr_8 {V : Nat → Nat → Nat} {n : Nat} (hn : n ≤ 8) : Lr V n 8 = 0 := by
  rcases Lr_cnt (V := V) hn 8 with q | q
  · exact q
  · have z : hcnt (fun j => (Lr V n 8).testBit j) 8 = 0 := by omega
    refine Nat.eq_of_testBit_eq (fun j => ?_)
    rw [Nat.zero_testBit]
    rcases Nat.lt_or_ge j 8 with h | h
    · rw [Bool.eq_false_iff]
      intro t
      have := hcnt_less (f := fun _ => false) (g := fun j => (Lr V n 8).testBit j) (p := j) 8 (fun _ _ k => by cases k) h t rfl
      omega
    · exact bit8 (Lr_lt hn 8) h
/-- what one gets in the end -/
noncomputable def gEn (V : Nat → Nat → Nat) (n : Nat) : Nat → Nat → Nat
  | 0, _ => 0
  | r + 1, i => if (Lr V n r).testBit i = true then wt V (Lr V n r) i else gEn V n r i
theorem gEn_t {V : Nat → Nat → Nat} {n r i : Nat} (h : (Lr V n r).testBit i = true) : gEn V n (r + 1) i = wt V (Lr V n r) i := if_pos h
theorem gEn_f {V : Nat → Nat → Nat} {n r i : Nat} (h : ¬ (Lr V n r).testBit i = true) : gEn V n (r + 1) i = gEn V n r i := if_neg h
end
section
/-! ring, by the class -/
theorem wtS_cut {V : Nat → Nat → Nat} {i L n : Nat} (h : ∀ j, L.testBit j = true → j < n) : ∀ d, wtS V i L (n + d) = wtS V i L n
  | 0 => rfl
  | d + 1 => by
    have e : n + (d + 1) = n + d + 1 := rfl
    rw [e, wtS_f (fun q => by have := h _ q.1; omega)]
    exact wtS_cut h d
theorem goM_cut {V : Nat → Nat → Nat} {L n : Nat} (h : ∀ j, L.testBit j = true → j < n) : ∀ d, goM V L (n + d) = goM V L n
  | 0 => rfl
  | d + 1 => by
    have e : n + (d + 1) = n + d + 1 := rfl
    rw [e, goM_f (fun q => by have := h _ q.1; omega)]
    exact goM_cut h d
theorem gEn_st {V : Nat → Nat → Nat} {n r i : Nat} (h : Lr V n r = 0) : ∀ d, Lr V n (r + d) = 0 ∧ gEn V n (r + d) i = gEn V n r i
  | 0 => ⟨h, rfl⟩
  | d + 1 => by
    obtain ⟨a, b⟩ := gEn_st (i := i) h d
    have e : r + (d + 1) = r + d + 1 := rfl
    rw [e]
    refine ⟨?_, ?_⟩
    · show cmpl (Lr V n (r + d)) (goM V (Lr V n (r + d)) 8) = 0
      rw [a]
      exact Nat.zero_and _
    · rw [gEn_f (by rw [a, Nat.zero_testBit]; decide)]
      exact b
theorem gEn_8 {V : Nat → Nat → Nat} {n r i : Nat} (h : Lr V n r = 0) (hr : r ≤ 8) : gEn V n 8 i = gEn V n r i := by
  have e : r + (8 - r) = 8 := by omega
  have := (gEn_st (V := V) (n := n) (i := i) h (8 - r)).2
  rw [e] at this
  exact this
def vR (W : (Int → Int) → Int → Option Int) (s T : Nat → Int) (i j : Nat) : Nat := (lClip 999 (W (env1 s (T j).toNat (oW s T i) 0) 118)).toNat
theorem vR_le {W : (Int → Int) → Int → Option Int} {s T : Nat → Int} (i j : Nat) : vR W s T i j ≤ 999 := by
  have := lClip_999 (W (env1 s (T j).toNat (oW s T i) 0) 118)
  unfold vR
  omega
theorem vR_eq {W : (Int → Int) → Int → Option Int} {s T : Nat → Int} {i j : Nat} : lClip 999 (W (env1 s (T j).toNat (oW s T i) 0) 118) = ((vR W s T i j : Nat) : Int) := (Int.toNat_of_nonneg (lClip_999 _).1).symm
def mO (ow : Nat → Int) : Nat → Nat
  | 0 => 0
  | i + 1 => mO ow i ||| 2 ^ (ow i).toNat
def owDs (ow : Nat → Int) (k : Nat) : Prop := ∀ i j, i < k → j < i → ow j ≠ ow i
section TU
variable {xs : List Int32} {n : Nat} {Q : hQ} {m m0 : gx_M} {s T : Nat → Int} {N : Nat} {W : (Int → Int) → Int → Option Int} {V : Nat → Nat → Nat} {ow : Nat → Int}
theorem mO_bit {q : Nat} : ∀ i, (mO ow i).testBit q = true ↔ ∃ j, j < i ∧ (ow j).toNat = q
  | 0 => by
    show Nat.testBit 0 q = true ↔ _
    rw [Nat.zero_testBit]
    exact ⟨fun h => (nomatch h), fun ⟨j, h, _⟩ => absurd h (Nat.not_lt_zero _)⟩
  | i + 1 => by
    show (mO ow i ||| 2 ^ (ow i).toNat).testBit q = true ↔ _
    rw [Nat.testBit_or, Nat.testBit_two_pow, Bool.or_eq_true, decide_eq_true_eq, mO_bit i]
    constructor
    · rintro (⟨j, a, b⟩ | e)
      · exact ⟨j, by omega, b⟩
      · exact ⟨i, by omega, e⟩
    · rintro ⟨j, a, b⟩
      by_cases e : j = i
      · rw [e] at b
        exact .inr b
      · exact .inl ⟨j, by omega, b⟩
theorem mO_lt (h : ∀ j, j < N → 0 ≤ ow j ∧ ow j ≤ 7) : ∀ i, i ≤ N → mO ow i < 256
  | 0, _ => by show 0 < 256; decide
  | i + 1, hi => by
    have a := h i (by omega)
    exact Nat.or_lt_two_pow (n := 8) (mO_lt h i (by omega)) (p2_lt (by omega))
theorem oW_bd (hs : sOK s) (hR : rwOk s T N) {i : Nat} (hi : i < N) : 0 ≤ oW s T i ∧ oW s T i ≤ 7 := by
  obtain ⟨Y, eY, hY, -, -⟩ := rwOk_nat hR hi
  unfold oW
  rw [eY, Int.toNat_natCast]
  exact hs.own Y hY
theorem c111r (hB : sBk 5 s m) (hR : rwOk s T N) {i : Nat} (hi : i < N) (hN : N ≤ 8) (x2 : m 82 i = T i) (h : Q (some (.inl (oW s T i))) m) : hxn xs n yp_m111 0 [(0, .inr (.inl 81)), (1, .inr (.inl 5)), (2, .inl (i : Int))] [] m Q := by
  obtain ⟨Y, eY, hY, ht, -⟩ := rwOk_nat hR hi
  have e : m 82 ((i : Int)).toNat = (Y : Int) := by rw [Int.toNat_natCast, x2, eY]
  unfold oW at h
  rw [eY, Int.toNat_natCast] at h
  refine hx_dn (hr111_0 (fun c => absurd c (by omega)) (fun _ c => absurd c (by omega)) (fun _ _ _ => ?_) (fun _ _ c => absurd (by rw [e]; exact (cY_iff hB hY).mpr ht) c))
  rw [e, Int.toNat_natCast, sB5_own hB Y hY]
  exact h
theorem c121 (hs : sOK s) (hB : sBk 5 s m0) (hN : N ≤ 8) (x1 : m0 3 1 = (N : Int)) (x2 : ∀ k, k < N → m0 4 k = T k) (h1 : ∀ m', cRf m0 m' → m' 81 1 = (N : Int) → (∀ i, i < N → m' 82 i = T i) → rwOk s T N → owDs (oW s T) N → Q (some (.inl 1)) m') (h0 : ∀ m', cRf m0 m' → ¬ (rwOk s T N ∧ owDs (oW s T) N) → Q (some (.inl 0)) m') : hxn xs n yp_m121 0 [(0, .inr (.inl 81)), (1, .inr (.inl 5)), (2, .inr (.inl 3))] [] m0 Q := by
  refine hx_dn (hr121_0 (c109 hs hB hN x1 x2 (fun m1 f g1 g2 g3 => hx_dn (hr121_6 (fun _ => ?_) (fun c => absurd c (by decide)))) (fun m1 f k => hx_dn (hr121_6 (fun c => absurd rfl c) (fun _ => h0 m1 f (fun q => k q.1))))))
  have bo : ∀ j, j < N → 0 ≤ oW s T j ∧ oW s T j ≤ 7 := fun j hj => oW_bd hs g3 hj
  refine hloop (N := N) (P := fun i => owDs (oW s T) i → hxn xs n yp_m121 16 [(0, .inr (.inl 81)), (1, .inr (.inl 5)), (3, .inl ((mO (oW s T) i : Nat) : Int)), (4, .inl (i : Int))] [] m1 Q) (fun q => hx_dn (hr121_16 (fun _ => h1 m1 f g1 g2 g3 q) (fun c => absurd c (by omega)) (fun c => absurd c (by omega)))) (fun i hi ih q => ?_) 0 (Nat.zero_le _) (fun i j hi => absurd hi (Nat.not_lt_zero _))
  have bb := bo i hi
  have l := mO_lt bo i (by omega)
  obtain ⟨O, hO⟩ : ∃ O : Nat, oW s T i = (O : Int) := ⟨(oW s T i).toNat, by omega⟩
  refine hx_dn (hr121_16 (fun c => absurd c (by omega)) (fun _ c => absurd c (by omega)) (fun _ _ => c111r (cRf_B f hB) g3 hi hN (g2 i hi) ?_))
  rw [hO]
  have et := hibit (X := mO (oW s T) i) (y := O) (by omega) (by omega)
  refine hx_dn (hr121_39 (fun c => ?_) (fun c => ?_))
  · have nb : ¬ (mO (oW s T) i).testBit O = true := fun z => by
      rw [et, if_pos z] at c
      cases c
    have p2 := p2_lt (P := O) (by omega)
    rw [ew_u (by omega), hshl_one O (by omega), hor_nat (by omega) (by omega)]
    have e : mO (oW s T) i ||| 2 ^ O = mO (oW s T) (i + 1) := by
      show _ = mO (oW s T) i ||| 2 ^ (oW s T i).toNat
      rw [hO, Int.toNat_natCast]
    rw [e]
    refine ih (fun a c2 ha hb => ?_)
    by_cases z : a = i
    · subst z
      intro k
      refine nb ((mO_bit a).mpr ⟨c2, hb, ?_⟩)
      rw [k, hO, Int.toNat_natCast]
    · exact q a c2 (by omega) hb
  · have tb : (mO (oW s T) i).testBit O = true := by
      rw [et] at c
      split at c
      · assumption
      · exact absurd rfl c
    obtain ⟨j, hj, ej⟩ := (mO_bit i).mp tb
    have bj := bo j (by omega)
    exact h0 m1 f (fun k => k.2 i j hi hj (by omega))
theorem c122v (hL : lawR xs W m0) (hs : sOK s) (hB : sBk 5 s m0) (hN : N ≤ 8) (x1 : m0 81 1 = (N : Int)) (x2 : ∀ i, i < N → m0 82 i = T i) (hR : rwOk s T N) (h : ∀ m', cVf m0 m' → (∀ i j, i < N → j < N → m' 83 (8 * i + j) = ((vR W s T i j : Nat) : Int)) → hxn xs n yp_m122 96 [(0, .inr (.inl 81)), (3, .inl ((2 ^ N - 1 : Nat) : Int)), (4, .inl 0)] [] m' Q) : hxn xs n yp_m122 0 [(0, .inr (.inl 81)), (1, .inr (.inl 5)), (2, .inr (.inl 44))] [] m0 Q := by
  refine hx_dn (hr122_0 ?_)
  have p1 : 1 ≤ 2 ^ N := Nat.one_le_two_pow
  have p256 : 2 ^ N ≤ 2 ^ 8 := Nat.pow_le_pow_right (by decide) hN
  refine hloop (N := N) (P := fun i => ∀ m1 : gx_M, cVf m0 m1 → (∀ a j, a < i → j < N → m1 83 (8 * a + j) = ((vR W s T a j : Nat) : Int)) → hxn xs n yp_m122 2 [(0, .inr (.inl 81)), (1, .inr (.inl 5)), (2, .inr (.inl 44)), (3, .inl (i : Int))] [] m1 Q) (fun m1 f g => ?_) (fun i hi ih m1 f g => ?_) 0 (Nat.zero_le _) m0 (fun _ _ _ _ _ _ _ => rfl) (fun a p ha => absurd ha (Nat.not_lt_zero _))
  · have e : m1 81 1 = (N : Int) := by rw [f 81 1 (by decide) (by decide) (by decide) (by decide) (by decide)]; exact x1
    refine hx_dn (hr122_2 (fun _ => ?_) (fun c => absurd c (by omega)) (fun c => absurd c (by omega)))
    have e2 : gx_w ((gx_shl 1 (m1 81 1)) - 1) = ((2 ^ N - 1 : Nat) : Int) := by
      rw [e, hshl_one N (by omega), gx_w_id (by omega) (by omega)]
      omega
    rw [e2]
    exact h m1 f g
  · have e81 : ∀ M : gx_M, cVf m0 M → M 81 1 = (N : Int) := fun M fM => by
      rw [fM 81 1 (by decide) (by decide) (by decide) (by decide) (by decide)]
      exact x1
    have e82 : ∀ (M : gx_M) (j : Nat), j < N → cVf m0 M → M 82 j = T j := fun M j hj fM => by
      rw [fM 82 j (by decide) (by omega) (by decide) (by decide) (by decide)]
      exact x2 j hj
    have e := e81 m1 f
    refine hx_dn (hr122_2 (fun c => absurd c (by omega)) (fun _ c => absurd c (by omega)) (fun _ _ => c111r (cVf_B f hB) hR hi hN (e82 m1 i hi f) (hx_dn (hr122_22 ?_))))
    refine hloop (N := N) (P := fun j => ∀ m2 : gx_M, cVf m0 m2 → (∀ a b, a < i → b < N → m2 83 (8 * a + b) = ((vR W s T a b : Nat) : Int)) → (∀ b, b < j → m2 83 (8 * i + b) = ((vR W s T i b : Nat) : Int)) → hxn xs n yp_m122 27 [(0, .inr (.inl 81)), (1, .inr (.inl 5)), (2, .inr (.inl 44)), (3, .inl (i : Int)), (4, .inl (oW s T i)), (5, .inl (j : Int))] [] m2 Q) (fun m2 f2 k1 k2 => ?_) (fun j hj ih2 m2 f2 k1 k2 => ?_) 0 (Nat.zero_le _) m1 f g (fun b hb => absurd hb (Nat.not_lt_zero _))
    · have e2 := e81 m2 f2
      refine hx_dn (hr122_27 (fun _ => ?_) (fun c => absurd c (by omega)) (fun c => absurd c (by omega)))
      rw [ew_u (by omega)]
      refine ih m2 f2 (fun a b ha hb => ?_)
      by_cases q : a = i
      · rw [q]
        exact k2 b hb
      · exact k1 a b (by omega) hb
    · have e2 := e81 m2 f2
      have hB2 := cVf_B f2 hB
      obtain ⟨Y, eY, hY, ht, -⟩ := rwOk_nat hR hj
      have bo := oW_bd hs hR hi
      refine hx_dn (hr122_27 (fun c => absurd c (by omega)) (fun _ c => absurd c (by omega)) (fun _ _ => ?_))
      rw [Int.toNat_natCast, e82 m2 j hj f2, eY]
      refine cAm1 (.inl rfl) (by decide) (cVf_L f2 hL) hs hB2 hY (by omega) (fun m3 f3 => hx_dn (hr122_71 ?_))
      have e118 : lHi 118 = 999 := by decide
      rw [e118, gw8 (by omega) (by omega), ew_u (by omega)]
      refine ih2 _ (fun c k a b d1 d2 d3 => by rw [gx_u_ne (by omega), f3 c k a b]; exact f2 c k a b d1 d2 d3) (fun a b ha hb => ?_) (fun b hb => ?_)
      · rw [gx_u_ne (by omega), f3 83 _ (by decide) (by omega)]
        exact k1 a b ha hb
      · by_cases q : b = j
        · rw [q, gx_u_self, ← vR_eq, eY, Int.toNat_natCast]
        · rw [gx_u_ne (by omega), f3 83 _ (by decide) (by omega)]
          exact k2 b (by omega)
def rgV (V : Nat → Nat → Nat) (N : Nat) (m : gx_M) : Prop := ∀ i j, i < N → j < N → m 83 (8 * i + j) = ((V i j : Nat) : Int)
theorem c124 {i L : Nat} (hN : N ≤ 8) (hi : i < N) (hL : L < 256) (hb : ∀ j, L.testBit j = true → j < N) (hv : rgV V N m) (h : Q (some (.inl ((wt V L i : Nat) : Int))) m) : hxn xs n yp_m124 0 [(0, .inr (.inl 81)), (1, .inl (i : Int)), (2, .inl (L : Int))] [] m Q := by
  refine hx_dn (hr124_0 (fun c => absurd c (by omega)) (fun _ _ => ?_) (fun _ c => absurd c (by omega)))
  refine hloop (N := 8) (P := fun j => hxn xs n yp_m124 20 [(0, .inr (.inl 81)), (1, .inl (i : Int)), (2, .inl (L : Int)), (3, .inl (wtS V i L j).1), (4, .inl (((wtS V i L j).2 : Nat) : Int)), (5, .inl (j : Int))] [] m Q) (hx_dn (hr124_20 (fun _ => h) (fun c => absurd c (by decide)) (fun c => absurd c (by decide)) (fun c => absurd c (by decide)))) (fun j hj ih => ?_) 0 (Nat.zero_le _)
  have et := hibit (X := L) (y := j) (by omega) (by omega)
  have tb : (gx_and (gx_shr (L : Int) (j : Int)) 1) ≠ 0 → L.testBit j = true := fun c => by
    rw [et] at c
    split at c
    · assumption
    · exact absurd rfl c
  refine hx_dn (hr124_20 (fun c => absurd c (by omega)) (fun _ c => ?_) (fun _ c d => ?_) (fun _ c d => ?_))
  · rw [wtS_f (fun q => by rw [et, if_pos q.1] at c; cases c)] at ih
    rw [ew_u (by omega)]
    exact ih
  · have b := tb c
    have jn := hb j b
    rw [gw8 (by omega) hj, hv i j hi jn] at d ⊢
    rw [wtS_t b d] at ih
    rw [ew_u (by omega)]
    exact ih
  · have b := tb c
    have jn := hb j b
    rw [gw8 (by omega) hj, hv i j hi jn] at d
    rw [wtS_f (fun q => by have := q.2; omega)] at ih
    rw [ew_u (by omega)]
    exact ih
theorem c125 {i L : Nat} (hi8 : i < 8) (hi : L.testBit i = true) (hg : ∀ j, j < 8 → L.testBit j = true → m 85 j = ((wt V L j : Nat) : Int)) (h1 : inR (wt V L) i → Q (some (.inl 1)) m) (h0 : ¬ inR (wt V L) i → Q (some (.inl 0)) m) : hxn xs n yp_m125 0 [(0, .inr (.inl 81)), (1, .inl (i : Int))] [] m Q := by
  have it := itw_in (V := V) hi8 hi
  have hl := hloop (N := 8) (P := fun t => (∀ t', 1 ≤ t' → t' ≤ t → itw (wt V L) t' i ≠ i) → hxn xs n yp_m125 4 [(0, .inr (.inl 81)), (1, .inl (i : Int)), (2, .inl ((itw (wt V L) t i : Nat) : Int)), (3, .inl (t : Int))] [] m Q) (fun q => hx_dn (hr125_4 (fun _ => h0 (fun z => ?_)) (fun c => absurd c (by decide)) (fun c => absurd c (by decide)) (fun c => absurd c (by decide)) (fun c => absurd c (by decide)))) (fun t ht ih q => ?_) 0 (Nat.zero_le _) (fun t' a b => by omega)
  · exact hx_dn (hr125_0 hl)
  · obtain ⟨t, a, b, e⟩ := inR_n (n := 8) (fun t => (it t).1) z
    exact q t a b e
  · have k := it t
    have e := hg _ k.1 k.2
    refine hx_dn (hr125_4 (fun c => absurd c (by omega)) (fun _ c => absurd c (by omega)) (fun _ _ _ c => ?_) (fun _ _ _ c => ?_) (fun _ _ c => absurd c (by omega)))
    · rw [Int.toNat_natCast, e] at c ⊢
      rw [ew_u (by omega)]
      refine ih (fun t' a b => ?_)
      by_cases z : t' = t + 1
      · rw [z]
        show wt V L (itw (wt V L) t i) ≠ i
        omega
      · exact q t' a (by omega)
    · rw [Int.toNat_natCast, e] at c
      refine h1 ⟨t + 1, by omega, ?_⟩
      show wt V L (itw (wt V L) t i) = i
      omega
end TU
end
section
/-! ring, by the class: rounds -/
section TV
variable {xs : List Int32} {n : Nat} {Q : hQ} {m m0 : gx_M} {N : Nat} {V : Nat → Nat → Nat}
theorem c123 {L : Nat} (hN : N ≤ 8) (hL : L < 256) (hb : ∀ j, L.testBit j = true → j < N) (hv : rgV V N m0) (h : ∀ m', (∀ c, c ≠ 85 → m' c = m0 c) → (∀ j, j < 8 → L.testBit j = true → m' 85 j = ((wt V L j : Nat) : Int)) → (∀ j, ¬ L.testBit j = true → m' 85 j = m0 85 j) → Q (some (.inl ((goM V L 8 : Nat) : Int))) m') : hxn xs n yp_m123 0 [(0, .inr (.inl 81)), (1, .inl (L : Int))] [] m0 Q := by
  refine hx_dn (hr123_0 ?_)
  have tb : ∀ {i : Nat}, i < 8 → (gx_and (gx_shr (L : Int) (i : Int)) 1) ≠ 0 → L.testBit i = true := fun {i} hi c => by
    rw [hibit (X := L) (y := i) (by omega) (by omega)] at c
    split at c
    · assumption
    · exact absurd rfl c
  have fb : ∀ {i : Nat}, i < 8 → (gx_and (gx_shr (L : Int) (i : Int)) 1) = 0 → ¬ L.testBit i = true := fun {i} hi c z => by
    rw [hibit (X := L) (y := i) (by omega) (by omega), if_pos z] at c
    cases c
  refine hloop (N := 8) (P := fun i => ∀ m1 : gx_M, (∀ c, c ≠ 85 → m1 c = m0 c) → (∀ j, j < i → L.testBit j = true → m1 85 j = ((wt V L j : Nat) : Int)) → (∀ j, ¬ L.testBit j = true → m1 85 j = m0 85 j) → hxn xs n yp_m123 2 [(0, .inr (.inl 81)), (1, .inl (L : Int)), (2, .inl (i : Int))] [] m1 Q) (fun m1 f g1 g2 => ?_) (fun i hi ih m1 f g1 g2 => ?_) 0 (Nat.zero_le _) m0 (fun _ _ => rfl) (fun j hj => absurd hj (Nat.not_lt_zero _)) (fun _ _ => rfl)
  · refine hx_dn (hr123_2 (fun _ => ?_) (fun c => absurd c (by decide)) (fun c => absurd c (by decide)))
    refine hloop (N := 8) (P := fun i => hxn xs n yp_m123 38 [(0, .inr (.inl 81)), (1, .inl (L : Int)), (2, .inl ((goM V L i : Nat) : Int)), (3, .inl (i : Int))] [] m1 Q) (hx_dn (hr123_38 (fun _ => h m1 f g1 g2) (fun c => absurd c (by decide)) (fun c => absurd c (by decide)))) (fun i hi ih => ?_) 0 (Nat.zero_le _)
    have gl := goM_lt (V := V) (L := L) i (by omega)
    refine hx_dn (hr123_38 (fun c => absurd c (by omega)) (fun _ c => ?_) (fun _ c => ?_))
    · rw [goM_f (fun q => fb hi c q.1)] at ih
      rw [ew_u (by omega)]
      exact ih
    · have b := tb hi c
      refine c125 hi b g1 (fun z => ?_) (fun z => ?_)
      · refine hx_dn (hr123_57 (fun c => absurd c (by decide)) (fun _ => ?_))
        rw [goM_t b z] at ih
        have p2 := p2_lt hi
        rw [ew_u (by omega), hshl_one i (by omega), hor_nat (by omega) (by omega)]
        exact ih
      · refine hx_dn (hr123_57 (fun _ => ?_) (fun c => absurd rfl c))
        rw [goM_f (fun q => z q.2)] at ih
        rw [ew_u (by omega)]
        exact ih
  · refine hx_dn (hr123_2 (fun c => absurd c (by omega)) (fun _ c => ?_) (fun _ c => ?_))
    · rw [ew_u (by omega)]
      refine ih m1 f (fun j hj hb => ?_) g2
      by_cases z : j = i
      · rw [z] at hb
        exact absurd hb (fb hi c)
      · exact g1 j (by omega) hb
    · have b := tb hi c
      have hv1 : rgV V N m1 := fun a b ha hb => by
        rw [f 83 (by decide)]
        exact hv a b ha hb
      refine c124 hN (hb i b) hL hb hv1 (hx_dn (hr123_27 ?_))
      rw [ew_u (by omega), Int.toNat_natCast]
      refine ih _ (fun c hc => by rw [gx_u_off hc]; exact f c hc) (fun j hj hb => ?_) (fun j hj => ?_)
      · by_cases z : j = i
        · rw [z, gx_u_self]
        · rw [gx_u_ne (by omega)]
          exact g1 j (by omega) hb
      · rw [gx_u_ne (fun z => hj (by rw [z.2]; exact b))]
        exact g2 j hj
theorem c122t (hN : 1 ≤ N ∧ N ≤ 8) (hv : rgV V N m0) (h : ∀ m', (∀ c, c ≠ 85 → m' c = m0 c) → (∀ i, i < N → m' 85 i = ((gEn V N 8 i : Nat) : Int)) → Q none m') : hxn xs n yp_m122 96 [(0, .inr (.inl 81)), (3, .inl ((2 ^ N - 1 : Nat) : Int)), (4, .inl 0)] [] m0 Q := by
  have e0 : 2 ^ N - 1 = Lr V N 0 := rfl
  rw [e0]
  refine hloop (N := 8) (P := fun r => ∀ m1 : gx_M, (∀ c, c ≠ 85 → m1 c = m0 c) → (1 ≤ r → ∀ i, i < N → m1 85 i = ((gEn V N r i : Nat) : Int)) → hxn xs n yp_m122 96 [(0, .inr (.inl 81)), (3, .inl ((Lr V N r : Nat) : Int)), (4, .inl (r : Int))] [] m1 Q) (fun m1 f g => hx_dn (hr122_96 (fun _ => h m1 f (g (by decide))) (fun c => absurd c (by decide)) (fun c => absurd c (by decide)))) (fun r hr ih m1 f g => ?_) 0 (Nat.zero_le _) m0 (fun _ _ => rfl) (fun c => absurd c (by decide))
  have ll := Lr_lt (V := V) hN.2 r
  refine hx_dn (hr122_96 (fun c => absurd c (by omega)) (fun _ c => ?_) (fun _ c => ?_))
  · have z : Lr V N r = 0 := by omega
    refine h m1 f (fun i hi => ?_)
    rw [gEn_8 z (by omega)]
    refine g ?_ i hi
    rcases Nat.eq_zero_or_pos r with q | q
    · rw [q] at z
      have z : 2 ^ N - 1 = 0 := z
      have : 2 ^ 1 ≤ 2 ^ N := Nat.pow_le_pow_right (by decide) hN.1
      omega
    · exact q
  · refine c123 hN.2 ll (Lr_n hN.2 r) (fun a b ha hb => by rw [f 83 (by decide)]; exact hv a b ha hb) (fun m2 f2 k1 k2 => hx_dn (hr122_113 ?_))
    have gl := goM_lt (V := V) (L := Lr V N r) 8 (Nat.le_refl _)
    rw [hand_not (by omega) (by omega), ew_u (by omega)]
    refine ih m2 (fun c hc => (f2 c hc).trans (f c hc)) (fun _ i hi => ?_)
    by_cases b : (Lr V N r).testBit i = true
    · rw [gEn_t b]
      exact k1 i (by omega) b
    · rw [gEn_f b, k2 i b]
      refine g ?_ i hi
      rcases Nat.eq_zero_or_pos r with q | q
      · refine absurd ?_ b
        rw [q]
        show (2 ^ N - 1).testBit i = true
        rw [Nat.testBit_two_pow_sub_one, decide_eq_true hi]
      · exact q
noncomputable def chB (V : Nat → Nat → Nat) (N i : Nat) : Bool := !(decide (gEn V N 8 i = i))
end TV
end
section
/-! ring: by both -/
section TWW
variable {xs : List Int32} {n : Nat} {Q : hQ} {m m0 : gx_M} {T : Nat → Int} {N : Nat} {V : Nat → Nat → Nat} {W : (Int → Int) → Int → Option Int} {a1 a2 : Int}
theorem c126 (hN : N ≤ 8) (x1 : m 81 1 = (N : Int)) (hg : ∀ i, i < N → m 85 i = ((gEn V N 8 i : Nat) : Int)) (h : Q (some (.inl ((hcnt (chB V N) N : Nat) : Int))) m) : hxn xs n yp_m126 0 [(0, .inr (.inl 81))] [] m Q := by
  refine hx_dn (hr126_0 ?_)
  refine hloop (N := N) (P := fun i => hxn xs n yp_m126 4 [(0, .inr (.inl 81)), (1, .inl ((hcnt (chB V N) i : Nat) : Int)), (2, .inl (i : Int))] [] m Q) (hx_dn (hr126_4 (by omega) (fun _ => h) (fun c => absurd c (by omega)) (fun c => absurd c (by omega)) (fun c => absurd c (by omega)))) (fun i hi ih => ?_) 0 (Nat.zero_le _)
  have hle := hcnt_le (chB V N) i
  refine hx_dn (hr126_4 (by omega) (fun c => absurd c (by omega)) (fun _ c => absurd c (by omega)) (fun _ _ c => ?_) (fun _ _ c => ?_))
  · rw [Int.toNat_natCast, hg i hi] at c
    have hf : chB V N i = false := by
      unfold chB
      rw [decide_eq_true (show gEn V N 8 i = i by omega)]
      rfl
    rw [hcnt_f0 hf] at ih
    exact ih
  · rw [Int.toNat_natCast, hg i hi] at c
    have hf : chB V N i = true := by
      unfold chB
      rw [decide_eq_false (show ¬ gEn V N 8 i = i by omega)]
      rfl
    rw [hcnt_t hf] at ih
    rw [gx_w_id (by omega) (by omega)]
    exact ih
/-! the reference -/
def rQf (m m' : gx_M) : Prop := ∀ c, c ≠ 102 → c ≠ 103 → m' c = m c
noncomputable def rQs (W : (Int → Int) → Int → Option Int) (xs : List Int32) (T : Nat → Int) (N : Nat) (s : Nat → Int) (m : gx_M) : Prop := m 87 = s ∧ sOK s ∧ lawR xs W m ∧ m 86 37 = (N : Int) ∧ (∀ i, i < N → m 112 i = T i) ∧ rwOk s T N
theorem rQs_c {s : Nat → Int} {m' : gx_M} (f : ∀ c, c ≠ 102 → c ≠ 103 → c ≠ 115 → c ≠ 116 → m' c = m c) (h : rQs W xs T N s m) : rQs W xs T N s m' := by
  obtain ⟨a, b, c, d, e, g⟩ := h
  exact ⟨(f 87 (by decide) (by decide) (by decide) (by decide)).trans a, b, lawR_c (hPL_of (fun c k hc => congrFun (f c (by omega) (by omega) (by omega) (by omega)) k)) c, by rw [f 86 (by decide) (by decide) (by decide) (by decide)]; exact d, fun i hi => by rw [f 112 (by decide) (by decide) (by decide) (by decide)]; exact e i hi, g⟩
theorem ow_r {s : Nat → Int} (h : rQs W xs T N s m) {i : Nat} (hi : i < N) : (m 87 (gx_w (240 + (m 112 ((i : Int)).toNat))).toNat) = oW s T i := by
  obtain ⟨a, b, c, d, e, g⟩ := h
  obtain ⟨Y, eY, hY, -, -⟩ := rwOk_nat g hi
  rw [Int.toNat_natCast, e i hi, a, eY, w240 hY]
  unfold oW
  rw [eY, Int.toNat_natCast]
theorem r250 {s : Nat → Int} {i L : Nat} (hN : N ≤ 8) (hi : i < N) (hiL : L.testBit i = true) (hL : L < 256) (hb : ∀ j, L.testBit j = true → j < N) (hS : rQs W xs T N s m0) (h : ∀ m', rQf m0 m' → Q (some (.inl ((wt (vR W s T) L i : Nat) : Int))) m') : hxn xs n yp_m250 0 [(0, .inr (.inl 86)), (1, .inl (i : Int)), (2, .inl (L : Int))] [] m0 Q := by
  refine hx_dn (hr250_0 ?_)
  have bo := oW_bd hS.2.1 hS.2.2.2.2.2 hi
  have L' : ∀ k (x3 x4 : Int) (m1 : gx_M), k ≤ N → rQf m0 m1 → (((wtS (vR W s T) i L k).1 = -1 ∧ x3 = -1) ∨ (0 ≤ (wtS (vR W s T) i L k).1 ∧ x3 = (((wtS (vR W s T) i L k).2 : Nat) : Int) ∧ x4 = (wtS (vR W s T) i L k).1)) → hxn xs n yp_m250 8 [(0, .inr (.inl 86)), (1, .inl (i : Int)), (2, .inl (L : Int)), (3, .inl x3), (4, .inl x4), (5, .inl (k : Int))] [] m1 Q := by
    intro k
    have H := hloop (N := N) (P := fun k => ∀ (x3 x4 : Int) (m1 : gx_M), rQf m0 m1 → (((wtS (vR W s T) i L k).1 = -1 ∧ x3 = -1) ∨ (0 ≤ (wtS (vR W s T) i L k).1 ∧ x3 = (((wtS (vR W s T) i L k).2 : Nat) : Int) ∧ x4 = (wtS (vR W s T) i L k).1)) → hxn xs n yp_m250 8 [(0, .inr (.inl 86)), (1, .inl (i : Int)), (2, .inl (L : Int)), (3, .inl x3), (4, .inl x4), (5, .inl (k : Int))] [] m1 Q) (fun x3 x4 m1 f g => ?_) (fun k hk ih x3 x4 m1 f g => ?_) k
    · exact fun x3 x4 m1 hk f g => H hk x3 x4 m1 f g
    · have S1 := rQs_c (m' := m1) (fun c a b _ _ => f c a b) hS
      have e37 := S1.2.2.2.1
      refine hx_dn (hr250_8 (fun _ => ?_) (fun c => absurd c (by omega)) (fun c => absurd c (by omega)))
      have cut := wtS_cut (V := vR W s T) (i := i) (L := L) hb (8 - N)
      have e8 : N + (8 - N) = 8 := by omega
      rw [e8] at cut
      have hh := h m1 f
      unfold wt at hh
      rw [cut] at hh
      rcases g with ⟨g1, g2⟩ | ⟨g1, g2, g3⟩
      · rcases wtS_in (V := vR W s T) (i := i) (L := L) N with ⟨-, -, d⟩ | ⟨d, -⟩
        · rw [d i hi] at hiL
          cases hiL
        · omega
      · rw [g2]
        exact hh
    · have S1 := rQs_c (m' := m1) (fun c a b _ _ => f c a b) hS
      have e37 := S1.2.2.2.1
      have vi := wtS_in (V := vR W s T) (i := i) (L := L) k
      refine hx_dn (hr250_8 (fun c => absurd c (by omega)) (fun _ c => ?_) (fun _ c => ?_))
      · have b := (bit_i hL (by omega)).mp c
        obtain ⟨Y, eY, hY, -, -⟩ := rwOk_nat S1.2.2.2.2.2 hk
        rw [ow_r S1 hi, Int.toNat_natCast, S1.2.2.2.2.1 k hk, eY]
        refine rWor (W := W) S1.2.2.1 (by rw [S1.1]; exact S1.2.1) hY (by omega) (fun m2 f2 => ?_)
        rw [S1.1]
        have ev : lClip 999 (W (env1 s Y (oW s T i) 0) 118) = ((vR W s T i k : Nat) : Int) := by
          rw [← vR_eq, eY, Int.toNat_natCast]
        rw [ev]
        have f' : rQf m0 m2 := fun c a b => (f2 c a b).trans (f c a b)
        have take : (wtS (vR W s T) i L k).1 < ((vR W s T i k : Nat) : Int) → hxn xs n yp_m250 8 [(0, .inr (.inl 86)), (1, .inl (i : Int)), (2, .inl (L : Int)), (3, .inl (k : Int)), (4, .inl ((vR W s T i k : Nat) : Int)), (5, .inl (gx_w ((k : Int) + 1)))] [] m2 Q := fun z => by
          rw [ew_u (by omega)]
          refine ih _ _ m2 f' ?_
          rw [wtS_t b z]
          exact .inr ⟨by show (0 : Int) ≤ ((vR W s T i k : Nat) : Int); omega, rfl, rfl⟩
        refine hx_dn (hr250_55 (fun c => ?_) (fun c d => ?_) (fun c d => ?_))
        · refine take ?_
          rcases g with ⟨g1, g2⟩ | ⟨g1, g2, g3⟩
          · omega
          · omega
        · refine take ?_
          rcases g with ⟨g1, g2⟩ | ⟨g1, g2, g3⟩
          · exact absurd g2 c
          · omega
        · rw [ew_u (by omega)]
          refine ih _ _ m2 f' ?_
          rcases g with ⟨g1, g2⟩ | ⟨g1, g2, g3⟩
          · exact absurd g2 c
          · rw [wtS_f (fun q => by have := q.2; omega)]
            exact .inr ⟨g1, g2, g3⟩
      · have nb : ¬ L.testBit k = true := fun z => c ((bit_i hL (by omega)).mpr z)
        rw [ew_u (by omega)]
        refine ih _ _ m1 f ?_
        rw [wtS_f (fun q => nb q.1)]
        exact g
  exact L' 0 (-1) 0 m0 (Nat.zero_le _) (fun _ _ _ => rfl) (.inl ⟨rfl, rfl⟩)
theorem r251 {i L : Nat} (hN : N ≤ 8) (hi8 : i < 8) (hi : L.testBit i = true) (hb : ∀ j, L.testBit j = true → j < N) (e37 : m 86 37 = (N : Int)) (hg : ∀ j, j < 8 → L.testBit j = true → m 115 j = ((wt V L j : Nat) : Int)) (h1 : inR (wt V L) i → Q (some (.inl 1)) m) (h0 : ¬ inR (wt V L) i → Q (some (.inl 0)) m) : hxn xs n yp_m251 0 [(0, .inr (.inl 86)), (1, .inl (i : Int))] [] m Q := by
  have it := itw_in (V := V) hi8 hi
  have e1 : m 115 ((i : Int)).toNat = ((itw (wt V L) 1 i : Nat) : Int) := by
    rw [Int.toNat_natCast]
    exact hg i hi8 hi
  refine hx_dn (hr251_0 ?_)
  rw [e1]
  refine hloop (N := N) (P := fun t => (∀ t', 1 ≤ t' → t' ≤ t → itw (wt V L) t' i ≠ i) → hxn xs n yp_m251 9 [(0, .inr (.inl 86)), (1, .inl (i : Int)), (2, .inl ((itw (wt V L) (t + 1) i : Nat) : Int)), (3, .inl (t : Int))] [] m Q) (fun q => hx_dn (hr251_9 (fun _ c => h0 (fun z => ?_)) (fun _ c => h1 ⟨N + 1, by omega, by omega⟩) (fun c => absurd c (by omega)) (fun c => absurd c (by omega)) (fun c => absurd c (by omega)))) (fun t ht ih q => ?_) 0 (Nat.zero_le _) (fun t' a b => by omega)
  · obtain ⟨t, a, b, e⟩ := inR_n (n := N) (fun t => hb _ (it t).2) z
    exact q t a b e
  · have k := it (t + 1)
    refine hx_dn (hr251_9 (fun c => absurd c (by omega)) (fun c => absurd c (by omega)) (fun _ c d => absurd c d) (fun _ c _ => h1 ⟨t + 1, by omega, by omega⟩) (fun _ c => ?_))
    rw [Int.toNat_natCast, hg _ k.1 k.2, ew_u (by omega)]
    refine ih (fun t' a b => ?_)
    by_cases z : t' = t + 1
    · rw [z]
      omega
    · exact q t' a (by omega)
theorem r249 {s : Nat → Int} (hN : 1 ≤ N ∧ N ≤ 8) (hS : rQs W xs T N s m0) (h : ∀ m', (∀ c, c ≠ 102 → c ≠ 103 → c ≠ 115 → c ≠ 116 → m' c = m0 c) → (∀ i, i < N → m' 116 i = ((gEn (vR W s T) N 8 i : Nat) : Int)) → Q none m') : hxn xs n yp_m249 0 [(0, .inr (.inl 86))] [] m0 Q := by
  have p1 : 1 ≤ 2 ^ N := Nat.one_le_two_pow
  have p256 : 2 ^ N ≤ 2 ^ 8 := Nat.pow_le_pow_right (by decide) hN.2
  have e2 : gx_w ((gx_shl 1 (m0 86 37)) - 1) = ((Lr (vR W s T) N 0 : Nat) : Int) := by
    rw [hS.2.2.2.1, hshl_one N (by omega), gx_w_id (by omega) (by omega)]
    show _ = ((2 ^ N - 1 : Nat) : Int)
    omega
  refine hx_dn (hr249_0 ?_)
  rw [e2]
  refine hloop (N := 8) (P := fun r => ∀ m1 : gx_M, (∀ c, c ≠ 102 → c ≠ 103 → c ≠ 115 → c ≠ 116 → m1 c = m0 c) → (∀ i, i < N → ¬ (Lr (vR W s T) N r).testBit i = true → m1 116 i = ((gEn (vR W s T) N r i : Nat) : Int)) → hxn xs n yp_m249 9 [(0, .inr (.inl 86)), (1, .inl ((Lr (vR W s T) N r : Nat) : Int))] [] m1 Q) (fun m1 f g => ?_) (fun r hr ih m1 f g => ?_) 0 (Nat.zero_le _) m0 (fun _ _ _ _ _ => rfl) (fun i hi c => absurd (by show (2 ^ N - 1).testBit i = true; rw [Nat.testBit_two_pow_sub_one, decide_eq_true hi]) c)
  · have z := Lr_8 (V := vR W s T) hN.2
    refine hx_dn (hr249_9 (fun _ => h m1 f (fun i hi => g i hi (by rw [z, Nat.zero_testBit]; decide))) (fun c => absurd (by rw [z]; rfl) c))
  · have ll := Lr_lt (V := vR W s T) hN.2 r
    have lb := Lr_n (V := vR W s T) hN.2 r
    refine hx_dn (hr249_9 (fun c => ?_) (fun _ => ?_))
    · have z : Lr (vR W s T) N r = 0 := by omega
      exact h m1 f (fun i hi => by rw [gEn_8 z (by omega)]; exact g i hi (by rw [z, Nat.zero_testBit]; decide))
    · refine hloop (N := N) (P := fun k => ∀ m2 : gx_M, (∀ c, c ≠ 102 → c ≠ 103 → c ≠ 115 → m2 c = m1 c) → (∀ j, j < k → (Lr (vR W s T) N r).testBit j = true → m2 115 j = ((wt (vR W s T) (Lr (vR W s T) N r) j : Nat) : Int)) → hxn xs n yp_m249 15 [(0, .inr (.inl 86)), (1, .inl ((Lr (vR W s T) N r : Nat) : Int)), (2, .inl (k : Int))] [] m2 Q) (fun m2 f2 k1 => ?_) (fun k hk ih2 m2 f2 k1 => ?_) 0 (Nat.zero_le _) m1 (fun _ _ _ _ => rfl) (fun j hj => absurd hj (Nat.not_lt_zero _))
      · have F2 : ∀ c, c ≠ 102 → c ≠ 103 → c ≠ 115 → c ≠ 116 → m2 c = m0 c := fun c a b d e => (f2 c a b d).trans (f c a b d e)
        have e37 : m2 86 37 = (N : Int) := by
          rw [F2 86 (by decide) (by decide) (by decide) (by decide)]
          exact hS.2.2.2.1
        refine hx_dn (hr249_15 (fun _ => ?_) (fun c => absurd c (by omega)) (fun c => absurd c (by omega)))
        refine hloop (N := N) (P := fun k => ∀ m3 : gx_M, (∀ c, c ≠ 116 → m3 c = m2 c) → (∀ i, i < k → (Lr (vR W s T) N r).testBit i = true → inR (wt (vR W s T) (Lr (vR W s T) N r)) i → m3 116 i = ((wt (vR W s T) (Lr (vR W s T) N r) i : Nat) : Int)) → (∀ i, ¬ (Lr (vR W s T) N r).testBit i = true → m3 116 i = m2 116 i) → hxn xs n yp_m249 53 [(0, .inr (.inl 86)), (1, .inl ((Lr (vR W s T) N r : Nat) : Int)), (2, .inl ((goM (vR W s T) (Lr (vR W s T) N r) k : Nat) : Int)), (3, .inl (k : Int))] [] m3 Q) (fun m3 f3 q1 q2 => ?_) (fun k hk ih3 m3 f3 q1 q2 => ?_) 0 (Nat.zero_le _) m2 (fun _ _ => rfl) (fun j hj => absurd hj (Nat.not_lt_zero _)) (fun _ _ => rfl)
        · have e37' : m3 86 37 = (N : Int) := by
            rw [f3 86 (by decide)]
            exact e37
          refine hx_dn (hr249_53 (fun _ => ?_) (fun c => absurd c (by omega)) (fun c => absurd c (by omega)))
          have cut := goM_cut (V := vR W s T) (L := Lr (vR W s T) N r) lb (8 - N)
          have e8 : N + (8 - N) = 8 := by omega
          rw [e8] at cut
          have gl := goM_lt (V := vR W s T) (L := Lr (vR W s T) N r) 8 (Nat.le_refl _)
          rw [← cut, hand_not (by omega) (by omega)]
          refine ih m3 (fun c a b d e => (f3 c e).trans (F2 c a b d e)) (fun i hi nb => ?_)
          by_cases b : (Lr (vR W s T) N r).testBit i = true
          · have ri : inR (wt (vR W s T) (Lr (vR W s T) N r)) i := by
              rcases Classical.em (inR (wt (vR W s T) (Lr (vR W s T) N r)) i) with q | q
              · exact q
              · exact absurd ((Lr_bit (by omega)).mpr ⟨b, q⟩) nb
            rw [gEn_t b]
            exact q1 i hi b ri
          · rw [gEn_f b, q2 i b, f2 116 (by decide) (by decide) (by decide)]
            exact g i hi b
        · have e37' : m3 86 37 = (N : Int) := by
            rw [f3 86 (by decide)]
            exact e37
          have gl := goM_lt (V := vR W s T) (L := Lr (vR W s T) N r) k (by omega)
          refine hx_dn (hr249_53 (fun c => absurd c (by omega)) (fun _ c => ?_) (fun _ c => ?_))
          · have b := (bit_i ll (by omega)).mp c
            refine r251 (V := vR W s T) hN.2 (by omega) b lb e37' (fun j hj hb => by rw [f3 115 (by decide)]; exact k1 j (lb j hb) hb) (fun z => ?_) (fun z => ?_)
            · refine hx_dn (hr249_74 (fun _ => ?_) (fun c => absurd c (by decide)))
              have p2 := p2_lt (P := k) (by omega)
              rw [ew_u (by omega), hshl_one k (by omega), hor_nat (by omega) (by omega), Int.toNat_natCast]
              rw [goM_t b z] at ih3
              have e115 : m3 115 k = ((wt (vR W s T) (Lr (vR W s T) N r) k : Nat) : Int) := by
                rw [f3 115 (by decide)]
                exact k1 k hk b
              rw [e115]
              refine ih3 _ (fun c hc => by rw [gx_u_off hc]; exact f3 c hc) (fun i hi hb hr => ?_) (fun i hi => ?_)
              · by_cases q : i = k
                · rw [q, gx_u_self]
                · rw [gx_u_ne (by omega)]
                  exact q1 i (by omega) hb hr
              · rw [gx_u_ne (fun z => hi (by rw [z.2]; exact b))]
                exact q2 i hi
            · refine hx_dn (hr249_74 (fun c => absurd rfl c) (fun _ => ?_))
              rw [goM_f (fun q => z q.2)] at ih3
              rw [ew_u (by omega)]
              refine ih3 m3 f3 (fun i hi hb hr => ?_) q2
              by_cases q : i = k
              · rw [q] at hr
                exact absurd hr z
              · exact q1 i (by omega) hb hr
          · have nb : ¬ (Lr (vR W s T) N r).testBit k = true := fun z => c ((bit_i ll (by omega)).mpr z)
            rw [goM_f (fun q => nb q.1)] at ih3
            rw [ew_u (by omega)]
            refine ih3 m3 f3 (fun i hi hb hr => ?_) q2
            by_cases q : i = k
            · rw [q] at hb
              exact absurd hb nb
            · exact q1 i (by omega) hb hr
      · have S2 := rQs_c (m' := m2) (fun c a b d e => (f2 c a b d).trans (f c a b d e)) hS
        have e37 := S2.2.2.2.1
        refine hx_dn (hr249_15 (fun c => absurd c (by omega)) (fun _ c => ?_) (fun _ c => ?_))
        · have b := (bit_i ll (by omega)).mp c
          refine r250 hN.2 hk b ll lb S2 (fun m3 f3 => hx_dn (hr249_42 ?_))
          rw [ew_u (by omega), Int.toNat_natCast]
          refine ih2 _ (fun c a b d => by rw [gx_u_off d, f3 c a b]; exact f2 c a b d) (fun j hj hb => ?_)
          by_cases q : j = k
          · rw [q, gx_u_self]
          · rw [gx_u_ne (by omega), f3 115 (by decide) (by decide)]
            exact k1 j (by omega) hb
        · have nb : ¬ (Lr (vR W s T) N r).testBit k = true := fun z => c ((bit_i ll (by omega)).mpr z)
          rw [ew_u (by omega)]
          refine ih2 m2 f2 (fun j hj hb => ?_)
          by_cases q : j = k
          · rw [q] at hb
            exact absurd hb nb
          · exact k1 j (by omega) hb
end TWW
end
section
/-! ring: both answer alike -/
section TX
variable {xs : List Int32} {n : Nat} {Q : hQ} {m m0 : gx_M} {T : Nat → Int} {N : Nat} {W : (Int → Int) → Int → Option Int} {a1 a2 : Int}
theorem owDs_rw {s : Nat → Int} (h : owDs (oW s T) N) : rwDs T N := fun i j hi hj e => h i j hi hj (by
  unfold oW
  rw [e])
theorem r248o {s : Nat → Int} (hN : N ≤ 8) (hS : rQs W xs T N s m0) (k1 : owDs (oW s T) N → hxn xs n yp_m248 38 [(0, .inr (.inl 86)), (1, .inl (N : Int)), (2, .inl a2), (3, .inl (N : Int))] [] m0 Q) (k0 : ¬ owDs (oW s T) N → Q (some (.inl (-2))) m0) : hxn xs n yp_m248 38 [(0, .inr (.inl 86)), (1, .inl (N : Int)), (2, .inl a2), (3, .inl 0)] [] m0 Q := by
  refine hloop (N := N) (P := fun i => owDs (oW s T) i → hxn xs n yp_m248 38 [(0, .inr (.inl 86)), (1, .inl (N : Int)), (2, .inl a2), (3, .inl (i : Int))] [] m0 Q) k1 (fun i hi ih q => ?_) 0 (Nat.zero_le _) (fun i j hi => absurd hi (Nat.not_lt_zero _))
  refine hx_dn (hr248_38 (fun c => absurd c (by omega)) (fun c => absurd c (by omega)) (fun c => absurd c (by omega)) (fun _ => ?_))
  refine hloop (N := i) (P := fun j => (∀ b, b < j → oW s T b ≠ oW s T i) → hxn xs n yp_m248 46 [(0, .inr (.inl 86)), (1, .inl (N : Int)), (2, .inl a2), (3, .inl (i : Int)), (4, .inl (j : Int))] [] m0 Q) (fun q2 => ?_) (fun j hj ih2 q2 => ?_) 0 (Nat.zero_le _) (fun b hb => absurd hb (Nat.not_lt_zero _))
  · refine hx_dn (hr248_46 (fun _ => ?_) (fun c => absurd c (by omega)) (fun c => absurd c (by omega)))
    rw [ew_u (by omega)]
    refine ih (fun a b ha hb => ?_)
    by_cases e : a = i
    · subst e
      exact q2 b hb
    · exact q a b (by omega) hb
  · refine hx_dn (hr248_46 (fun c => absurd c (by omega)) (fun _ c => ?_) (fun _ c => ?_))
    · rw [ow_r hS hi, ow_r hS (by omega)] at c
      rw [ew_u (by omega)]
      refine ih2 (fun b hb => ?_)
      by_cases e : b = j
      · subst e
        exact fun z => c z.symm
      · exact q2 b (by omega)
    · rw [ow_r hS hi, ow_r hS (by omega)] at c
      exact k0 (fun k => k i j hi hj c.symm)
noncomputable def qRn (V : Nat → Nat → Nat) (N : Nat) (w : Int) : Int := if w = 10 then ((hcnt (chB V N) N : Nat) : Int) else ((gEn V N 8 w.toNat : Nat) : Int)
theorem r248c {V : Nat → Nat → Nat} (hN : N ≤ 8) (hw : a2 = 10 ∨ (0 ≤ a2 ∧ a2 < (N : Int))) (hg : ∀ i, i < N → m 116 i = ((gEn V N 8 i : Nat) : Int)) (h : Q (some (.inl (qRn V N a2))) m) : hxn xs n yp_m248 125 [(0, .inr (.inl 86)), (1, .inl (N : Int)), (2, .inl a2)] [] m Q := by
  unfold qRn at h
  refine hx_dn (hr248_125 (fun c => ?_) (fun c => ?_))
  · rw [if_pos (by omega)] at h
    refine hloop (N := N) (P := fun i => hxn xs n yp_m248 143 [(0, .inr (.inl 86)), (1, .inl (N : Int)), (3, .inl ((hcnt (chB V N) i : Nat) : Int)), (4, .inl (i : Int))] [] m Q) (hx_dn (hr248_143 (fun _ => h) (fun c => absurd c (by omega)) (fun c => absurd c (by omega)))) (fun i hi ih => ?_) 0 (Nat.zero_le _)
    have hle := hcnt_le (chB V N) i
    refine hx_dn (hr248_143 (fun c => absurd c (by omega)) (fun _ c => ?_) (fun _ c => ?_))
    · rw [Int.toNat_natCast, hg i hi] at c
      have hf : chB V N i = true := by
        unfold chB
        rw [decide_eq_false (show ¬ gEn V N 8 i = i by omega)]
        rfl
      rw [hcnt_t hf] at ih
      rw [ew_u (k := i) (by omega), gx_w_id (by omega) (by omega)]
      exact ih
    · rw [Int.toNat_natCast, hg i hi] at c
      have hf : chB V N i = false := by
        unfold chB
        rw [decide_eq_true (show gEn V N 8 i = i by omega)]
        rfl
      rw [hcnt_f hf] at ih
      rw [ew_u (k := i) (by omega), gx_w_id (by omega) (by omega)]
      exact ih
  · rw [if_neg (by omega)] at h
    rw [hg a2.toNat (by omega)]
    exact h
def cXf (m M : gx_M) : Prop := ∀ c k, c ≠ 1 → c ≠ 3 → c ≠ 4 → c ≠ 51 → ¬ (c = 44 ∧ 9 ≤ k ∧ k ≤ 11) → (c < 81 ∨ 85 < c) → M c k = m c k
theorem cXf_R (hR : hWr xs m) {M M' : gx_M} (f : cXf m M) (f2 : ∀ c k, c ≠ 102 → c ≠ 103 → c ≠ 112 → c ≠ 115 → c ≠ 116 → ¬ (c = 86 ∧ (k = 4 ∨ k = 37)) → M' c k = M c k) : hWr xs M' := hWr_c (hPR_of (fun c k hc => by
  rw [f2 c k (by omega) (by omega) (by omega) (by omega) (by omega) (by omega)]
  exact f c k (by omega) (by omega) (by omega) (by omega) (by omega) (by omega))) hR
theorem ww_ring (hT : hTp m) (hR : hWr xs m) : hxn xs n yp_m120 0 [(0, .inr (.inl 0)), (1, .inl a1), (2, .inl a2)] [] m (fun r1 m1 => hxn xs n yp_m248 0 [(0, .inr (.inl 86)), (1, .inl a1), (2, .inl a2)] [] m1 (fun r2 m2 => hWr xs m2 ∧ r2 = r1)) := by
  have hR' := hR
  obtain ⟨hs, hB, -, -, ⟨W, hL⟩, -⟩ := hR
  obtain ⟨t1, t2, t3, t4⟩ := hT
  refine hx_dn (hr120_0 ?_)
  have bad : ¬ (1 ≤ a1 ∧ a1 ≤ 8 ∧ a1 ≤ m 1 1) → hxn xs n yp_m120 10 [(0, .inr (.inl 0)), (1, .inl a1), (2, .inl a2)] [.inl 0] m (fun r1 m1 => hxn xs n yp_m248 0 [(0, .inr (.inl 86)), (1, .inl a1), (2, .inl a2)] [] m1 (fun r2 m2 => hWr xs m2 ∧ r2 = r1)) := fun hN =>
    hx_dn (hr120_10 (s0 := 0) (fun c => absurd rfl c) (fun _ => hx_dn (hr248_0 (fun c1 c2 => absurd ⟨c1.1, c1.2, by omega⟩ hN) (fun _ _ => ⟨hR', rfl⟩) (fun _ => ⟨hR', rfl⟩))))
  refine hx_dn (hr23_0 (fun c => bad (by omega)) (fun _ c => bad (by omega)) (fun _ _ c => bad (by omega)) (fun c1 c2 c3 => ?_))
  obtain ⟨N, rfl⟩ : ∃ N : Nat, a1 = (N : Int) := ⟨a1.toNat, by omega⟩
  have hN8 : 1 ≤ N ∧ N ≤ 8 := by omega
  refine hx_dn (hr120_10 (s0 := 1) (fun _ => ?_) (fun c => absurd c (by decide)))
  refine cs24 (by omega) (fun m1 x1 z1 f1 => hx_dn (hr120_27 ?_))
  have F1 : cXf m m1 := fun c k d1 d2 d3 d4 d5 d6 => f1 c k d2 d3 (by omega)
  have hB1 : sBk 5 (m 87) m1 := sBk_c (fun c d1 d2 => funext (fun k => F1 c k (by omega) (by omega) (by omega) (by omega) (by omega) (by omega))) hB
  have w1 : gx_w ((N : Int) - 1) = (N : Int) - 1 := gx_w_id (by omega) (by omega)
  have ref : ∀ (M : gx_M) (Q : hQ), cXf m M → (∀ m', (∀ c k, c ≠ 112 → ¬ (c = 86 ∧ (k = 4 ∨ k = 37)) → m' c k = M c k) → rQs W xs (m 2) N (m 87) m' → owDs (oW (m 87) (m 2)) N → hxn xs n yp_m248 38 [(0, .inr (.inl 86)), (1, .inl (N : Int)), (2, .inl a2), (3, .inl (N : Int))] [] m' Q) → (∀ m', (∀ c k, c ≠ 112 → ¬ (c = 86 ∧ (k = 4 ∨ k = 37)) → m' c k = M c k) → ¬ (rwOk (m 87) (m 2) N ∧ owDs (oW (m 87) (m 2)) N) → Q (some (.inl (-2))) m') → hxn xs n yp_m248 0 [(0, .inr (.inl 86)), (1, .inl (N : Int)), (2, .inl a2)] [] M Q := fun M Q fM h1 h0 => by
    have e4 : M 86 4 = m 86 4 := fM 86 4 (by decide) (by decide) (by decide) (by decide) (by omega) (by omega)
    refine hx_dn (hr248_0 (fun _ _ => ?_) (fun _ c => ?_) (fun c => absurd ⟨c1, c2⟩ c))
    · have g87 : (gx_u M 86 4 0) 87 = m 87 := by
        rw [gx_u_off (by decide)]
        exact funext (fun k => fM 87 k (by decide) (by decide) (by decide) (by decide) (by omega) (by omega))
      have gT : ∀ k, k < N → gx_and ((gx_u M 86 4 0) 90 k) 255 = m 2 k := fun k hk => by
        rw [gx_u_ne (by omega), fM 90 k (by decide) (by decide) (by decide) (by decide) (by omega) (by omega)]
        exact t4 k (by omega)
      have fr : ∀ m', rRf (gx_u M 86 4 0) m' → ∀ c k, c ≠ 112 → ¬ (c = 86 ∧ (k = 4 ∨ k = 37)) → m' c k = M c k := fun m' f' c k d1 d2 => by
        by_cases e : c = 86
        · subst e
          rw [f'.2 k (by omega), gx_u_ne (by omega)]
        · rw [f'.1 c e d1, gx_u_ne (by omega)]
      refine r243 (T := m 2) (by rw [g87]; exact hs) hN8.2 gT (fun m' f' k1 k2 k3 k4 => ?_) (fun m' f' k => ?_)
      · rw [g87] at k3
        have F' := fr m' f'
        have e87 : m' 87 = m 87 := by
          rw [f'.1 87 (by decide) (by decide)]
          exact g87
        have hL' : lawR xs W m' := lawR_c (hPL_of (fun c k hc => (F' c k (by omega) (by omega)).trans (fM c k (by omega) (by omega) (by omega) (by omega) (by omega) (by omega)))) hL
        have S : rQs W xs (m 2) N (m 87) m' := ⟨e87, hs, hL', k1, k2, k3⟩
        exact hx_dn (hr248_30 (fun _ => r248o hN8.2 S (fun d => h1 m' F' S d) (fun d => h0 m' F' (fun q => d q.2))) (fun c => absurd c (by decide)))
      · rw [g87] at k
        exact hx_dn (hr248_30 (fun c => absurd rfl c) (fun _ => h0 m' (fr m' f') (fun q => k ⟨q.1, owDs_rw q.2⟩)))
    · rw [e4] at c
      exact absurd c (by omega)
  have hw0 : ∀ {M m' : gx_M}, cXf m M → (∀ c k, c ≠ 112 → ¬ (c = 86 ∧ (k = 4 ∨ k = 37)) → m' c k = M c k) → hWr xs m' := fun fM f' => cXf_R hR' fM (fun c k _ _ d1 _ _ d2 => f' c k d1 d2)
  refine c121 (T := m 2) hs hB1 hN8.2 x1.1 x1.2.2.2.2 (fun m2 f2 g81 g82 o1 o2 => ?_) (fun m2 f2 k => ?_)
  case refine_2 =>
    have F2 : cXf m m2 := fun c k d1 d2 d3 d4 d5 d6 => (congrFun (f2 c (by omega) (by omega)) k).trans (F1 c k d1 d2 d3 d4 d5 d6)
    refine hx_dn (hr120_42 (fun c => absurd rfl c) (fun c => absurd rfl c) (fun c => absurd rfl c) (fun c => absurd rfl c) (fun _ => ?_))
    exact ref m2 _ F2 (fun m' f' S d => absurd ⟨S.2.2.2.2.2, d⟩ k) (fun m' f' _ => ⟨hw0 F2 f', rfl⟩)
  have F2 : cXf m m2 := fun c k d1 d2 d3 d4 d5 d6 => (congrFun (f2 c (by omega) (by omega)) k).trans (F1 c k d1 d2 d3 d4 d5 d6)
  have hB2 : sBk 5 (m 87) m2 := cRf_B f2 hB1
  have hL2 : lawR xs W m2 := lawR_c (hPL_of (fun c k hc => F2 c k (by omega) (by omega) (by omega) (by omega) (by omega) (by omega))) hL
  have no : ¬ (a2 = 10 ∨ (0 ≤ a2 ∧ a2 < (N : Int))) → hxn xs n yp_m248 0 [(0, .inr (.inl 86)), (1, .inl (N : Int)), (2, .inl a2)] [] m2 (fun r2 m2 => hWr xs m2 ∧ r2 = some (.inl (-3))) := fun hk => by
    refine ref m2 _ F2 (fun m' f' S d => ?_) (fun m' f' k => absurd ⟨o1, o2⟩ k)
    refine hx_dn (hr248_38 (fun _ c => absurd (.inl c) hk) (fun _ _ c => ?_) (fun _ _ _ => ⟨hw0 F2 f', rfl⟩) (fun c => absurd c (by omega)))
    rw [w1] at c
    exact absurd (.inr ⟨c.1, by omega⟩) hk
  have yes : (a2 = 10 ∨ (0 ≤ a2 ∧ a2 < (N : Int))) → hxn xs n yp_m122 0 [(0, .inr (.inl 81)), (1, .inr (.inl 5)), (2, .inr (.inl 44))] [] m2 (fun r m' => hxn xs n yp_m120 81 [(0, .inr (.inl 0)), (2, .inl a2)] (hrs r ++ []) m' (fun r1 m1 => hxn xs n yp_m248 0 [(0, .inr (.inl 86)), (1, .inl (N : Int)), (2, .inl a2)] [] m1 (fun r2 m2 => hWr xs m2 ∧ r2 = r1))) := fun hk => by
    refine c122v hL2 hs hB2 hN8.2 g81 g82 o1 (fun m3 f3 k3 => ?_)
    refine c122t hN8 k3 (fun m4 f4 k4 => ?_)
    have F4 : cXf m m4 := fun c k d1 d2 d3 d4 d5 d6 => by
      rw [f4 c (by omega), f3 c k d4 d5 (by omega) (by omega) (by omega)]
      exact F2 c k d1 d2 d3 d4 d5 d6
    have e81 : m4 81 1 = (N : Int) := by
      rw [f4 81 (by decide), f3 81 1 (by decide) (by decide) (by decide) (by decide) (by decide)]
      exact g81
    have fin : ∀ v : Int, v = qRn (vR W (m 87) (m 2)) N a2 → hxn xs n yp_m248 0 [(0, .inr (.inl 86)), (1, .inl (N : Int)), (2, .inl a2)] [] m4 (fun r2 m2 => hWr xs m2 ∧ r2 = some (.inl v)) := fun v ev => by
      refine ref m4 _ F4 (fun m' f' S d => ?_) (fun m' f' k => absurd ⟨o1, o2⟩ k)
      have go : hxn xs n yp_m249 0 [(0, .inr (.inl 86))] [] m' (fun r m'' => hxn xs n yp_m248 125 [(0, .inr (.inl 86)), (1, .inl (N : Int)), (2, .inl a2)] (hrs r ++ []) m'' (fun r2 m2 => hWr xs m2 ∧ r2 = some (.inl v))) := by
        refine r249 hN8 S (fun m5 f5 k5 => ?_)
        refine r248c (V := vR W (m 87) (m 2)) hN8.2 hk k5 ⟨?_, by rw [ev]⟩
        exact cXf_R hR' F4 (fun c k a b d e q z => (congrFun (f5 c a b e q) k).trans (f' c k d z))
      refine hx_dn (hr248_38 (fun _ _ => go) (fun _ _ _ => go) (fun _ c d => ?_) (fun c => absurd c (by omega)))
      exfalso
      rw [w1] at d
      rcases hk with q | q
      · exact c q
      · exact d ⟨q.1, by omega⟩
    unfold qRn at fin
    refine hx_dn (hr120_81 (fun d => ?_) (fun d => ?_))
    · rw [if_neg d] at fin
      have kk : 0 ≤ a2 ∧ a2 < (N : Int) := hk.elim (fun q => absurd q d) id
      refine hx_dn (hr119_0 (fun c => absurd c (by omega)) (fun _ c => absurd c (by omega)) (fun _ _ c => absurd c (by omega)) (fun _ _ _ => hx_dn (hr120_105 (fin _ ?_))))
      exact k4 _ (by omega)
    · rw [if_pos d] at fin
      exact c126 hN8.2 e81 k4 (hx_dn (hr120_94 (fin _ rfl)))
  refine hx_dn (hr120_42 (fun _ d => yes (.inl d)) (fun _ d e => no (fun q => ?_)) (fun _ d e e2 => yes (.inr ⟨e, e2⟩)) (fun _ d e e2 => no (fun q => ?_)) (fun c => absurd c (by decide)))
  · rcases q with q | q
    · exact d q
    · omega
  · rcases q with q | q
    · exact d q
    · omega
end TX
end
