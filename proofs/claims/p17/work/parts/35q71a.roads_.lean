section
/-! share: roads -/
/-- knowersOf from 0 on -/
theorem hr105_0 {xs : List Int32} {n : Nat} {Q : hQ} {m : gx_M} {x1 : Int}
    (h1 : hxn xs n yp_m105 4 [(0, .inr (.inl 76)), (1, .inl x1), (2, .inl 0), (3, .inl 0)] [] m Q) : hxn xs (n + 1) yp_m105 0 [(0, .inr (.inl 76)), (1, .inl x1)] [] m Q := by
  refine hx_blks (npc := 4) (L' := [(0, .inr (.inl 76)), (1, .inl x1), (2, .inl 0), (3, .inl 0)]) (st' := []) (m' := m) ((0, .iconst 0, 1, 0, 0, 0, 0), (0, 0, 0)) [((1, .istore_n 2, 1, 0, 0, 0, 0), (0, 0, 0)), ((2, .iconst 0, 1, 0, 0, 0, 0), (0, 0, 0)), ((3, .istore_n 3, 1, 0, 0, 0, 0), (0, 0, 0))] (by decide +kernel) rfl ?_
  exact hx_pick [0, 1, 2, 3] h1

/-- knowersOf from 4 on -/
theorem hr105_4 {xs : List Int32} {n : Nat} {Q : hQ} {m : gx_M} {x1 x2 x3 : Int}
    (h1 : (8 ≤ x3) → Q (some (.inl x2)) m)
    (h2 : (x3 < 8) → hxn xs n yp_m105 4 [(0, .inr (.inl 76)), (1, .inl x1), (2, .inl (gx_w (x2 + (gx_and (gx_shr (m 80 (x3).toNat) x1) 1)))), (3, .inl (gx_w (x3 + 1)))] [] m Q) : hxn xs (n + 1) yp_m105 4 [(0, .inr (.inl 76)), (1, .inl x1), (2, .inl x2), (3, .inl x3)] [] m Q := by
  refine hx_blks (npc := 7) (L' := [(0, .inr (.inl 76)), (1, .inl x1), (2, .inl x2), (3, .inl x3)]) (st' := [.inl 8, .inl x3]) (m' := m) ((4, .iload_n 3, 1, 0, 0, 0, 0), (0, 0, 0)) [((5, .bipush 8, 2, 0, 0, 0, 0), (0, 0, 0))] (by decide +kernel) rfl ?_
  refine hx_cmp .ge 29 (by decide +kernel) (fun c1 => ?_) (fun c1 => ?_)
  · have c1 : 8 ≤ x3 := c1
    refine hx_blk (npc := 30) (L' := [(0, .inr (.inl 76)), (1, .inl x1), (2, .inl x2), (3, .inl x3)]) (st' := [.inl x2]) (m' := m) [((29, .iload_n 2, 1, 0, 0, 0, 0), (0, 0, 0))] (by decide +kernel) rfl ?_
    exact hx_reti (by decide +kernel) (h1 c1)
  · have c1 : x3 < 8 := by have h : ¬ (8 ≤ x3) := c1; omega
    have f1 := gx_and_bd (gx_shr (m 80 (x3).toNat) x1) 1 (by decide)
    refine hx_blk (npc := 4) (L' := [(0, .inr (.inl 76)), (1, .inl x1), (2, .inl (gx_w (x2 + (gx_and (gx_shr (m 80 (x3).toNat) x1) 1)))), (3, .inl (gx_w (x3 + 1)))]) (st' := []) (m' := m) [((10, .iload_n 2, 1, 0, 0, 0, 0), (0, 0, 0)), ((11, .aload_n 0, 1, 0, 0, 0, 0), (0, 0, 0)), ((12, .getfield 21, 3, 7, 4, 2077, 0), (1, 76, 80)), ((15, .iload_n 3, 1, 0, 0, 0, 0), (0, 0, 0)), ((16, .iaload, 1, 0, 0, 0, 0), (0, 80, 0)), ((17, .iload_n 1, 1, 0, 0, 0, 0), (0, 0, 0)), ((18, .ishr, 1, 0, 0, 0, 0), (0, 0, 0)), ((19, .iconst 1, 1, 0, 0, 0, 0), (0, 0, 0)), ((20, .iand, 1, 0, 0, 0, 0), (0, 0, 0)), ((21, .iadd, 1, 0, 0, 0, 0), (0, 0, 0)), ((22, .istore_n 2, 1, 0, 0, 0, 0), (0, 0, 0)), ((23, .iinc 3 1, 3, 0, 0, 0, 0), (0, 0, 0)), ((26, .goto (-22), 3, 0, 0, 0, 0), (0, 0, 0))] (by decide +kernel) rfl ?_
    exact hx_pick [0, 1, 2, 3] (h2 c1)

/-- partsOf from 0 on -/
theorem hr104_0 {xs : List Int32} {n : Nat} {Q : hQ} {m : gx_M} {x2 x3 : Int}
    (h1 : (x3 < 0) → Q (some (.inl 0)) m)
    (h2 : (0 ≤ x3) → (x3 < 8) → hxn xs n yp_m104 15 [(0, .inr (.inl 76)), (1, .inr (.inl 5)), (2, .inl x2), (3, .inl x3), (4, .inl 0)] [] m Q)
    (h3 : (0 ≤ x3) → (8 ≤ x3) → Q (some (.inl 0)) m) : hxn xs (n + 1) yp_m104 0 [(0, .inr (.inl 76)), (1, .inr (.inl 5)), (2, .inl x2), (3, .inl x3)] [] m Q := by
  refine hx_blks (npc := 1) (L' := [(0, .inr (.inl 76)), (1, .inr (.inl 5)), (2, .inl x2), (3, .inl x3)]) (st' := [.inl x3]) (m' := m) ((0, .iload_n 3, 1, 0, 0, 0, 0), (0, 0, 0)) [] (by decide +kernel) rfl ?_
  refine hx_if .lt 10 (by decide +kernel) (fun c1 => ?_) (fun c1 => ?_)
  · have c1 : x3 < 0 := c1
    refine hx_blk (npc := 11) (L' := [(0, .inr (.inl 76)), (1, .inr (.inl 5)), (2, .inl x2), (3, .inl x3)]) (st' := [.inl 0]) (m' := m) [((10, .iconst 0, 1, 0, 0, 0, 0), (0, 0, 0))] (by decide +kernel) rfl ?_
    exact hx_reti (by decide +kernel) (h1 c1)
  · have c1 : 0 ≤ x3 := by have h : ¬ (x3 < 0) := c1; omega
    refine hx_blk (npc := 7) (L' := [(0, .inr (.inl 76)), (1, .inr (.inl 5)), (2, .inl x2), (3, .inl x3)]) (st' := [.inl 8, .inl x3]) (m' := m) [((4, .iload_n 3, 1, 0, 0, 0, 0), (0, 0, 0)), ((5, .bipush 8, 2, 0, 0, 0, 0), (0, 0, 0))] (by decide +kernel) rfl ?_
    refine hx_cmp .lt 12 (by decide +kernel) (fun c2 => ?_) (fun c2 => ?_)
    · have c2 : x3 < 8 := c2
      refine hx_blk (npc := 15) (L' := [(0, .inr (.inl 76)), (1, .inr (.inl 5)), (2, .inl x2), (3, .inl x3), (4, .inl 0)]) (st' := []) (m' := m) [((12, .iconst 0, 1, 0, 0, 0, 0), (0, 0, 0)), ((13, .istore 4, 2, 0, 0, 0, 0), (0, 0, 0))] (by decide +kernel) rfl ?_
      exact hx_pick [0, 1, 2, 3, 4] (h2 c1 c2)
    · have c2 : 8 ≤ x3 := by have h : ¬ (x3 < 8) := c2; omega
      refine hx_blk (npc := 11) (L' := [(0, .inr (.inl 76)), (1, .inr (.inl 5)), (2, .inl x2), (3, .inl x3)]) (st' := [.inl 0]) (m' := m) [((10, .iconst 0, 1, 0, 0, 0, 0), (0, 0, 0))] (by decide +kernel) rfl ?_
      exact hx_reti (by decide +kernel) (h3 c1 c2)

/-- partsOf from 15 on -/
theorem hr104_15 {xs : List Int32} {n : Nat} {Q : hQ} {m : gx_M} {x2 x3 x4 : Int}
    (h1 : (8 ≤ x4) → hxn xs n yp_m104 64 [(0, .inr (.inl 76)), (3, .inl x3), (4, .inl 0), (5, .inl 0)] [] m Q)
    (h2 : (x4 < 8) → ((gx_and (gx_shr x2 x4) 1) = 0) → hxn xs n yp_m104 15 [(0, .inr (.inl 76)), (1, .inr (.inl 5)), (2, .inl x2), (3, .inl x3), (4, .inl (gx_w (x4 + 1)))] [] (gx_u m 80 (x4).toNat 0) Q)
    (h3 : (x4 < 8) → ((gx_and (gx_shr x2 x4) 1) ≠ 0) → hxn xs n yp_m60 0 [(0, .inr (.inl 5)), (1, .inl x4)] [] m (fun r m' => hxn xs n yp_m104 44 [(0, .inr (.inl 76)), (1, .inr (.inl 5)), (2, .inl x2), (3, .inl x3), (4, .inl x4)] (hrs r ++ [.inr (.inl 5), .inl x4, .inr (.inl 80)]) m' Q)) : hxn xs (n + 1) yp_m104 15 [(0, .inr (.inl 76)), (1, .inr (.inl 5)), (2, .inl x2), (3, .inl x3), (4, .inl x4)] [] m Q := by
  refine hx_blks (npc := 19) (L' := [(0, .inr (.inl 76)), (1, .inr (.inl 5)), (2, .inl x2), (3, .inl x3), (4, .inl x4)]) (st' := [.inl 8, .inl x4]) (m' := m) ((15, .iload 4, 2, 0, 0, 0, 0), (0, 0, 0)) [((17, .bipush 8, 2, 0, 0, 0, 0), (0, 0, 0))] (by decide +kernel) rfl ?_
  refine hx_cmp .ge 58 (by decide +kernel) (fun c1 => ?_) (fun c1 => ?_)
  · have c1 : 8 ≤ x4 := c1
    refine hx_blk (npc := 64) (L' := [(0, .inr (.inl 76)), (1, .inr (.inl 5)), (2, .inl x2), (3, .inl x3), (4, .inl 0), (5, .inl 0)]) (st' := []) (m' := m) [((58, .iconst 0, 1, 0, 0, 0, 0), (0, 0, 0)), ((59, .istore 4, 2, 0, 0, 0, 0), (0, 0, 0)), ((61, .iconst 0, 1, 0, 0, 0, 0), (0, 0, 0)), ((62, .istore 5, 2, 0, 0, 0, 0), (0, 0, 0))] (by decide +kernel) rfl ?_
    exact hx_pick [0, 3, 4, 5] (h1 c1)
  · have c1 : x4 < 8 := by have h : ¬ (8 ≤ x4) := c1; omega
    have f1 := gx_and_bd (gx_shr x2 x4) 1 (by decide)
    refine hx_blk (npc := 34) (L' := [(0, .inr (.inl 76)), (1, .inr (.inl 5)), (2, .inl x2), (3, .inl x3), (4, .inl x4)]) (st' := [.inl (gx_and (gx_shr x2 x4) 1), .inl x4, .inr (.inl 80)]) (m' := m) [((22, .aload_n 0, 1, 0, 0, 0, 0), (0, 0, 0)), ((23, .getfield 21, 3, 7, 4, 2077, 0), (1, 76, 80)), ((26, .iload 4, 2, 0, 0, 0, 0), (0, 0, 0)), ((28, .iload_n 2, 1, 0, 0, 0, 0), (0, 0, 0)), ((29, .iload 4, 2, 0, 0, 0, 0), (0, 0, 0)), ((31, .ishr, 1, 0, 0, 0, 0), (0, 0, 0)), ((32, .iconst 1, 1, 0, 0, 0, 0), (0, 0, 0)), ((33, .iand, 1, 0, 0, 0, 0), (0, 0, 0))] (by decide +kernel) rfl ?_
    refine hx_if .eq 50 (by decide +kernel) (fun c2 => ?_) (fun c2 => ?_)
    · have c2 : (gx_and (gx_shr x2 x4) 1) = 0 := c2
      refine hx_blk (npc := 15) (L' := [(0, .inr (.inl 76)), (1, .inr (.inl 5)), (2, .inl x2), (3, .inl x3), (4, .inl (gx_w (x4 + 1)))]) (st' := []) (m' := (gx_u m 80 (x4).toNat 0)) [((50, .iconst 0, 1, 0, 0, 0, 0), (0, 0, 0)), ((51, .iastore, 1, 0, 0, 0, 0), (0, 80, 0)), ((52, .iinc 4 1, 3, 0, 0, 0, 0), (0, 0, 0)), ((55, .goto (-40), 3, 0, 0, 0, 0), (0, 0, 0))] (by decide +kernel) rfl ?_
      exact hx_pick [0, 1, 2, 3, 4] (h2 c1 c2)
    · have c2 : (gx_and (gx_shr x2 x4) 1) ≠ 0 := c2
      refine hx_blk (npc := 41) (L' := [(0, .inr (.inl 76)), (1, .inr (.inl 5)), (2, .inl x2), (3, .inl x3), (4, .inl x4)]) (st' := [.inl x4, .inr (.inl 5), .inr (.inl 5), .inl x4, .inr (.inl 80)]) (m' := m) [((37, .aload_n 1, 1, 0, 0, 0, 0), (0, 0, 0)), ((38, .aload_n 1, 1, 0, 0, 0, 0), (0, 0, 0)), ((39, .iload 4, 2, 0, 0, 0, 0), (0, 0, 0))] (by decide +kernel) rfl ?_
      exact hx_call (E := (41, .invokevirtual 70, 3, 60, 0, 4103, 0)) (M' := yp_m60) [.inr (.inl 5), .inl x4] [.inr (.inl 5), .inl x4, .inr (.inl 80)] rfl (by decide +kernel) rfl ⟨rfl, rfl⟩ rfl rfl (hx_mono (h3 c1 c2) (fun r m' h' => hx_pick [0, 1, 2, 3, 4] h'))

/-- partsOf from 44 on -/
theorem hr104_44 {xs : List Int32} {n : Nat} {Q : hQ} {m : gx_M} {x2 x3 x4 s1 s3 : Int}
    (h1 : hxn xs n yp_m64 0 [(0, .inr (.inl 5)), (1, .inr (.inr s3))] [] m (fun r m' => hxn xs n yp_m104 47 [(0, .inr (.inl 76)), (1, .inr (.inl 5)), (2, .inl x2), (3, .inl x3), (4, .inl x4)] (hrs r ++ [.inl s1, .inr (.inl 80)]) m' Q)) : hxn xs (n + 1) yp_m104 44 [(0, .inr (.inl 76)), (1, .inr (.inl 5)), (2, .inl x2), (3, .inl x3), (4, .inl x4)] [.inr (.inr s3), .inr (.inl 5), .inl s1, .inr (.inl 80)] m Q := by
  exact hx_calls (E := (44, .invokevirtual 74, 3, 64, 0, 4104, 0)) (M' := yp_m64) [.inr (.inl 5), .inr (.inr s3)] [.inl s1, .inr (.inl 80)] rfl (by decide +kernel) rfl ⟨rfl, rfl⟩ rfl rfl (hx_mono h1 (fun r m' h' => hx_pick [0, 1, 2, 3, 4] h'))

/-- partsOf from 47 on -/
theorem hr104_47 {xs : List Int32} {n : Nat} {Q : hQ} {m : gx_M} {x2 x3 x4 s1 s2 : Int}
    (h1 : hxn xs n yp_m104 15 [(0, .inr (.inl 76)), (1, .inr (.inl 5)), (2, .inl x2), (3, .inl x3), (4, .inl (gx_w (x4 + 1)))] [] (gx_u m 80 (s1).toNat s2) Q) : hxn xs (n + 1) yp_m104 47 [(0, .inr (.inl 76)), (1, .inr (.inl 5)), (2, .inl x2), (3, .inl x3), (4, .inl x4)] [.inl s2, .inl s1, .inr (.inl 80)] m Q := by
  refine hx_blks (npc := 15) (L' := [(0, .inr (.inl 76)), (1, .inr (.inl 5)), (2, .inl x2), (3, .inl x3), (4, .inl (gx_w (x4 + 1)))]) (st' := []) (m' := (gx_u m 80 (s1).toNat s2)) ((47, .goto 4, 3, 0, 0, 0, 0), (0, 0, 0)) [((51, .iastore, 1, 0, 0, 0, 0), (0, 80, 0)), ((52, .iinc 4 1, 3, 0, 0, 0, 0), (0, 0, 0)), ((55, .goto (-40), 3, 0, 0, 0, 0), (0, 0, 0))] (by decide +kernel) rfl ?_
  exact hx_pick [0, 1, 2, 3, 4] h1

/-- partsOf from 64 on -/
theorem hr104_64 {xs : List Int32} {n : Nat} {Q : hQ} {m : gx_M} {x3 x4 x5 : Int}
    (h1 : (12 ≤ x5) → Q (some (.inl x4)) m)
    (h2 : (x5 < 12) → hxn xs n yp_m105 0 [(0, .inr (.inl 76)), (1, .inl x5)] [] m (fun r m' => hxn xs n yp_m104 77 [(0, .inr (.inl 76)), (3, .inl x3), (4, .inl x4), (5, .inl x5)] (hrs r ++ []) m' Q)) : hxn xs (n + 1) yp_m104 64 [(0, .inr (.inl 76)), (3, .inl x3), (4, .inl x4), (5, .inl x5)] [] m Q := by
  refine hx_blks (npc := 68) (L' := [(0, .inr (.inl 76)), (3, .inl x3), (4, .inl x4), (5, .inl x5)]) (st' := [.inl 12, .inl x5]) (m' := m) ((64, .iload 5, 2, 0, 0, 0, 0), (0, 0, 0)) [((66, .bipush 12, 2, 0, 0, 0, 0), (0, 0, 0))] (by decide +kernel) rfl ?_
  refine hx_cmp .ge 114 (by decide +kernel) (fun c1 => ?_) (fun c1 => ?_)
  · have c1 : 12 ≤ x5 := c1
    refine hx_blk (npc := 116) (L' := [(0, .inr (.inl 76)), (3, .inl x3), (4, .inl x4), (5, .inl x5)]) (st' := [.inl x4]) (m' := m) [((114, .iload 4, 2, 0, 0, 0, 0), (0, 0, 0))] (by decide +kernel) rfl ?_
    exact hx_reti (by decide +kernel) (h1 c1)
  · have c1 : x5 < 12 := by have h : ¬ (12 ≤ x5) := c1; omega
    refine hx_blk (npc := 74) (L' := [(0, .inr (.inl 76)), (3, .inl x3), (4, .inl x4), (5, .inl x5)]) (st' := [.inl x5, .inr (.inl 76)]) (m' := m) [((71, .aload_n 0, 1, 0, 0, 0, 0), (0, 0, 0)), ((72, .iload 5, 2, 0, 0, 0, 0), (0, 0, 0))] (by decide +kernel) rfl ?_
    exact hx_call (E := (74, .invokevirtual 78, 3, 105, 0, 4105, 0)) (M' := yp_m105) [.inr (.inl 76), .inl x5] [] rfl (by decide +kernel) rfl ⟨rfl, rfl⟩ rfl rfl (hx_mono (h2 c1) (fun r m' h' => hx_pick [0, 3, 4, 5] h'))

/-- partsOf from 77 on -/
theorem hr104_77 {xs : List Int32} {n : Nat} {Q : hQ} {m : gx_M} {x3 x4 x5 s0 : Int}
    (h1 : ((gx_and (gx_shr (m 80 (x3).toNat) x5) 1) = 0) → hxn xs n yp_m104 64 [(0, .inr (.inl 76)), (3, .inl x3), (4, .inl x4), (5, .inl (gx_w (x5 + 1)))] [] m Q)
    (h2 : ((gx_and (gx_shr (m 80 (x3).toNat) x5) 1) ≠ 0) → (s0 ≤ 0) → hxn xs n yp_m104 64 [(0, .inr (.inl 76)), (3, .inl x3), (4, .inl x4), (5, .inl (gx_w (x5 + 1)))] [] m Q)
    (h3 : ((gx_and (gx_shr (m 80 (x3).toNat) x5) 1) ≠ 0) → (0 < s0) → hxn xs n yp_m104 64 [(0, .inr (.inl 76)), (3, .inl x3), (4, .inl (gx_w (x4 + (gx_w (Int.tdiv 60 s0))))), (5, .inl (gx_w (x5 + 1)))] [] m Q) : hxn xs (n + 1) yp_m104 77 [(0, .inr (.inl 76)), (3, .inl x3), (4, .inl x4), (5, .inl x5)] [.inl s0] m Q := by
  have f1 := gx_and_bd (gx_shr (m 80 (x3).toNat) x5) 1 (by decide)
  refine hx_blks (npc := 90) (L' := [(0, .inr (.inl 76)), (3, .inl x3), (4, .inl x4), (5, .inl x5), (6, .inl s0)]) (st' := [.inl (gx_and (gx_shr (m 80 (x3).toNat) x5) 1)]) (m' := m) ((77, .istore 6, 2, 0, 0, 0, 0), (0, 0, 0)) [((79, .aload_n 0, 1, 0, 0, 0, 0), (0, 0, 0)), ((80, .getfield 21, 3, 7, 4, 2077, 0), (1, 76, 80)), ((83, .iload_n 3, 1, 0, 0, 0, 0), (0, 0, 0)), ((84, .iaload, 1, 0, 0, 0, 0), (0, 80, 0)), ((85, .iload 5, 2, 0, 0, 0, 0), (0, 0, 0)), ((87, .ishr, 1, 0, 0, 0, 0), (0, 0, 0)), ((88, .iconst 1, 1, 0, 0, 0, 0), (0, 0, 0)), ((89, .iand, 1, 0, 0, 0, 0), (0, 0, 0))] (by decide +kernel) rfl ?_
  refine hx_if .eq 108 (by decide +kernel) (fun c1 => ?_) (fun c1 => ?_)
  · have c1 : (gx_and (gx_shr (m 80 (x3).toNat) x5) 1) = 0 := c1
    refine hx_blk (npc := 64) (L' := [(0, .inr (.inl 76)), (3, .inl x3), (4, .inl x4), (5, .inl (gx_w (x5 + 1))), (6, .inl s0)]) (st' := []) (m' := m) [((108, .iinc 5 1, 3, 0, 0, 0, 0), (0, 0, 0)), ((111, .goto (-47), 3, 0, 0, 0, 0), (0, 0, 0))] (by decide +kernel) rfl ?_
    exact hx_pick [0, 3, 4, 5] (h1 c1)
  · have c1 : (gx_and (gx_shr (m 80 (x3).toNat) x5) 1) ≠ 0 := c1
    refine hx_blk (npc := 95) (L' := [(0, .inr (.inl 76)), (3, .inl x3), (4, .inl x4), (5, .inl x5), (6, .inl s0)]) (st' := [.inl s0]) (m' := m) [((93, .iload 6, 2, 0, 0, 0, 0), (0, 0, 0))] (by decide +kernel) rfl ?_
    refine hx_if .le 108 (by decide +kernel) (fun c2 => ?_) (fun c2 => ?_)
    · have c2 : s0 ≤ 0 := c2
      refine hx_blk (npc := 64) (L' := [(0, .inr (.inl 76)), (3, .inl x3), (4, .inl x4), (5, .inl (gx_w (x5 + 1))), (6, .inl s0)]) (st' := []) (m' := m) [((108, .iinc 5 1, 3, 0, 0, 0, 0), (0, 0, 0)), ((111, .goto (-47), 3, 0, 0, 0, 0), (0, 0, 0))] (by decide +kernel) rfl ?_
      exact hx_pick [0, 3, 4, 5] (h2 c1 c2)
    · have c2 : 0 < s0 := by have h : ¬ (s0 ≤ 0) := c2; omega
      refine hx_blk (npc := 64) (L' := [(0, .inr (.inl 76)), (3, .inl x3), (4, .inl (gx_w (x4 + (gx_w (Int.tdiv 60 s0))))), (5, .inl (gx_w (x5 + 1))), (6, .inl s0)]) (st' := []) (m' := m) [((98, .iload 4, 2, 0, 0, 0, 0), (0, 0, 0)), ((100, .bipush 60, 2, 0, 0, 0, 0), (0, 0, 0)), ((102, .iload 6, 2, 0, 0, 0, 0), (0, 0, 0)), ((104, .idiv, 1, 0, 0, 0, 0), (0, 0, 0)), ((105, .iadd, 1, 0, 0, 0, 0), (0, 0, 0)), ((106, .istore 4, 2, 0, 0, 0, 0), (0, 0, 0)), ((108, .iinc 5 1, 3, 0, 0, 0, 0), (0, 0, 0)), ((111, .goto (-47), 3, 0, 0, 0, 0), (0, 0, 0))] (by decide +kernel) rfl ?_
      exact hx_pick [0, 3, 4, 5] (h3 c1 c2)

/-- commonDivisor from 0 on -/
theorem hr106_0 {xs : List Int32} {n : Nat} {Q : hQ} {m : gx_M} {x0 x1 : Int}
    (h1 : hxn xs n yp_m106 2 [(0, .inl x0), (1, .inl x1), (2, .inl 0)] [] m Q) : hxn xs (n + 1) yp_m106 0 [(0, .inl x0), (1, .inl x1)] [] m Q := by
  refine hx_blks (npc := 2) (L' := [(0, .inl x0), (1, .inl x1), (2, .inl 0)]) (st' := []) (m' := m) ((0, .iconst 0, 1, 0, 0, 0, 0), (0, 0, 0)) [((1, .istore_n 2, 1, 0, 0, 0, 0), (0, 0, 0))] (by decide +kernel) rfl ?_
  exact hx_pick [0, 1, 2] h1

/-- commonDivisor from 2 on -/
theorem hr106_2 {xs : List Int32} {n : Nat} {Q : hQ} {m : gx_M} {x0 x1 x2 : Int}
    (h1 : (64 ≤ x2) → Q (some (.inl x0)) m)
    (h2 : (x2 < 64) → (x1 = 0) → Q (some (.inl x0)) m)
    (h3 : (x2 < 64) → (x1 ≠ 0) → hxn xs n yp_m106 2 [(0, .inl x1), (1, .inl (Int.tmod x0 x1)), (2, .inl (gx_w (x2 + 1)))] [] m Q) : hxn xs (n + 1) yp_m106 2 [(0, .inl x0), (1, .inl x1), (2, .inl x2)] [] m Q := by
  refine hx_blks (npc := 5) (L' := [(0, .inl x0), (1, .inl x1), (2, .inl x2)]) (st' := [.inl 64, .inl x2]) (m' := m) ((2, .iload_n 2, 1, 0, 0, 0, 0), (0, 0, 0)) [((3, .bipush 64, 2, 0, 0, 0, 0), (0, 0, 0))] (by decide +kernel) rfl ?_
  refine hx_cmp .ge 26 (by decide +kernel) (fun c1 => ?_) (fun c1 => ?_)
  · have c1 : 64 ≤ x2 := c1
    refine hx_blk (npc := 27) (L' := [(0, .inl x0), (1, .inl x1), (2, .inl x2)]) (st' := [.inl x0]) (m' := m) [((26, .iload_n 0, 1, 0, 0, 0, 0), (0, 0, 0))] (by decide +kernel) rfl ?_
    exact hx_reti (by decide +kernel) (h1 c1)
  · have c1 : x2 < 64 := by have h : ¬ (64 ≤ x2) := c1; omega
    refine hx_blk (npc := 9) (L' := [(0, .inl x0), (1, .inl x1), (2, .inl x2)]) (st' := [.inl x1]) (m' := m) [((8, .iload_n 1, 1, 0, 0, 0, 0), (0, 0, 0))] (by decide +kernel) rfl ?_
    refine hx_if .eq 26 (by decide +kernel) (fun c2 => ?_) (fun c2 => ?_)
    · have c2 : x1 = 0 := c2
      refine hx_blk (npc := 27) (L' := [(0, .inl x0), (1, .inl x1), (2, .inl x2)]) (st' := [.inl x0]) (m' := m) [((26, .iload_n 0, 1, 0, 0, 0, 0), (0, 0, 0))] (by decide +kernel) rfl ?_
      exact hx_reti (by decide +kernel) (h2 c1 c2)
    · have c2 : x1 ≠ 0 := c2
      refine hx_blk (npc := 2) (L' := [(0, .inl x1), (1, .inl (Int.tmod x0 x1)), (2, .inl (gx_w (x2 + 1))), (3, .inl (Int.tmod x0 x1))]) (st' := []) (m' := m) [((12, .iload_n 0, 1, 0, 0, 0, 0), (0, 0, 0)), ((13, .iload_n 1, 1, 0, 0, 0, 0), (0, 0, 0)), ((14, .irem, 1, 0, 0, 0, 0), (0, 0, 0)), ((15, .istore_n 3, 1, 0, 0, 0, 0), (0, 0, 0)), ((16, .iload_n 1, 1, 0, 0, 0, 0), (0, 0, 0)), ((17, .istore_n 0, 1, 0, 0, 0, 0), (0, 0, 0)), ((18, .iload_n 3, 1, 0, 0, 0, 0), (0, 0, 0)), ((19, .istore_n 1, 1, 0, 0, 0, 0), (0, 0, 0)), ((20, .iinc 2 1, 3, 0, 0, 0, 0), (0, 0, 0)), ((23, .goto (-21), 3, 0, 0, 0, 0), (0, 0, 0))] (by decide +kernel) rfl ?_
      exact hx_pick [0, 1, 2] (h3 c1 c2)

/-- share from 0 on -/
theorem hr103_0 {xs : List Int32} {n : Nat} {Q : hQ} {m : gx_M} {x1 x2 x3 : Int}
    (h1 : (cGrp 5 m x1) → (cPers 5 m x2) → (x3 < 0) → Q (some (.inl (-1))) m)
    (h2 : (cGrp 5 m x1) → (cPers 5 m x2) → (0 ≤ x3) → (x3 ≤ 1) → hxn xs n yp_m63 0 [(0, .inl x1)] [] m (fun r m' => hxn xs n yp_m103 37 [(0, .inr (.inl 0)), (1, .inl x1), (2, .inl x2), (3, .inl x3)] (hrs r ++ []) m' Q))
    (h3 : (cGrp 5 m x1) → (cPers 5 m x2) → (0 ≤ x3) → (1 < x3) → Q (some (.inl (-1))) m)
    (h4 : (cGrp 5 m x1) → (¬ (cPers 5 m x2)) → Q (some (.inl (-1))) m)
    (h5 : (¬ (cGrp 5 m x1)) → Q (some (.inl (-1))) m) : hxn xs (n + 1) yp_m103 0 [(0, .inr (.inl 0)), (1, .inl x1), (2, .inl x2), (3, .inl x3)] [] m Q := by
  refine hx_blks (npc := 5) (L' := [(0, .inr (.inl 0)), (1, .inl x1), (2, .inl x2), (3, .inl x3)]) (st' := [.inl x1, .inr (.inl 5)]) (m' := m) ((0, .aload_n 0, 1, 0, 0, 0, 0), (0, 0, 0)) [((1, .getfield 26, 3, 9, 2, 2121, 0), (1, 0, 5)), ((4, .iload_n 1, 1, 0, 0, 0, 0), (0, 0, 0))] (by decide +kernel) rfl ?_
  refine hx_call (E := (5, .invokevirtual 98, 3, 14, 0, 2175, 0)) (M' := yp_m14) [.inr (.inl 5), .inl x1] [] rfl (by decide +kernel) rfl ⟨rfl, rfl⟩ rfl rfl (hs14_5 (fun c1 => ?_) (fun c1 => ?_))
  · have c1 : cGrp 5 m x1 := c1
    show hxn xs n yp_m103 8 [(0, .inr (.inl 0)), (1, .inl x1), (2, .inl x2), (3, .inl x3)] [.inl 1] m Q
    refine hx_if .eq 31 (by decide +kernel) (fun c2 => ?_) (fun c2 => ?_)
    · have c2 : (1 : Int) = 0 := c2
      exfalso; omega
    · have c2 : (1 : Int) ≠ 0 := c2
      refine hx_blk (npc := 16) (L' := [(0, .inr (.inl 0)), (1, .inl x1), (2, .inl x2), (3, .inl x3)]) (st' := [.inl x2, .inr (.inl 5)]) (m' := m) [((11, .aload_n 0, 1, 0, 0, 0, 0), (0, 0, 0)), ((12, .getfield 26, 3, 9, 2, 2121, 0), (1, 0, 5)), ((15, .iload_n 2, 1, 0, 0, 0, 0), (0, 0, 0))] (by decide +kernel) rfl ?_
      refine hx_call (E := (16, .invokevirtual 94, 3, 13, 0, 2171, 0)) (M' := yp_m13) [.inr (.inl 5), .inl x2] [] rfl (by decide +kernel) rfl ⟨rfl, rfl⟩ rfl rfl (hs13_5 (fun c2 => ?_) (fun c2 => ?_))
      · have c2 : cPers 5 m x2 := c2
        show hxn xs n yp_m103 19 [(0, .inr (.inl 0)), (1, .inl x1), (2, .inl x2), (3, .inl x3)] [.inl 1] m Q
        refine hx_if .eq 31 (by decide +kernel) (fun c3 => ?_) (fun c3 => ?_)
        · have c3 : (1 : Int) = 0 := c3
          exfalso; omega
        · have c3 : (1 : Int) ≠ 0 := c3
          refine hx_blk (npc := 23) (L' := [(0, .inr (.inl 0)), (1, .inl x1), (2, .inl x2), (3, .inl x3)]) (st' := [.inl x3]) (m' := m) [((22, .iload_n 3, 1, 0, 0, 0, 0), (0, 0, 0))] (by decide +kernel) rfl ?_
          refine hx_if .lt 31 (by decide +kernel) (fun c3 => ?_) (fun c3 => ?_)
          · have c3 : x3 < 0 := c3
            refine hx_blk (npc := 32) (L' := [(0, .inr (.inl 0)), (1, .inl x1), (2, .inl x2), (3, .inl x3)]) (st' := [.inl (-1)]) (m' := m) [((31, .iconst (-1), 1, 0, 0, 0, 0), (0, 0, 0))] (by decide +kernel) rfl ?_
            exact hx_reti (by decide +kernel) (h1 c1 c2 c3)
          · have c3 : 0 ≤ x3 := by have h : ¬ (x3 < 0) := c3; omega
            refine hx_blk (npc := 28) (L' := [(0, .inr (.inl 0)), (1, .inl x1), (2, .inl x2), (3, .inl x3)]) (st' := [.inl 1, .inl x3]) (m' := m) [((26, .iload_n 3, 1, 0, 0, 0, 0), (0, 0, 0)), ((27, .iconst 1, 1, 0, 0, 0, 0), (0, 0, 0))] (by decide +kernel) rfl ?_
            refine hx_cmp .le 33 (by decide +kernel) (fun c4 => ?_) (fun c4 => ?_)
            · have c4 : x3 ≤ 1 := c4
              refine hx_blk (npc := 34) (L' := [(0, .inr (.inl 0)), (1, .inl x1), (2, .inl x2), (3, .inl x3)]) (st' := [.inl x1]) (m' := m) [((33, .iload_n 1, 1, 0, 0, 0, 0), (0, 0, 0))] (by decide +kernel) rfl ?_
              exact hx_call (E := (34, .invokestatic 228, 3, 63, 0, 4056, 0)) (M' := yp_m63) [.inl x1] [] rfl (by decide +kernel) rfl ⟨rfl, rfl⟩ rfl rfl (hx_mono (h2 c1 c2 c3 c4) (fun r m' h' => hx_pick [0, 1, 2, 3] h'))
            · have c4 : 1 < x3 := by have h : ¬ (x3 ≤ 1) := c4; omega
              refine hx_blk (npc := 32) (L' := [(0, .inr (.inl 0)), (1, .inl x1), (2, .inl x2), (3, .inl x3)]) (st' := [.inl (-1)]) (m' := m) [((31, .iconst (-1), 1, 0, 0, 0, 0), (0, 0, 0))] (by decide +kernel) rfl ?_
              exact hx_reti (by decide +kernel) (h3 c1 c2 c3 c4)
      · have c2 : ¬ (cPers 5 m x2) := c2
        show hxn xs n yp_m103 19 [(0, .inr (.inl 0)), (1, .inl x1), (2, .inl x2), (3, .inl x3)] [.inl 0] m Q
        refine hx_if .eq 31 (by decide +kernel) (fun c3 => ?_) (fun c3 => ?_)
        · have c3 : (0 : Int) = 0 := c3
          refine hx_blk (npc := 32) (L' := [(0, .inr (.inl 0)), (1, .inl x1), (2, .inl x2), (3, .inl x3)]) (st' := [.inl (-1)]) (m' := m) [((31, .iconst (-1), 1, 0, 0, 0, 0), (0, 0, 0))] (by decide +kernel) rfl ?_
          exact hx_reti (by decide +kernel) (h4 c1 c2)
        · have c3 : (0 : Int) ≠ 0 := c3
          exfalso; omega
  · have c1 : ¬ (cGrp 5 m x1) := c1
    show hxn xs n yp_m103 8 [(0, .inr (.inl 0)), (1, .inl x1), (2, .inl x2), (3, .inl x3)] [.inl 0] m Q
    refine hx_if .eq 31 (by decide +kernel) (fun c2 => ?_) (fun c2 => ?_)
    · have c2 : (0 : Int) = 0 := c2
      refine hx_blk (npc := 32) (L' := [(0, .inr (.inl 0)), (1, .inl x1), (2, .inl x2), (3, .inl x3)]) (st' := [.inl (-1)]) (m' := m) [((31, .iconst (-1), 1, 0, 0, 0, 0), (0, 0, 0))] (by decide +kernel) rfl ?_
      exact hx_reti (by decide +kernel) (h5 c1)
    · have c2 : (0 : Int) ≠ 0 := c2
      exfalso; omega

/-- share from 37 on -/
theorem hr103_37 {xs : List Int32} {n : Nat} {Q : hQ} {m : gx_M} {x1 x2 x3 s0 : Int}
    (h1 : (5 < s0) → Q (some (.inl (-1))) m)
    (h2 : (s0 ≤ 5) → ((gx_and (gx_shr x1 x2) 1) ≠ 0) → hxn xs n yp_m104 0 [(0, .inr (.inl 76)), (1, .inr (.inl 5)), (2, .inl x1), (3, .inl x2)] [] m (fun r m' => hxn xs n yp_m103 66 [(3, .inl x3)] (hrs r ++ [.inl 100]) m' Q))
    (h3 : (s0 ≤ 5) → ((gx_and (gx_shr x1 x2) 1) = 0) → Q (some (.inl (-1))) m) : hxn xs (n + 1) yp_m103 37 [(0, .inr (.inl 0)), (1, .inl x1), (2, .inl x2), (3, .inl x3)] [.inl s0] m Q := by
  refine hx_blks (npc := 38) (L' := [(0, .inr (.inl 0)), (1, .inl x1), (2, .inl x2), (3, .inl x3)]) (st' := [.inl 5, .inl s0]) (m' := m) ((37, .iconst 5, 1, 0, 0, 0, 0), (0, 0, 0)) [] (by decide +kernel) rfl ?_
  refine hx_cmp .gt 49 (by decide +kernel) (fun c1 => ?_) (fun c1 => ?_)
  · have c1 : 5 < s0 := c1
    refine hx_blk (npc := 50) (L' := [(0, .inr (.inl 0)), (1, .inl x1), (2, .inl x2), (3, .inl x3)]) (st' := [.inl (-1)]) (m' := m) [((49, .iconst (-1), 1, 0, 0, 0, 0), (0, 0, 0))] (by decide +kernel) rfl ?_
    exact hx_reti (by decide +kernel) (h1 c1)
  · have c1 : s0 ≤ 5 := by have h : ¬ (5 < s0) := c1; omega
    have f1 := gx_and_bd (gx_shr x1 x2) 1 (by decide)
    refine hx_blk (npc := 46) (L' := [(0, .inr (.inl 0)), (1, .inl x1), (2, .inl x2), (3, .inl x3)]) (st' := [.inl (gx_and (gx_shr x1 x2) 1)]) (m' := m) [((41, .iload_n 1, 1, 0, 0, 0, 0), (0, 0, 0)), ((42, .iload_n 2, 1, 0, 0, 0, 0), (0, 0, 0)), ((43, .ishr, 1, 0, 0, 0, 0), (0, 0, 0)), ((44, .iconst 1, 1, 0, 0, 0, 0), (0, 0, 0)), ((45, .iand, 1, 0, 0, 0, 0), (0, 0, 0))] (by decide +kernel) rfl ?_
    refine hx_if .ne 51 (by decide +kernel) (fun c2 => ?_) (fun c2 => ?_)
    · have c2 : (gx_and (gx_shr x1 x2) 1) ≠ 0 := c2
      refine hx_blk (npc := 63) (L' := [(0, .inr (.inl 0)), (1, .inl x1), (2, .inl x2), (3, .inl x3)]) (st' := [.inl x2, .inl x1, .inr (.inl 5), .inr (.inl 76), .inl 100]) (m' := m) [((51, .bipush 100, 2, 0, 0, 0, 0), (0, 0, 0)), ((53, .aload_n 0, 1, 0, 0, 0, 0), (0, 0, 0)), ((54, .getfield 74, 3, 9, 10, 2129, 0), (1, 0, 76)), ((57, .aload_n 0, 1, 0, 0, 0, 0), (0, 0, 0)), ((58, .getfield 26, 3, 9, 2, 2121, 0), (1, 0, 5)), ((61, .iload_n 1, 1, 0, 0, 0, 0), (0, 0, 0)), ((62, .iload_n 2, 1, 0, 0, 0, 0), (0, 0, 0))] (by decide +kernel) rfl ?_
      exact hx_call (E := (63, .invokevirtual 249, 3, 104, 0, 4099, 0)) (M' := yp_m104) [.inr (.inl 76), .inr (.inl 5), .inl x1, .inl x2] [.inl 100] rfl (by decide +kernel) rfl ⟨rfl, rfl⟩ rfl rfl (hx_mono (h2 c1 c2) (fun r m' h' => hx_pick [3] h'))
    · have c2 : (gx_and (gx_shr x1 x2) 1) = 0 := by have h : ¬ ((gx_and (gx_shr x1 x2) 1) ≠ 0) := c2; omega
      refine hx_blk (npc := 50) (L' := [(0, .inr (.inl 0)), (1, .inl x1), (2, .inl x2), (3, .inl x3)]) (st' := [.inl (-1)]) (m' := m) [((49, .iconst (-1), 1, 0, 0, 0, 0), (0, 0, 0))] (by decide +kernel) rfl ?_
      exact hx_reti (by decide +kernel) (h3 c1 c2)

/-- share from 66 on -/
theorem hr103_66 {xs : List Int32} {n : Nat} {Q : hQ} {m : gx_M} {x3 s0 s1 : Int}
    (h1 : hxn xs n yp_m106 0 [(0, .inl (gx_w (s0 * s1))), (1, .inl 60)] [] m (fun r m' => hxn xs n yp_m103 76 [(3, .inl x3), (4, .inl (gx_w (s0 * s1)))] (hrs r ++ []) m' Q)) : hxn xs (n + 1) yp_m103 66 [(3, .inl x3)] [.inl s1, .inl s0] m Q := by
  refine hx_blks (npc := 73) (L' := [(3, .inl x3), (4, .inl (gx_w (s0 * s1)))]) (st' := [.inl 60, .inl (gx_w (s0 * s1))]) (m' := m) ((66, .imul, 1, 0, 0, 0, 0), (0, 0, 0)) [((67, .istore 4, 2, 0, 0, 0, 0), (0, 0, 0)), ((69, .iload 4, 2, 0, 0, 0, 0), (0, 0, 0)), ((71, .bipush 60, 2, 0, 0, 0, 0), (0, 0, 0))] (by decide +kernel) rfl ?_
  exact hx_call (E := (73, .invokestatic 252, 3, 106, 0, 4109, 0)) (M' := yp_m106) [.inl (gx_w (s0 * s1)), .inl 60] [] rfl (by decide +kernel) rfl ⟨rfl, rfl⟩ rfl rfl (hx_mono h1 (fun r m' h' => hx_pick [3, 4] h'))

/-- share from 76 on -/
theorem hr103_76 {xs : List Int32} {n : Nat} {Q : hQ} {m : gx_M} {x3 x4 s0 : Int}
    (h1 : (s0 ≠ 0) → (x3 ≠ 0) → Q (some (.inl (gx_w (Int.tdiv 60 s0)))) m)
    (h2 : (s0 ≠ 0) → (x3 = 0) → Q (some (.inl (gx_w (Int.tdiv x4 s0)))) m)
    (h3 : (s0 = 0) → Q (some (.inl (-1))) m) : hxn xs (n + 1) yp_m103 76 [(3, .inl x3), (4, .inl x4)] [.inl s0] m Q := by
  refine hx_blks (npc := 80) (L' := [(3, .inl x3), (4, .inl x4), (5, .inl s0)]) (st' := [.inl s0]) (m' := m) ((76, .istore 5, 2, 0, 0, 0, 0), (0, 0, 0)) [((78, .iload 5, 2, 0, 0, 0, 0), (0, 0, 0))] (by decide +kernel) rfl ?_
  refine hx_if .ne 85 (by decide +kernel) (fun c1 => ?_) (fun c1 => ?_)
  · have c1 : s0 ≠ 0 := c1
    refine hx_blk (npc := 86) (L' := [(3, .inl x3), (4, .inl x4), (5, .inl s0)]) (st' := [.inl x3]) (m' := m) [((85, .iload_n 3, 1, 0, 0, 0, 0), (0, 0, 0))] (by decide +kernel) rfl ?_
    refine hx_if .ne 94 (by decide +kernel) (fun c2 => ?_) (fun c2 => ?_)
    · have c2 : x3 ≠ 0 := c2
      refine hx_blk (npc := 99) (L' := [(3, .inl x3), (4, .inl x4), (5, .inl s0)]) (st' := [.inl (gx_w (Int.tdiv 60 s0))]) (m' := m) [((94, .bipush 60, 2, 0, 0, 0, 0), (0, 0, 0)), ((96, .iload 5, 2, 0, 0, 0, 0), (0, 0, 0)), ((98, .idiv, 1, 0, 0, 0, 0), (0, 0, 0))] (by decide +kernel) rfl ?_
      exact hx_reti (by decide +kernel) (h1 c1 c2)
    · have c2 : x3 = 0 := by have h : ¬ (x3 ≠ 0) := c2; omega
      refine hx_blk (npc := 99) (L' := [(3, .inl x3), (4, .inl x4), (5, .inl s0)]) (st' := [.inl (gx_w (Int.tdiv x4 s0))]) (m' := m) [((89, .iload 4, 2, 0, 0, 0, 0), (0, 0, 0)), ((91, .goto 5, 3, 0, 0, 0, 0), (0, 0, 0)), ((96, .iload 5, 2, 0, 0, 0, 0), (0, 0, 0)), ((98, .idiv, 1, 0, 0, 0, 0), (0, 0, 0))] (by decide +kernel) rfl ?_
      exact hx_reti (by decide +kernel) (h2 c1 c2)
  · have c1 : s0 = 0 := by have h : ¬ (s0 ≠ 0) := c1; omega
    refine hx_blk (npc := 84) (L' := [(3, .inl x3), (4, .inl x4), (5, .inl s0)]) (st' := [.inl (-1)]) (m' := m) [((83, .iconst (-1), 1, 0, 0, 0, 0), (0, 0, 0))] (by decide +kernel) rfl ?_
    exact hx_reti (by decide +kernel) (h3 c1)

/-- orders from 0 on -/
theorem hr239_0 {xs : List Int32} {n : Nat} {Q : hQ} {m : gx_M} {x0 : Int}
    (h1 : hxn xs n yp_m239 4 [(0, .inl x0), (1, .inl 1), (2, .inl 2)] [] m Q) : hxn xs (n + 1) yp_m239 0 [(0, .inl x0)] [] m Q := by
  refine hx_blks (npc := 4) (L' := [(0, .inl x0), (1, .inl 1), (2, .inl 2)]) (st' := []) (m' := m) ((0, .iconst 1, 1, 0, 0, 0, 0), (0, 0, 0)) [((1, .istore_n 1, 1, 0, 0, 0, 0), (0, 0, 0)), ((2, .iconst 2, 1, 0, 0, 0, 0), (0, 0, 0)), ((3, .istore_n 2, 1, 0, 0, 0, 0), (0, 0, 0))] (by decide +kernel) rfl ?_
  exact hx_pick [0, 1, 2] h1

/-- orders from 4 on -/
theorem hr239_4 {xs : List Int32} {n : Nat} {Q : hQ} {m : gx_M} {x0 x1 x2 : Int}
    (h1 : (x0 < x2) → Q (some (.inl x1)) m)
    (h2 : (x2 ≤ x0) → hxn xs n yp_m239 4 [(0, .inl x0), (1, .inl (gx_w (x1 * x2))), (2, .inl (gx_w (x2 + 1)))] [] m Q) : hxn xs (n + 1) yp_m239 4 [(0, .inl x0), (1, .inl x1), (2, .inl x2)] [] m Q := by
  refine hx_blks (npc := 6) (L' := [(0, .inl x0), (1, .inl x1), (2, .inl x2)]) (st' := [.inl x0, .inl x2]) (m' := m) ((4, .iload_n 2, 1, 0, 0, 0, 0), (0, 0, 0)) [((5, .iload_n 0, 1, 0, 0, 0, 0), (0, 0, 0))] (by decide +kernel) rfl ?_
  refine hx_cmp .gt 19 (by decide +kernel) (fun c1 => ?_) (fun c1 => ?_)
  · have c1 : x0 < x2 := c1
    refine hx_blk (npc := 20) (L' := [(0, .inl x0), (1, .inl x1), (2, .inl x2)]) (st' := [.inl x1]) (m' := m) [((19, .iload_n 1, 1, 0, 0, 0, 0), (0, 0, 0))] (by decide +kernel) rfl ?_
    exact hx_reti (by decide +kernel) (h1 c1)
  · have c1 : x2 ≤ x0 := by have h : ¬ (x0 < x2) := c1; omega
    refine hx_blk (npc := 4) (L' := [(0, .inl x0), (1, .inl (gx_w (x1 * x2))), (2, .inl (gx_w (x2 + 1)))]) (st' := []) (m' := m) [((9, .iload_n 1, 1, 0, 0, 0, 0), (0, 0, 0)), ((10, .iload_n 2, 1, 0, 0, 0, 0), (0, 0, 0)), ((11, .imul, 1, 0, 0, 0, 0), (0, 0, 0)), ((12, .istore_n 1, 1, 0, 0, 0, 0), (0, 0, 0)), ((13, .iinc 2 1, 3, 0, 0, 0, 0), (0, 0, 0)), ((16, .goto (-12), 3, 0, 0, 0, 0), (0, 0, 0))] (by decide +kernel) rfl ?_
    exact hx_pick [0, 1, 2] (h2 c1)

/-- worthOfAll from 0 on -/
theorem hr240_0 {xs : List Int32} {n : Nat} {Q : hQ} {m : gx_M} {x1 : Int}
    (h1 : hxn xs n yp_m240 4 [(0, .inr (.inl 86)), (1, .inl x1), (2, .inl 0), (3, .inl 0)] [] m Q) : hxn xs (n + 1) yp_m240 0 [(0, .inr (.inl 86)), (1, .inl x1)] [] m Q := by
  refine hx_blks (npc := 4) (L' := [(0, .inr (.inl 86)), (1, .inl x1), (2, .inl 0), (3, .inl 0)]) (st' := []) (m' := m) ((0, .iconst 0, 1, 0, 0, 0, 0), (0, 0, 0)) [((1, .istore_n 2, 1, 0, 0, 0, 0), (0, 0, 0)), ((2, .iconst 0, 1, 0, 0, 0, 0), (0, 0, 0)), ((3, .istore_n 3, 1, 0, 0, 0, 0), (0, 0, 0))] (by decide +kernel) rfl ?_
  exact hx_pick [0, 1, 2, 3] h1

/-- worthOfAll from 4 on -/
theorem hr240_4 {xs : List Int32} {n : Nat} {Q : hQ} {m : gx_M} {x1 x2 x3 : Int}
    (h1 : (8 ≤ x3) → hxn xs n yp_m206 0 [(0, .inl x2)] [] m (fun r m' => hxn xs n yp_m240 39 [] (hrs r ++ [.inl 100]) m' Q))
    (h2 : (x3 < 8) → (gx_and (gx_shr x1 x3) 1 = 1) → hxn xs n yp_m207 0 [(0, .inr (.inl 86)), (1, .inl x3), (2, .inl (-1))] [] m (fun r m' => hxn xs n yp_m240 25 [(0, .inr (.inl 86)), (1, .inl x1), (3, .inl x3)] (hrs r ++ [.inl x2]) m' Q))
    (h3 : (x3 < 8) → (¬ (gx_and (gx_shr x1 x3) 1 = 1)) → hxn xs n yp_m240 4 [(0, .inr (.inl 86)), (1, .inl x1), (2, .inl x2), (3, .inl (gx_w (x3 + 1)))] [] m Q) : hxn xs (n + 1) yp_m240 4 [(0, .inr (.inl 86)), (1, .inl x1), (2, .inl x2), (3, .inl x3)] [] m Q := by
  refine hx_blks (npc := 7) (L' := [(0, .inr (.inl 86)), (1, .inl x1), (2, .inl x2), (3, .inl x3)]) (st' := [.inl 8, .inl x3]) (m' := m) ((4, .iload_n 3, 1, 0, 0, 0, 0), (0, 0, 0)) [((5, .bipush 8, 2, 0, 0, 0, 0), (0, 0, 0))] (by decide +kernel) rfl ?_
  refine hx_cmp .ge 33 (by decide +kernel) (fun c1 => ?_) (fun c1 => ?_)
  · have c1 : 8 ≤ x3 := c1
    refine hx_blk (npc := 36) (L' := [(0, .inr (.inl 86)), (1, .inl x1), (2, .inl x2), (3, .inl x3)]) (st' := [.inl x2, .inl 100]) (m' := m) [((33, .bipush 100, 2, 0, 0, 0, 0), (0, 0, 0)), ((35, .iload_n 2, 1, 0, 0, 0, 0), (0, 0, 0))] (by decide +kernel) rfl ?_
    exact hx_call (E := (36, .invokestatic 241, 3, 206, 0, 6195, 0)) (M' := yp_m206) [.inl x2] [.inl 100] rfl (by decide +kernel) rfl ⟨rfl, rfl⟩ rfl rfl (hx_mono (h1 c1) (fun r m' h' => hx_pick [] h'))
  · have c1 : x3 < 8 := by have h : ¬ (8 ≤ x3) := c1; omega
    refine hx_blk (npc := 12) (L' := [(0, .inr (.inl 86)), (1, .inl x1), (2, .inl x2), (3, .inl x3)]) (st' := [.inl x3, .inl x1]) (m' := m) [((10, .iload_n 1, 1, 0, 0, 0, 0), (0, 0, 0)), ((11, .iload_n 3, 1, 0, 0, 0, 0), (0, 0, 0))] (by decide +kernel) rfl ?_
    refine hx_call (E := (12, .invokestatic 104, 3, 165, 0, 6035, 0)) (M' := yp_m165) [.inl x1, .inl x3] [] rfl (by decide +kernel) rfl ⟨rfl, rfl⟩ rfl rfl (hs165 (fun c2 => ?_) (fun c2 => ?_))
    · have c2 : gx_and (gx_shr x1 x3) 1 = 1 := c2
      show hxn xs n yp_m240 15 [(0, .inr (.inl 86)), (1, .inl x1), (2, .inl x2), (3, .inl x3)] [.inl 1] m Q
      refine hx_if .eq 27 (by decide +kernel) (fun c3 => ?_) (fun c3 => ?_)
      · have c3 : (1 : Int) = 0 := c3
        exfalso; omega
      · have c3 : (1 : Int) ≠ 0 := c3
        refine hx_blk (npc := 22) (L' := [(0, .inr (.inl 86)), (1, .inl x1), (2, .inl x2), (3, .inl x3)]) (st' := [.inl (-1), .inl x3, .inr (.inl 86), .inl x2]) (m' := m) [((18, .iload_n 2, 1, 0, 0, 0, 0), (0, 0, 0)), ((19, .aload_n 0, 1, 0, 0, 0, 0), (0, 0, 0)), ((20, .iload_n 3, 1, 0, 0, 0, 0), (0, 0, 0)), ((21, .iconst (-1), 1, 0, 0, 0, 0), (0, 0, 0))] (by decide +kernel) rfl ?_
        exact hx_call (E := (22, .invokevirtual 244, 3, 207, 0, 6198, 0)) (M' := yp_m207) [.inr (.inl 86), .inl x3, .inl (-1)] [.inl x2] rfl (by decide +kernel) rfl ⟨rfl, rfl⟩ rfl rfl (hx_mono (h2 c1 c2) (fun r m' h' => hx_pick [0, 1, 3] h'))
    · have c2 : ¬ (gx_and (gx_shr x1 x3) 1 = 1) := c2
      show hxn xs n yp_m240 15 [(0, .inr (.inl 86)), (1, .inl x1), (2, .inl x2), (3, .inl x3)] [.inl 0] m Q
      refine hx_if .eq 27 (by decide +kernel) (fun c3 => ?_) (fun c3 => ?_)
      · have c3 : (0 : Int) = 0 := c3
        refine hx_blk (npc := 4) (L' := [(0, .inr (.inl 86)), (1, .inl x1), (2, .inl x2), (3, .inl (gx_w (x3 + 1)))]) (st' := []) (m' := m) [((27, .iinc 3 1, 3, 0, 0, 0, 0), (0, 0, 0)), ((30, .goto (-26), 3, 0, 0, 0, 0), (0, 0, 0))] (by decide +kernel) rfl ?_
        exact hx_pick [0, 1, 2, 3] (h3 c1 c2)
      · have c3 : (0 : Int) ≠ 0 := c3
        exfalso; omega

/-- worthOfAll from 25 on -/
theorem hr240_25 {xs : List Int32} {n : Nat} {Q : hQ} {m : gx_M} {x1 x3 s0 s1 : Int}
    (h1 : hxn xs n yp_m240 4 [(0, .inr (.inl 86)), (1, .inl x1), (2, .inl (gx_or s0 s1)), (3, .inl (gx_w (x3 + 1)))] [] m Q) : hxn xs (n + 1) yp_m240 25 [(0, .inr (.inl 86)), (1, .inl x1), (3, .inl x3)] [.inl s1, .inl s0] m Q := by
  refine hx_blks (npc := 4) (L' := [(0, .inr (.inl 86)), (1, .inl x1), (3, .inl (gx_w (x3 + 1))), (2, .inl (gx_or s0 s1))]) (st' := []) (m' := m) ((25, .ior, 1, 0, 0, 0, 0), (0, 0, 0)) [((26, .istore_n 2, 1, 0, 0, 0, 0), (0, 0, 0)), ((27, .iinc 3 1, 3, 0, 0, 0, 0), (0, 0, 0)), ((30, .goto (-26), 3, 0, 0, 0, 0), (0, 0, 0))] (by decide +kernel) rfl ?_
  exact hx_pick [0, 1, 2, 3] h1

/-- worthOfAll from 39 on -/
theorem hr240_39 {xs : List Int32} {n : Nat} {Q : hQ} {m : gx_M} {s0 s1 : Int}
    (h1 : Q (some (.inl (gx_w (s0 * s1)))) m) : hxn xs (n + 1) yp_m240 39 [] [.inl s1, .inl s0] m Q := by
  refine hx_blks (npc := 40) (L' := []) (st' := [.inl (gx_w (s0 * s1))]) (m' := m) ((39, .imul, 1, 0, 0, 0, 0), (0, 0, 0)) [] (by decide +kernel) rfl ?_
  exact hx_reti (by decide +kernel) h1

/-- gcd from 0 on -/
theorem hr241_0 {xs : List Int32} {n : Nat} {Q : hQ} {m : gx_M} {x0 x1 : Int}
    (h1 : hxn xs n yp_m241 4 [(2, .inl x0), (3, .inl x1)] [] m Q) : hxn xs (n + 1) yp_m241 0 [(0, .inl x0), (1, .inl x1)] [] m Q := by
  refine hx_blks (npc := 4) (L' := [(0, .inl x0), (1, .inl x1), (2, .inl x0), (3, .inl x1)]) (st' := []) (m' := m) ((0, .iload_n 0, 1, 0, 0, 0, 0), (0, 0, 0)) [((1, .istore_n 2, 1, 0, 0, 0, 0), (0, 0, 0)), ((2, .iload_n 1, 1, 0, 0, 0, 0), (0, 0, 0)), ((3, .istore_n 3, 1, 0, 0, 0, 0), (0, 0, 0))] (by decide +kernel) rfl ?_
  exact hx_pick [2, 3] h1

/-- gcd from 4 on -/
theorem hr241_4 {xs : List Int32} {n : Nat} {Q : hQ} {m : gx_M} {x2 x3 : Int}
    (h1 : (x3 = 0) → Q (some (.inl x2)) m)
    (h2 : (x3 ≠ 0) → hxn xs n yp_m241 4 [(2, .inl x3), (3, .inl (Int.tmod x2 x3))] [] m Q) : hxn xs (n + 1) yp_m241 4 [(2, .inl x2), (3, .inl x3)] [] m Q := by
  refine hx_blks (npc := 5) (L' := [(2, .inl x2), (3, .inl x3)]) (st' := [.inl x3]) (m' := m) ((4, .iload_n 3, 1, 0, 0, 0, 0), (0, 0, 0)) [] (by decide +kernel) rfl ?_
  refine hx_if .eq 21 (by decide +kernel) (fun c1 => ?_) (fun c1 => ?_)
  · have c1 : x3 = 0 := c1
    refine hx_blk (npc := 22) (L' := [(2, .inl x2), (3, .inl x3)]) (st' := [.inl x2]) (m' := m) [((21, .iload_n 2, 1, 0, 0, 0, 0), (0, 0, 0))] (by decide +kernel) rfl ?_
    exact hx_reti (by decide +kernel) (h1 c1)
  · have c1 : x3 ≠ 0 := c1
    refine hx_blk (npc := 4) (L' := [(2, .inl x3), (3, .inl (Int.tmod x2 x3)), (4, .inl (Int.tmod x2 x3))]) (st' := []) (m' := m) [((8, .iload_n 2, 1, 0, 0, 0, 0), (0, 0, 0)), ((9, .iload_n 3, 1, 0, 0, 0, 0), (0, 0, 0)), ((10, .irem, 1, 0, 0, 0, 0), (0, 0, 0)), ((11, .istore 4, 2, 0, 0, 0, 0), (0, 0, 0)), ((13, .iload_n 3, 1, 0, 0, 0, 0), (0, 0, 0)), ((14, .istore_n 2, 1, 0, 0, 0, 0), (0, 0, 0)), ((15, .iload 4, 2, 0, 0, 0, 0), (0, 0, 0)), ((17, .istore_n 3, 1, 0, 0, 0, 0), (0, 0, 0)), ((18, .goto (-14), 3, 0, 0, 0, 0), (0, 0, 0))] (by decide +kernel) rfl ?_
    exact hx_pick [2, 3] (h2 c1)

/-- share from 0 on -/
theorem hr238_0 {xs : List Int32} {n : Nat} {Q : hQ} {m : gx_M} {x1 x2 x3 : Int}
    (h1 : ((gx_and x1 (gx_xor (m 87 1128) (-1))) ≠ 0) → Q (some (.inl (-1))) m)
    (h2 : ((gx_and x1 (gx_xor (m 87 1128) (-1))) = 0) → hxn xs n yp_m206 0 [(0, .inl x1)] [] m (fun r m' => hxn xs n yp_m238 19 [(0, .inr (.inl 86)), (1, .inl x1), (2, .inl x2), (3, .inl x3)] (hrs r ++ []) m' Q)) : hxn xs (n + 1) yp_m238 0 [(0, .inr (.inl 86)), (1, .inl x1), (2, .inl x2), (3, .inl x3)] [] m Q := by
  refine hx_blks (npc := 12) (L' := [(0, .inr (.inl 86)), (1, .inl x1), (2, .inl x2), (3, .inl x3)]) (st' := [.inl (gx_and x1 (gx_xor (m 87 1128) (-1)))]) (m' := m) ((0, .iload_n 1, 1, 0, 0, 0, 0), (0, 0, 0)) [((1, .aload_n 0, 1, 0, 0, 0, 0), (0, 0, 0)), ((2, .getfield 7, 3, 10, 0, 5113, 0), (1, 86, 87)), ((5, .sipush 1128, 3, 0, 0, 0, 0), (0, 0, 0)), ((8, .iaload, 1, 0, 0, 0, 0), (0, 87, 0)), ((9, .iconst (-1), 1, 0, 0, 0, 0), (0, 0, 0)), ((10, .ixor, 1, 0, 0, 0, 0), (0, 0, 0)), ((11, .iand, 1, 0, 0, 0, 0), (0, 0, 0))] (by decide +kernel) rfl ?_
  refine hx_if .ne 54 (by decide +kernel) (fun c1 => ?_) (fun c1 => ?_)
  · have c1 : (gx_and x1 (gx_xor (m 87 1128) (-1))) ≠ 0 := c1
    refine hx_blk (npc := 55) (L' := [(0, .inr (.inl 86)), (1, .inl x1), (2, .inl x2), (3, .inl x3)]) (st' := [.inl (-1)]) (m' := m) [((54, .iconst (-1), 1, 0, 0, 0, 0), (0, 0, 0))] (by decide +kernel) rfl ?_
    exact hx_reti (by decide +kernel) (h1 c1)
  · have c1 : (gx_and x1 (gx_xor (m 87 1128) (-1))) = 0 := by have h : ¬ ((gx_and x1 (gx_xor (m 87 1128) (-1))) ≠ 0) := c1; omega
    refine hx_blk (npc := 16) (L' := [(0, .inr (.inl 86)), (1, .inl x1), (2, .inl x2), (3, .inl x3)]) (st' := [.inl x1]) (m' := m) [((15, .iload_n 1, 1, 0, 0, 0, 0), (0, 0, 0))] (by decide +kernel) rfl ?_
    exact hx_call (E := (16, .invokestatic 241, 3, 206, 0, 6195, 0)) (M' := yp_m206) [.inl x1] [] rfl (by decide +kernel) rfl ⟨rfl, rfl⟩ rfl rfl (hx_mono (h2 c1) (fun r m' h' => hx_pick [0, 1, 2, 3] h'))

/-- share from 19 on -/
theorem hr238_19 {xs : List Int32} {n : Nat} {Q : hQ} {m : gx_M} {x1 x2 x3 s0 : Int}
    (h1 : (1 ≤ s0 ∧ s0 ≤ 5) → (0 ≤ x2 ∧ x2 ≤ 7) → (gx_and (gx_shr x1 x2) 1 = 1) → (0 ≤ x3 ∧ x3 ≤ 1) → hxn xs n yp_m206 0 [(0, .inl x1)] [] m (fun r m' => hxn xs n yp_m238 60 [(0, .inr (.inl 86)), (1, .inl x1), (2, .inl x2), (3, .inl x3)] (hrs r ++ []) m' Q))
    (h2 : (1 ≤ s0 ∧ s0 ≤ 5) → (0 ≤ x2 ∧ x2 ≤ 7) → (gx_and (gx_shr x1 x2) 1 = 1) → (¬ (0 ≤ x3 ∧ x3 ≤ 1)) → Q (some (.inl (-1))) m)
    (h3 : (1 ≤ s0 ∧ s0 ≤ 5) → (0 ≤ x2 ∧ x2 ≤ 7) → (¬ (gx_and (gx_shr x1 x2) 1 = 1)) → Q (some (.inl (-1))) m)
    (h4 : (1 ≤ s0 ∧ s0 ≤ 5) → (¬ (0 ≤ x2 ∧ x2 ≤ 7)) → Q (some (.inl (-1))) m)
    (h5 : (¬ (1 ≤ s0 ∧ s0 ≤ 5)) → Q (some (.inl (-1))) m) : hxn xs (n + 1) yp_m238 19 [(0, .inr (.inl 86)), (1, .inl x1), (2, .inl x2), (3, .inl x3)] [.inl s0] m Q := by
  refine hx_blks (npc := 21) (L' := [(0, .inr (.inl 86)), (1, .inl x1), (2, .inl x2), (3, .inl x3)]) (st' := [.inl 5, .inl 1, .inl s0]) (m' := m) ((19, .iconst 1, 1, 0, 0, 0, 0), (0, 0, 0)) [((20, .iconst 5, 1, 0, 0, 0, 0), (0, 0, 0))] (by decide +kernel) rfl ?_
  refine hx_call (E := (21, .invokestatic 108, 3, 162, 0, 6023, 0)) (M' := yp_m162) [.inl s0, .inl 1, .inl 5] [] rfl (by decide +kernel) rfl ⟨rfl, rfl⟩ rfl rfl (hs162 (fun c1 => ?_) (fun c1 => ?_))
  · have c1 : 1 ≤ s0 ∧ s0 ≤ 5 := c1
    show hxn xs n yp_m238 24 [(0, .inr (.inl 86)), (1, .inl x1), (2, .inl x2), (3, .inl x3)] [.inl 1] m Q
    refine hx_if .eq 54 (by decide +kernel) (fun c2 => ?_) (fun c2 => ?_)
    · have c2 : (1 : Int) = 0 := c2
      exfalso; omega
    · have c2 : (1 : Int) ≠ 0 := c2
      refine hx_blk (npc := 31) (L' := [(0, .inr (.inl 86)), (1, .inl x1), (2, .inl x2), (3, .inl x3)]) (st' := [.inl 7, .inl 0, .inl x2]) (m' := m) [((27, .iload_n 2, 1, 0, 0, 0, 0), (0, 0, 0)), ((28, .iconst 0, 1, 0, 0, 0, 0), (0, 0, 0)), ((29, .bipush 7, 2, 0, 0, 0, 0), (0, 0, 0))] (by decide +kernel) rfl ?_
      refine hx_call (E := (31, .invokestatic 108, 3, 162, 0, 6023, 0)) (M' := yp_m162) [.inl x2, .inl 0, .inl 7] [] rfl (by decide +kernel) rfl ⟨rfl, rfl⟩ rfl rfl (hs162 (fun c2 => ?_) (fun c2 => ?_))
      · have c2 : 0 ≤ x2 ∧ x2 ≤ 7 := c2
        show hxn xs n yp_m238 34 [(0, .inr (.inl 86)), (1, .inl x1), (2, .inl x2), (3, .inl x3)] [.inl 1] m Q
        refine hx_if .eq 54 (by decide +kernel) (fun c3 => ?_) (fun c3 => ?_)
        · have c3 : (1 : Int) = 0 := c3
          exfalso; omega
        · have c3 : (1 : Int) ≠ 0 := c3
          refine hx_blk (npc := 39) (L' := [(0, .inr (.inl 86)), (1, .inl x1), (2, .inl x2), (3, .inl x3)]) (st' := [.inl x2, .inl x1]) (m' := m) [((37, .iload_n 1, 1, 0, 0, 0, 0), (0, 0, 0)), ((38, .iload_n 2, 1, 0, 0, 0, 0), (0, 0, 0))] (by decide +kernel) rfl ?_
          refine hx_call (E := (39, .invokestatic 104, 3, 165, 0, 6035, 0)) (M' := yp_m165) [.inl x1, .inl x2] [] rfl (by decide +kernel) rfl ⟨rfl, rfl⟩ rfl rfl (hs165 (fun c3 => ?_) (fun c3 => ?_))
          · have c3 : gx_and (gx_shr x1 x2) 1 = 1 := c3
            show hxn xs n yp_m238 42 [(0, .inr (.inl 86)), (1, .inl x1), (2, .inl x2), (3, .inl x3)] [.inl 1] m Q
            refine hx_if .eq 54 (by decide +kernel) (fun c4 => ?_) (fun c4 => ?_)
            · have c4 : (1 : Int) = 0 := c4
              exfalso; omega
            · have c4 : (1 : Int) ≠ 0 := c4
              refine hx_blk (npc := 48) (L' := [(0, .inr (.inl 86)), (1, .inl x1), (2, .inl x2), (3, .inl x3)]) (st' := [.inl 1, .inl 0, .inl x3]) (m' := m) [((45, .iload_n 3, 1, 0, 0, 0, 0), (0, 0, 0)), ((46, .iconst 0, 1, 0, 0, 0, 0), (0, 0, 0)), ((47, .iconst 1, 1, 0, 0, 0, 0), (0, 0, 0))] (by decide +kernel) rfl ?_
              refine hx_call (E := (48, .invokestatic 108, 3, 162, 0, 6023, 0)) (M' := yp_m162) [.inl x3, .inl 0, .inl 1] [] rfl (by decide +kernel) rfl ⟨rfl, rfl⟩ rfl rfl (hs162 (fun c4 => ?_) (fun c4 => ?_))
              · have c4 : 0 ≤ x3 ∧ x3 ≤ 1 := c4
                show hxn xs n yp_m238 51 [(0, .inr (.inl 86)), (1, .inl x1), (2, .inl x2), (3, .inl x3)] [.inl 1] m Q
                refine hx_if .ne 56 (by decide +kernel) (fun c5 => ?_) (fun c5 => ?_)
                · have c5 : (1 : Int) ≠ 0 := c5
                  refine hx_blk (npc := 57) (L' := [(0, .inr (.inl 86)), (1, .inl x1), (2, .inl x2), (3, .inl x3)]) (st' := [.inl x1]) (m' := m) [((56, .iload_n 1, 1, 0, 0, 0, 0), (0, 0, 0))] (by decide +kernel) rfl ?_
                  exact hx_call (E := (57, .invokestatic 241, 3, 206, 0, 6195, 0)) (M' := yp_m206) [.inl x1] [] rfl (by decide +kernel) rfl ⟨rfl, rfl⟩ rfl rfl (hx_mono (h1 c1 c2 c3 c4) (fun r m' h' => hx_pick [0, 1, 2, 3] h'))
                · have c5 : (1 : Int) = 0 := by have h : ¬ ((1 : Int) ≠ 0) := c5; omega
                  exfalso; omega
              · have c4 : ¬ (0 ≤ x3 ∧ x3 ≤ 1) := c4
                show hxn xs n yp_m238 51 [(0, .inr (.inl 86)), (1, .inl x1), (2, .inl x2), (3, .inl x3)] [.inl 0] m Q
                refine hx_if .ne 56 (by decide +kernel) (fun c5 => ?_) (fun c5 => ?_)
                · have c5 : (0 : Int) ≠ 0 := c5
                  exfalso; omega
                · have c5 : (0 : Int) = 0 := by have h : ¬ ((0 : Int) ≠ 0) := c5; omega
                  refine hx_blk (npc := 55) (L' := [(0, .inr (.inl 86)), (1, .inl x1), (2, .inl x2), (3, .inl x3)]) (st' := [.inl (-1)]) (m' := m) [((54, .iconst (-1), 1, 0, 0, 0, 0), (0, 0, 0))] (by decide +kernel) rfl ?_
                  exact hx_reti (by decide +kernel) (h2 c1 c2 c3 c4)
          · have c3 : ¬ (gx_and (gx_shr x1 x2) 1 = 1) := c3
            show hxn xs n yp_m238 42 [(0, .inr (.inl 86)), (1, .inl x1), (2, .inl x2), (3, .inl x3)] [.inl 0] m Q
            refine hx_if .eq 54 (by decide +kernel) (fun c4 => ?_) (fun c4 => ?_)
            · have c4 : (0 : Int) = 0 := c4
              refine hx_blk (npc := 55) (L' := [(0, .inr (.inl 86)), (1, .inl x1), (2, .inl x2), (3, .inl x3)]) (st' := [.inl (-1)]) (m' := m) [((54, .iconst (-1), 1, 0, 0, 0, 0), (0, 0, 0))] (by decide +kernel) rfl ?_
              exact hx_reti (by decide +kernel) (h3 c1 c2 c3)
            · have c4 : (0 : Int) ≠ 0 := c4
              exfalso; omega
      · have c2 : ¬ (0 ≤ x2 ∧ x2 ≤ 7) := c2
        show hxn xs n yp_m238 34 [(0, .inr (.inl 86)), (1, .inl x1), (2, .inl x2), (3, .inl x3)] [.inl 0] m Q
        refine hx_if .eq 54 (by decide +kernel) (fun c3 => ?_) (fun c3 => ?_)
        · have c3 : (0 : Int) = 0 := c3
          refine hx_blk (npc := 55) (L' := [(0, .inr (.inl 86)), (1, .inl x1), (2, .inl x2), (3, .inl x3)]) (st' := [.inl (-1)]) (m' := m) [((54, .iconst (-1), 1, 0, 0, 0, 0), (0, 0, 0))] (by decide +kernel) rfl ?_
          exact hx_reti (by decide +kernel) (h4 c1 c2)
        · have c3 : (0 : Int) ≠ 0 := c3
          exfalso; omega
  · have c1 : ¬ (1 ≤ s0 ∧ s0 ≤ 5) := c1
    show hxn xs n yp_m238 24 [(0, .inr (.inl 86)), (1, .inl x1), (2, .inl x2), (3, .inl x3)] [.inl 0] m Q
    refine hx_if .eq 54 (by decide +kernel) (fun c2 => ?_) (fun c2 => ?_)
    · have c2 : (0 : Int) = 0 := c2
      refine hx_blk (npc := 55) (L' := [(0, .inr (.inl 86)), (1, .inl x1), (2, .inl x2), (3, .inl x3)]) (st' := [.inl (-1)]) (m' := m) [((54, .iconst (-1), 1, 0, 0, 0, 0), (0, 0, 0))] (by decide +kernel) rfl ?_
      exact hx_reti (by decide +kernel) (h5 c1)
    · have c2 : (0 : Int) ≠ 0 := c2
      exfalso; omega

/-- share from 60 on -/
theorem hr238_60 {xs : List Int32} {n : Nat} {Q : hQ} {m : gx_M} {x1 x2 x3 s0 : Int}
    (h1 : hxn xs n yp_m238 68 [(0, .inr (.inl 86)), (1, .inl x1), (2, .inl x2), (3, .inl x3), (4, .inl s0), (5, .inl 0), (6, .inl 0)] [] m Q) : hxn xs (n + 1) yp_m238 60 [(0, .inr (.inl 86)), (1, .inl x1), (2, .inl x2), (3, .inl x3)] [.inl s0] m Q := by
  refine hx_blks (npc := 68) (L' := [(0, .inr (.inl 86)), (1, .inl x1), (2, .inl x2), (3, .inl x3), (4, .inl s0), (5, .inl 0), (6, .inl 0)]) (st' := []) (m' := m) ((60, .istore 4, 2, 0, 0, 0, 0), (0, 0, 0)) [((62, .iconst 0, 1, 0, 0, 0, 0), (0, 0, 0)), ((63, .istore 5, 2, 0, 0, 0, 0), (0, 0, 0)), ((65, .iconst 0, 1, 0, 0, 0, 0), (0, 0, 0)), ((66, .istore 6, 2, 0, 0, 0, 0), (0, 0, 0))] (by decide +kernel) rfl ?_
  exact hx_pick [0, 1, 2, 3, 4, 5, 6] h1

/-- share from 68 on -/
theorem hr238_68 {xs : List Int32} {n : Nat} {Q : hQ} {m : gx_M} {x1 x2 x3 x4 x5 x6 : Int}
    (h1 : (256 ≤ x6) → hxn xs n yp_m239 0 [(0, .inl x4)] [] m (fun r m' => hxn xs n yp_m238 155 [(3, .inl x3), (4, .inl x4), (5, .inl x5)] (hrs r ++ [.inl x5]) m' Q))
    (h2 : (x6 < 256) → ((gx_and x6 (gx_xor x1 (-1))) ≠ 0) → hxn xs n yp_m238 68 [(0, .inr (.inl 86)), (1, .inl x1), (2, .inl x2), (3, .inl x3), (4, .inl x4), (5, .inl x5), (6, .inl (gx_w (x6 + 1)))] [] m Q)
    (h3 : (x6 < 256) → ((gx_and x6 (gx_xor x1 (-1))) = 0) → (gx_and (gx_shr x6 x2) 1 = 1) → hxn xs n yp_m238 68 [(0, .inr (.inl 86)), (1, .inl x1), (2, .inl x2), (3, .inl x3), (4, .inl x4), (5, .inl x5), (6, .inl (gx_w (x6 + 1)))] [] m Q)
    (h4 : (x6 < 256) → ((gx_and x6 (gx_xor x1 (-1))) = 0) → (¬ (gx_and (gx_shr x6 x2) 1 = 1)) → hxn xs n yp_m206 0 [(0, .inl x6)] [] m (fun r m' => hxn xs n yp_m238 104 [(0, .inr (.inl 86)), (1, .inl x1), (2, .inl x2), (3, .inl x3), (4, .inl x4), (6, .inl x6)] (hrs r ++ [.inl x5]) m' Q)) : hxn xs (n + 1) yp_m238 68 [(0, .inr (.inl 86)), (1, .inl x1), (2, .inl x2), (3, .inl x3), (4, .inl x4), (5, .inl x5), (6, .inl x6)] [] m Q := by
  refine hx_blks (npc := 73) (L' := [(0, .inr (.inl 86)), (1, .inl x1), (2, .inl x2), (3, .inl x3), (4, .inl x4), (5, .inl x5), (6, .inl x6)]) (st' := [.inl 256, .inl x6]) (m' := m) ((68, .iload 6, 2, 0, 0, 0, 0), (0, 0, 0)) [((70, .sipush 256, 3, 0, 0, 0, 0), (0, 0, 0))] (by decide +kernel) rfl ?_
  refine hx_cmp .ge 148 (by decide +kernel) (fun c1 => ?_) (fun c1 => ?_)
  · have c1 : 256 ≤ x6 := c1
    refine hx_blk (npc := 152) (L' := [(0, .inr (.inl 86)), (1, .inl x1), (2, .inl x2), (3, .inl x3), (4, .inl x4), (5, .inl x5), (6, .inl x6)]) (st' := [.inl x4, .inl x5]) (m' := m) [((148, .iload 5, 2, 0, 0, 0, 0), (0, 0, 0)), ((150, .iload 4, 2, 0, 0, 0, 0), (0, 0, 0))] (by decide +kernel) rfl ?_
    exact hx_call (E := (152, .invokestatic 337, 3, 239, 0, 7085, 0)) (M' := yp_m239) [.inl x4] [.inl x5] rfl (by decide +kernel) rfl ⟨rfl, rfl⟩ rfl rfl (hx_mono (h1 c1) (fun r m' h' => hx_pick [3, 4, 5] h'))
  · have c1 : x6 < 256 := by have h : ¬ (256 ≤ x6) := c1; omega
    refine hx_blk (npc := 82) (L' := [(0, .inr (.inl 86)), (1, .inl x1), (2, .inl x2), (3, .inl x3), (4, .inl x4), (5, .inl x5), (6, .inl x6)]) (st' := [.inl (gx_and x6 (gx_xor x1 (-1)))]) (m' := m) [((76, .iload 6, 2, 0, 0, 0, 0), (0, 0, 0)), ((78, .iload_n 1, 1, 0, 0, 0, 0), (0, 0, 0)), ((79, .iconst (-1), 1, 0, 0, 0, 0), (0, 0, 0)), ((80, .ixor, 1, 0, 0, 0, 0), (0, 0, 0)), ((81, .iand, 1, 0, 0, 0, 0), (0, 0, 0))] (by decide +kernel) rfl ?_
    refine hx_if .ne 142 (by decide +kernel) (fun c2 => ?_) (fun c2 => ?_)
    · have c2 : (gx_and x6 (gx_xor x1 (-1))) ≠ 0 := c2
      refine hx_blk (npc := 68) (L' := [(0, .inr (.inl 86)), (1, .inl x1), (2, .inl x2), (3, .inl x3), (4, .inl x4), (5, .inl x5), (6, .inl (gx_w (x6 + 1)))]) (st' := []) (m' := m) [((142, .iinc 6 1, 3, 0, 0, 0, 0), (0, 0, 0)), ((145, .goto (-77), 3, 0, 0, 0, 0), (0, 0, 0))] (by decide +kernel) rfl ?_
      exact hx_pick [0, 1, 2, 3, 4, 5, 6] (h2 c1 c2)
    · have c2 : (gx_and x6 (gx_xor x1 (-1))) = 0 := by have h : ¬ ((gx_and x6 (gx_xor x1 (-1))) ≠ 0) := c2; omega
      refine hx_blk (npc := 88) (L' := [(0, .inr (.inl 86)), (1, .inl x1), (2, .inl x2), (3, .inl x3), (4, .inl x4), (5, .inl x5), (6, .inl x6)]) (st' := [.inl x2, .inl x6]) (m' := m) [((85, .iload 6, 2, 0, 0, 0, 0), (0, 0, 0)), ((87, .iload_n 2, 1, 0, 0, 0, 0), (0, 0, 0))] (by decide +kernel) rfl ?_
      refine hx_call (E := (88, .invokestatic 104, 3, 165, 0, 6035, 0)) (M' := yp_m165) [.inl x6, .inl x2] [] rfl (by decide +kernel) rfl ⟨rfl, rfl⟩ rfl rfl (hs165 (fun c3 => ?_) (fun c3 => ?_))
      · have c3 : gx_and (gx_shr x6 x2) 1 = 1 := c3
        show hxn xs n yp_m238 91 [(0, .inr (.inl 86)), (1, .inl x1), (2, .inl x2), (3, .inl x3), (4, .inl x4), (5, .inl x5), (6, .inl x6)] [.inl 1] m Q
        refine hx_if .eq 97 (by decide +kernel) (fun c4 => ?_) (fun c4 => ?_)
        · have c4 : (1 : Int) = 0 := c4
          exfalso; omega
        · have c4 : (1 : Int) ≠ 0 := c4
          refine hx_blk (npc := 68) (L' := [(0, .inr (.inl 86)), (1, .inl x1), (2, .inl x2), (3, .inl x3), (4, .inl x4), (5, .inl x5), (6, .inl (gx_w (x6 + 1)))]) (st' := []) (m' := m) [((94, .goto 48, 3, 0, 0, 0, 0), (0, 0, 0)), ((142, .iinc 6 1, 3, 0, 0, 0, 0), (0, 0, 0)), ((145, .goto (-77), 3, 0, 0, 0, 0), (0, 0, 0))] (by decide +kernel) rfl ?_
          exact hx_pick [0, 1, 2, 3, 4, 5, 6] (h3 c1 c2 c3)
      · have c3 : ¬ (gx_and (gx_shr x6 x2) 1 = 1) := c3
        show hxn xs n yp_m238 91 [(0, .inr (.inl 86)), (1, .inl x1), (2, .inl x2), (3, .inl x3), (4, .inl x4), (5, .inl x5), (6, .inl x6)] [.inl 0] m Q
        refine hx_if .eq 97 (by decide +kernel) (fun c4 => ?_) (fun c4 => ?_)
        · have c4 : (0 : Int) = 0 := c4
          refine hx_blk (npc := 101) (L' := [(0, .inr (.inl 86)), (1, .inl x1), (2, .inl x2), (3, .inl x3), (4, .inl x4), (5, .inl x5), (6, .inl x6)]) (st' := [.inl x6, .inl x5]) (m' := m) [((97, .iload 5, 2, 0, 0, 0, 0), (0, 0, 0)), ((99, .iload 6, 2, 0, 0, 0, 0), (0, 0, 0))] (by decide +kernel) rfl ?_
          exact hx_call (E := (101, .invokestatic 241, 3, 206, 0, 6195, 0)) (M' := yp_m206) [.inl x6] [.inl x5] rfl (by decide +kernel) rfl ⟨rfl, rfl⟩ rfl rfl (hx_mono (h4 c1 c2 c3) (fun r m' h' => hx_pick [0, 1, 2, 3, 4, 6] h'))
        · have c4 : (0 : Int) ≠ 0 := c4
          exfalso; omega

/-- share from 104 on -/
theorem hr238_104 {xs : List Int32} {n : Nat} {Q : hQ} {m : gx_M} {x1 x2 x3 x4 x6 s0 s1 : Int}
    (h1 : hxn xs n yp_m239 0 [(0, .inl s1)] [] m (fun r m' => hxn xs n yp_m238 107 [(0, .inr (.inl 86)), (1, .inl x1), (2, .inl x2), (3, .inl x3), (4, .inl x4), (6, .inl x6)] (hrs r ++ [.inl s0]) m' Q)) : hxn xs (n + 1) yp_m238 104 [(0, .inr (.inl 86)), (1, .inl x1), (2, .inl x2), (3, .inl x3), (4, .inl x4), (6, .inl x6)] [.inl s1, .inl s0] m Q := by
  exact hx_calls (E := (104, .invokestatic 337, 3, 239, 0, 7085, 0)) (M' := yp_m239) [.inl s1] [.inl s0] rfl (by decide +kernel) rfl ⟨rfl, rfl⟩ rfl rfl (hx_mono h1 (fun r m' h' => hx_pick [0, 1, 2, 3, 4, 6] h'))

/-- share from 107 on -/
theorem hr238_107 {xs : List Int32} {n : Nat} {Q : hQ} {m : gx_M} {x1 x2 x3 x4 x6 s0 s1 : Int}
    (h1 : hxn xs n yp_m206 0 [(0, .inl x6)] [] m (fun r m' => hxn xs n yp_m238 116 [(0, .inr (.inl 86)), (1, .inl x1), (2, .inl x2), (3, .inl x3), (4, .inl x4), (6, .inl x6)] (hrs r ++ [.inl (gx_w (x4 - 1)), .inl s1, .inl s0]) m' Q)) : hxn xs (n + 1) yp_m238 107 [(0, .inr (.inl 86)), (1, .inl x1), (2, .inl x2), (3, .inl x3), (4, .inl x4), (6, .inl x6)] [.inl s1, .inl s0] m Q := by
  refine hx_blks (npc := 113) (L' := [(0, .inr (.inl 86)), (1, .inl x1), (2, .inl x2), (3, .inl x3), (4, .inl x4), (6, .inl x6)]) (st' := [.inl x6, .inl (gx_w (x4 - 1)), .inl s1, .inl s0]) (m' := m) ((107, .iload 4, 2, 0, 0, 0, 0), (0, 0, 0)) [((109, .iconst 1, 1, 0, 0, 0, 0), (0, 0, 0)), ((110, .isub, 1, 0, 0, 0, 0), (0, 0, 0)), ((111, .iload 6, 2, 0, 0, 0, 0), (0, 0, 0))] (by decide +kernel) rfl ?_
  exact hx_call (E := (113, .invokestatic 241, 3, 206, 0, 6195, 0)) (M' := yp_m206) [.inl x6] [.inl (gx_w (x4 - 1)), .inl s1, .inl s0] rfl (by decide +kernel) rfl ⟨rfl, rfl⟩ rfl rfl (hx_mono h1 (fun r m' h' => hx_pick [0, 1, 2, 3, 4, 6] h'))

/-- share from 116 on -/
theorem hr238_116 {xs : List Int32} {n : Nat} {Q : hQ} {m : gx_M} {x1 x2 x3 x4 x6 s0 s1 s2 s3 : Int}
    (h1 : hxn xs n yp_m239 0 [(0, .inl (gx_w (s2 - s3)))] [] m (fun r m' => hxn xs n yp_m238 120 [(0, .inr (.inl 86)), (1, .inl x1), (2, .inl x2), (3, .inl x3), (4, .inl x4), (6, .inl x6)] (hrs r ++ [.inl s1, .inl s0]) m' Q)) : hxn xs (n + 1) yp_m238 116 [(0, .inr (.inl 86)), (1, .inl x1), (2, .inl x2), (3, .inl x3), (4, .inl x4), (6, .inl x6)] [.inl s3, .inl s2, .inl s1, .inl s0] m Q := by
  refine hx_blks (npc := 117) (L' := [(0, .inr (.inl 86)), (1, .inl x1), (2, .inl x2), (3, .inl x3), (4, .inl x4), (6, .inl x6)]) (st' := [.inl (gx_w (s2 - s3)), .inl s1, .inl s0]) (m' := m) ((116, .isub, 1, 0, 0, 0, 0), (0, 0, 0)) [] (by decide +kernel) rfl ?_
  exact hx_call (E := (117, .invokestatic 337, 3, 239, 0, 7085, 0)) (M' := yp_m239) [.inl (gx_w (s2 - s3))] [.inl s1, .inl s0] rfl (by decide +kernel) rfl ⟨rfl, rfl⟩ rfl rfl (hx_mono h1 (fun r m' h' => hx_pick [0, 1, 2, 3, 4, 6] h'))

/-- share from 120 on -/
theorem hr238_120 {xs : List Int32} {n : Nat} {Q : hQ} {m : gx_M} {x1 x2 x3 x4 x6 s0 s1 s2 : Int}
    (h1 : hxn xs n yp_m240 0 [(0, .inr (.inl 86)), (1, .inl (gx_or x6 (gx_shl 1 x2)))] [] m (fun r m' => hxn xs n yp_m238 131 [(0, .inr (.inl 86)), (1, .inl x1), (2, .inl x2), (3, .inl x3), (4, .inl x4), (6, .inl x6)] (hrs r ++ [.inl (gx_w (s1 * s2)), .inl s0]) m' Q)) : hxn xs (n + 1) yp_m238 120 [(0, .inr (.inl 86)), (1, .inl x1), (2, .inl x2), (3, .inl x3), (4, .inl x4), (6, .inl x6)] [.inl s2, .inl s1, .inl s0] m Q := by
  refine hx_blks (npc := 128) (L' := [(0, .inr (.inl 86)), (1, .inl x1), (2, .inl x2), (3, .inl x3), (4, .inl x4), (6, .inl x6)]) (st' := [.inl (gx_or x6 (gx_shl 1 x2)), .inr (.inl 86), .inl (gx_w (s1 * s2)), .inl s0]) (m' := m) ((120, .imul, 1, 0, 0, 0, 0), (0, 0, 0)) [((121, .aload_n 0, 1, 0, 0, 0, 0), (0, 0, 0)), ((122, .iload 6, 2, 0, 0, 0, 0), (0, 0, 0)), ((124, .iconst 1, 1, 0, 0, 0, 0), (0, 0, 0)), ((125, .iload_n 2, 1, 0, 0, 0, 0), (0, 0, 0)), ((126, .ishl, 1, 0, 0, 0, 0), (0, 0, 0)), ((127, .ior, 1, 0, 0, 0, 0), (0, 0, 0))] (by decide +kernel) rfl ?_
  exact hx_call (E := (128, .invokevirtual 340, 3, 240, 0, 7088, 0)) (M' := yp_m240) [.inr (.inl 86), .inl (gx_or x6 (gx_shl 1 x2))] [.inl (gx_w (s1 * s2)), .inl s0] rfl (by decide +kernel) rfl ⟨rfl, rfl⟩ rfl rfl (hx_mono h1 (fun r m' h' => hx_pick [0, 1, 2, 3, 4, 6] h'))

/-- share from 131 on -/
theorem hr238_131 {xs : List Int32} {n : Nat} {Q : hQ} {m : gx_M} {x1 x2 x3 x4 x6 s0 s1 s2 : Int}
    (h1 : hxn xs n yp_m240 0 [(0, .inr (.inl 86)), (1, .inl x6)] [] m (fun r m' => hxn xs n yp_m238 137 [(0, .inr (.inl 86)), (1, .inl x1), (2, .inl x2), (3, .inl x3), (4, .inl x4), (6, .inl x6)] (hrs r ++ [.inl s2, .inl s1, .inl s0]) m' Q)) : hxn xs (n + 1) yp_m238 131 [(0, .inr (.inl 86)), (1, .inl x1), (2, .inl x2), (3, .inl x3), (4, .inl x4), (6, .inl x6)] [.inl s2, .inl s1, .inl s0] m Q := by
  refine hx_blks (npc := 134) (L' := [(0, .inr (.inl 86)), (1, .inl x1), (2, .inl x2), (3, .inl x3), (4, .inl x4), (6, .inl x6)]) (st' := [.inl x6, .inr (.inl 86), .inl s2, .inl s1, .inl s0]) (m' := m) ((131, .aload_n 0, 1, 0, 0, 0, 0), (0, 0, 0)) [((132, .iload 6, 2, 0, 0, 0, 0), (0, 0, 0))] (by decide +kernel) rfl ?_
  exact hx_call (E := (134, .invokevirtual 340, 3, 240, 0, 7088, 0)) (M' := yp_m240) [.inr (.inl 86), .inl x6] [.inl s2, .inl s1, .inl s0] rfl (by decide +kernel) rfl ⟨rfl, rfl⟩ rfl rfl (hx_mono h1 (fun r m' h' => hx_pick [0, 1, 2, 3, 4, 6] h'))

/-- share from 137 on -/
theorem hr238_137 {xs : List Int32} {n : Nat} {Q : hQ} {m : gx_M} {x1 x2 x3 x4 x6 s0 s1 s2 s3 : Int}
    (h1 : hxn xs n yp_m238 68 [(0, .inr (.inl 86)), (1, .inl x1), (2, .inl x2), (3, .inl x3), (4, .inl x4), (5, .inl (gx_w (s0 + (gx_w (s1 * (gx_w (s2 - s3))))))), (6, .inl (gx_w (x6 + 1)))] [] m Q) : hxn xs (n + 1) yp_m238 137 [(0, .inr (.inl 86)), (1, .inl x1), (2, .inl x2), (3, .inl x3), (4, .inl x4), (6, .inl x6)] [.inl s3, .inl s2, .inl s1, .inl s0] m Q := by
  refine hx_blks (npc := 68) (L' := [(0, .inr (.inl 86)), (1, .inl x1), (2, .inl x2), (3, .inl x3), (4, .inl x4), (6, .inl (gx_w (x6 + 1))), (5, .inl (gx_w (s0 + (gx_w (s1 * (gx_w (s2 - s3)))))))]) (st' := []) (m' := m) ((137, .isub, 1, 0, 0, 0, 0), (0, 0, 0)) [((138, .imul, 1, 0, 0, 0, 0), (0, 0, 0)), ((139, .iadd, 1, 0, 0, 0, 0), (0, 0, 0)), ((140, .istore 5, 2, 0, 0, 0, 0), (0, 0, 0)), ((142, .iinc 6 1, 3, 0, 0, 0, 0), (0, 0, 0)), ((145, .goto (-77), 3, 0, 0, 0, 0), (0, 0, 0))] (by decide +kernel) rfl ?_
  exact hx_pick [0, 1, 2, 3, 4, 5, 6] h1

/-- share from 155 on -/
theorem hr238_155 {xs : List Int32} {n : Nat} {Q : hQ} {m : gx_M} {x3 x4 x5 s0 s1 : Int}
    (h1 : hxn xs n yp_m241 0 [(0, .inl s0), (1, .inl s1)] [] m (fun r m' => hxn xs n yp_m238 158 [(3, .inl x3), (4, .inl x4), (5, .inl x5)] (hrs r ++ []) m' Q)) : hxn xs (n + 1) yp_m238 155 [(3, .inl x3), (4, .inl x4), (5, .inl x5)] [.inl s1, .inl s0] m Q := by
  exact hx_calls (E := (155, .invokestatic 343, 3, 241, 0, 7092, 0)) (M' := yp_m241) [.inl s0, .inl s1] [] rfl (by decide +kernel) rfl ⟨rfl, rfl⟩ rfl rfl (hx_mono h1 (fun r m' h' => hx_pick [3, 4, 5] h'))

/-- share from 158 on -/
theorem hr238_158 {xs : List Int32} {n : Nat} {Q : hQ} {m : gx_M} {x3 x4 x5 s0 : Int}
    (h1 : (x3 ≠ 0) → hxn xs n yp_m239 0 [(0, .inl x4)] [] m (fun r m' => hxn xs n yp_m238 177 [(6, .inl s0)] (hrs r ++ []) m' Q))
    (h2 : (x3 = 0) → Q (some (.inl (gx_w (Int.tdiv x5 s0)))) m) : hxn xs (n + 1) yp_m238 158 [(3, .inl x3), (4, .inl x4), (5, .inl x5)] [.inl s0] m Q := by
  refine hx_blks (npc := 161) (L' := [(3, .inl x3), (4, .inl x4), (5, .inl x5), (6, .inl s0)]) (st' := [.inl x3]) (m' := m) ((158, .istore 6, 2, 0, 0, 0, 0), (0, 0, 0)) [((160, .iload_n 3, 1, 0, 0, 0, 0), (0, 0, 0))] (by decide +kernel) rfl ?_
  refine hx_if .ne 172 (by decide +kernel) (fun c1 => ?_) (fun c1 => ?_)
  · have c1 : x3 ≠ 0 := c1
    refine hx_blk (npc := 174) (L' := [(3, .inl x3), (4, .inl x4), (5, .inl x5), (6, .inl s0)]) (st' := [.inl x4]) (m' := m) [((172, .iload 4, 2, 0, 0, 0, 0), (0, 0, 0))] (by decide +kernel) rfl ?_
    exact hx_call (E := (174, .invokestatic 337, 3, 239, 0, 7085, 0)) (M' := yp_m239) [.inl x4] [] rfl (by decide +kernel) rfl ⟨rfl, rfl⟩ rfl rfl (hx_mono (h1 c1) (fun r m' h' => hx_pick [6] h'))
  · have c1 : x3 = 0 := by have h : ¬ (x3 ≠ 0) := c1; omega
    refine hx_blk (npc := 180) (L' := [(3, .inl x3), (4, .inl x4), (5, .inl x5), (6, .inl s0)]) (st' := [.inl (gx_w (Int.tdiv x5 s0))]) (m' := m) [((164, .iload 5, 2, 0, 0, 0, 0), (0, 0, 0)), ((166, .iload 6, 2, 0, 0, 0, 0), (0, 0, 0)), ((168, .idiv, 1, 0, 0, 0, 0), (0, 0, 0)), ((169, .goto 11, 3, 0, 0, 0, 0), (0, 0, 0))] (by decide +kernel) rfl ?_
    exact hx_reti (by decide +kernel) (h2 c1)

/-- share from 177 on -/
theorem hr238_177 {xs : List Int32} {n : Nat} {Q : hQ} {m : gx_M} {x6 s0 : Int}
    (h1 : Q (some (.inl (gx_w (Int.tdiv s0 x6)))) m) : hxn xs (n + 1) yp_m238 177 [(6, .inl x6)] [.inl s0] m Q := by
  refine hx_blks (npc := 180) (L' := [(6, .inl x6)]) (st' := [.inl (gx_w (Int.tdiv s0 x6))]) (m' := m) ((177, .iload 6, 2, 0, 0, 0, 0), (0, 0, 0)) [((179, .idiv, 1, 0, 0, 0, 0), (0, 0, 0))] (by decide +kernel) rfl ?_
  exact hx_reti (by decide +kernel) h1
end
section
/-! share: what two ways of counting come to -/
def sN (f : Nat → Nat) : Nat → Nat
  | 0 => 0
  | k + 1 => sN f k + f k
theorem sN_ext {f g : Nat → Nat} : ∀ k, (∀ j, j < k → f j = g j) → sN f k = sN g k
  | 0, _ => rfl
  | k + 1, h => by
    show sN f k + f k = sN g k + g k
    rw [sN_ext k (fun j hj => h j (by omega)), h k (by omega)]
theorem sN_add {f : Nat → Nat} (a : Nat) : ∀ b, sN f (a + b) = sN f a + sN (fun i => f (a + i)) b
  | 0 => rfl
  | b + 1 => by
    show sN f (a + b) + f (a + b) = sN f a + (sN (fun i => f (a + i)) b + f (a + b))
    rw [sN_add a b]
    omega
theorem sN_z {f : Nat → Nat} : ∀ k, (∀ j, j < k → f j = 0) → sN f k = 0
  | 0, _ => rfl
  | k + 1, h => by
    show sN f k + f k = 0
    rw [sN_z k (fun j hj => h j (by omega)), h k (by omega)]
theorem sN_plus {f g : Nat → Nat} : ∀ k, sN (fun j => f j + g j) k = sN f k + sN g k
  | 0 => rfl
  | k + 1 => by
    show sN (fun j => f j + g j) k + (f k + g k) = (sN f k + f k) + (sN g k + g k)
    rw [sN_plus k]
    omega
theorem sN_mul {f : Nat → Nat} (c : Nat) : ∀ k, sN (fun j => c * f j) k = c * sN f k
  | 0 => rfl
  | k + 1 => by
    show sN (fun j => c * f j) k + c * f k = c * (sN f k + f k)
    rw [sN_mul c k, Nat.mul_add]
theorem sN_swap {F : Nat → Nat → Nat} {N : Nat} : ∀ K, sN (fun g => sN (fun k => F g k) K) N = sN (fun k => sN (fun g => F g k) N) K
  | 0 => sN_z N (fun _ _ => rfl)
  | K + 1 => by
    show sN (fun g => sN (fun k => F g k) K + F g K) N = sN (fun k => sN (fun g => F g k) N) K + sN (fun g => F g K) N
    rw [sN_plus, sN_swap K]
theorem sB_ext {U : Nat → Bool} {g g' : Nat} : ∀ k, (∀ j, j < k → g.testBit j = g'.testBit j) → sB U k g = sB U k g'
  | 0, _ => rfl
  | k + 1, h => by
    show (sB U k g && (!(g.testBit k) || U k)) = (sB U k g' && (!(g'.testBit k) || U k))
    rw [sB_ext k (fun j hj => h j (by omega)), h k (by omega)]
def Vs : Nat → (Nat → Nat) → Nat
  | 0, w => w 0
  | c + 1, w => Vs c w + Vs c (fun j => w (j + 1))
theorem hpop_up {k g : Nat} (h : g < 2 ^ k) : hpop (k + 1) (2 ^ k + g) = hpop k g + 1 := by
  rw [hpop_add k 1, ← hpop_mod k (2 ^ k + g), Nat.add_mod_left, Nat.mod_eq_of_lt h]
  congr 1
  have e : (2 ^ k + g) / 2 ^ k = 1 := by
    rw [Nat.add_div_left _ (Nat.two_pow_pos k), Nat.div_eq_of_lt h]
  rw [e]
  rfl
theorem Vs_sum {U : Nat → Bool} : ∀ (k : Nat) (w : Nat → Nat), sN (fun g => if sB U k g = true then w (hpop k g) else 0) (2 ^ k) = Vs (hcnt U k) w
  | 0, w => by
    show 0 + (if true = true then w 0 else 0) = w 0
    rw [if_pos rfl, Nat.zero_add]
  | k + 1, w => by
    have e2 : 2 ^ (k + 1) = 2 ^ k + 2 ^ k := by
      rw [Nat.pow_succ]
      omega
    rw [e2, sN_add]
    have h1 : sN (fun g => if sB U (k + 1) g = true then w (hpop (k + 1) g) else 0) (2 ^ k) = Vs (hcnt U k) w := by
      rw [← Vs_sum k w]
      refine sN_ext _ (fun g hg => ?_)
      have b : g.testBit k = false := Nat.testBit_lt_two_pow hg
      have e : sB U (k + 1) g = sB U k g := by
        show (sB U k g && (!(g.testBit k) || U k)) = sB U k g
        rw [b, Bool.not_false, Bool.true_or, Bool.and_true]
      rw [e, hpop_lo hg]
    rw [h1]
    have lo : ∀ g j, j < k → (2 ^ k + g).testBit j = g.testBit j := fun g j hj => Nat.testBit_two_pow_add_gt hj g
    have hi : ∀ g, g < 2 ^ k → (2 ^ k + g).testBit k = true := fun g hg => by
      rw [Nat.testBit_two_pow_add_eq, Nat.testBit_lt_two_pow hg]
      rfl
    have eB : ∀ g, g < 2 ^ k → sB U (k + 1) (2 ^ k + g) = (sB U k g && U k) := fun g hg => by
      show (sB U k (2 ^ k + g) && (!((2 ^ k + g).testBit k) || U k)) = _
      rw [hi g hg, sB_ext k (lo g)]
      rfl
    by_cases u : U k = true
    · have ec : hcnt U (k + 1) = hcnt U k + 1 := by
        have := hcnt_t (f := U) u
        omega
      rw [ec]
      show _ = Vs (hcnt U k) w + Vs (hcnt U k) (fun j => w (j + 1))
      rw [← Vs_sum k (fun j => w (j + 1))]
      congr 1
      refine sN_ext _ (fun g hg => ?_)
      rw [eB g hg, u, Bool.and_true, hpop_up hg]
    · have ec : hcnt U (k + 1) = hcnt U k := by
        have := hcnt_f0 (f := U) (Bool.eq_false_iff.mpr u)
        omega
      rw [ec, sN_z _ (fun g hg => by rw [eB g hg, Bool.eq_false_iff.mpr u, Bool.and_false, if_neg (by decide)])]
      omega
def fct_ : Nat → Nat
  | 0 => 1
  | k + 1 => fct_ k * (k + 1)
theorem Vs_all : ∀ n, n < 6 → ∀ c, c < 6 → 1 ≤ c → c ≤ n → Vs (n - c) (fun j => fct_ j * fct_ (n - 1 - j)) * c = fct_ n := by decide +kernel
theorem c60_all : ∀ c, c < 6 → 1 ≤ c → 60 / c * c = 60 := by decide
/-! what they know -/
def kn (s : Nat → Int) (q : Nat) : Nat := (hOr (aOwn s (q : Int)) (fun j => s (80 + j)) 40).toNat
def kc (s : Nat → Int) (P k : Nat) : Nat := hcnt (fun q => P.testBit q && (kn s q).testBit k) 8
def pS (s : Nat → Int) (P p : Nat) (k : Nat) : Nat := sN (fun k => if (kn s p).testBit k = true then 60 / kc s P k else 0) k
def uS (s : Nat → Int) (g : Nat) : Nat → Nat
  | 0 => 0
  | q + 1 => if g.testBit q = true then uS s g q ||| kn s q else uS s g q
def wN (n j : Nat) : Nat := fct_ j * fct_ (n - 1 - j)
def gOk (P p g : Nat) : Bool := sB (fun q => P.testBit q) 8 g && !(g.testBit p)
def dG (s : Nat → Int) (p g : Nat) : Nat := hcnt (fun k => (kn s p).testBit k && !((uS s g 8).testBit k)) 12
def rN (s : Nat → Int) (P p n : Nat) (g : Nat) : Nat := sN (fun g => if gOk P p g = true then wN n (hpop 20 g) * (100 * dG s p g) else 0) g
theorem kn_eq {s : Nat → Int} (hs : sOK s) (q : Nat) : hOr (aOwn s (q : Int)) (fun j => s (80 + j)) 40 = ((kn s q : Nat) : Int) ∧ kn s q < 4096 := by
  obtain ⟨X, h1, h2⟩ := hOr_bd (f := aOwn s (q : Int)) (v := fun j => s (80 + j)) 40 hs.skl
  unfold kn
  rw [h1, Int.toNat_natCast]
  exact ⟨rfl, h2⟩
theorem uS_lt {s : Nat → Int} (hs : sOK s) {g : Nat} : ∀ q, uS s g q < 4096
  | 0 => by show 0 < 4096; decide
  | q + 1 => by
    have ih := uS_lt hs (g := g) q
    have k := (kn_eq hs q).2
    unfold uS
    split
    · exact Nat.or_lt_two_pow (n := 12) ih k
    · exact ih
theorem uS_bit {s : Nat → Int} {g k : Nat} : ∀ j, (uS s g j).testBit k = hAnyB (fun q => g.testBit q && (kn s q).testBit k) j
  | 0 => Nat.zero_testBit k
  | j + 1 => by
    have ih := uS_bit (s := s) (g := g) (k := k) j
    show (if g.testBit j = true then uS s g j ||| kn s j else uS s g j).testBit k = (hAnyB (fun q => g.testBit q && (kn s q).testBit k) j || (g.testBit j && (kn s j).testBit k))
    split
    · rename_i b
      rw [Nat.testBit_or, ih, b, Bool.true_and]
    · rename_i b
      rw [ih, Bool.eq_false_iff.mpr b, Bool.false_and, Bool.or_false]
theorem hcnt_split {f g : Nat → Bool} : ∀ k, hcnt f k = hcnt (fun q => f q && g q) k + hcnt (fun q => f q && !(g q)) k
  | 0 => rfl
  | k + 1 => by
    have ih := hcnt_split (f := f) (g := g) k
    show hcnt f k + (if f k = true then 1 else 0) = (hcnt (fun q => f q && g q) k + (if (f k && g k) = true then 1 else 0)) + (hcnt (fun q => f q && !(g q)) k + (if (f k && !(g k)) = true then 1 else 0))
    cases f k <;> cases g k <;> simp <;> omega
/-- the one that comes adds what nobody knew -/
theorem pop_add {A B : Nat} : hpop 20 (A ||| B) = hpop 20 A + hcnt (fun k => B.testBit k && !(A.testBit k)) 20 := by
  rw [hcnt_pop (fun k => A.testBit k || B.testBit k) 20 _ (fun j _ => Nat.testBit_or A B j), hcnt_pop (fun k => A.testBit k) 20 A (fun _ _ => rfl)]
  rw [hcnt_split (f := fun k => A.testBit k || B.testBit k) (g := fun k => A.testBit k)]
  congr 1
  · exact hcnt_ext _ (fun j _ => by cases A.testBit j <;> cases B.testBit j <;> rfl)
  · exact hcnt_ext _ (fun j _ => by cases A.testBit j <;> cases B.testBit j <;> rfl)
theorem hcnt_cut {f : Nat → Bool} {k : Nat} (h : ∀ j, k ≤ j → f j = false) : ∀ d, hcnt f (k + d) = hcnt f k
  | 0 => rfl
  | d + 1 => by
    have := hcnt_f0 (h (k + d) (by omega))
    have ih := hcnt_cut h d
    show hcnt f (k + d + 1) = hcnt f k
    omega
theorem uS_put {s : Nat → Int} {g p : Nat} (hp : p < 8) : uS s (g ||| 2 ^ p) 8 = uS s g 8 ||| kn s p := by
  apply Nat.eq_of_testBit_eq
  intro k
  rw [Nat.testBit_or, uS_bit, uS_bit, Bool.eq_iff_iff, Bool.or_eq_true, hAnyB_iff, hAnyB_iff]
  constructor
  · rintro ⟨q, hq, h⟩
    rw [Nat.testBit_or, Nat.testBit_two_pow, Bool.and_eq_true, Bool.or_eq_true, decide_eq_true_eq] at h
    rcases h with ⟨h1 | h1, h2⟩
    · exact .inl ⟨q, hq, by rw [h1, h2]; rfl⟩
    · rw [← h1] at h2
      exact .inr h2
  · rintro (⟨q, hq, h⟩ | h)
    · rw [Bool.and_eq_true] at h
      exact ⟨q, hq, by rw [Nat.testBit_or, h.1, h.2, Bool.true_or]; rfl⟩
    · exact ⟨p, hp, by rw [Nat.testBit_or, Nat.testBit_two_pow, decide_eq_true rfl, h, Bool.or_true]; rfl⟩
theorem dG_eq {s : Nat → Int} (hs : sOK s) {g p : Nat} (hp : p < 8) : hpop 20 (uS s (g ||| 2 ^ p) 8) = hpop 20 (uS s g 8) + dG s p g := by
  rw [uS_put hp, pop_add]
  congr 1
  have k := (kn_eq hs p).2
  exact hcnt_cut (k := 12) (fun j hj => by
    have : (kn s p).testBit j = false := Nat.testBit_lt_two_pow (Nat.lt_of_lt_of_le k (show 2 ^ 12 ≤ 2 ^ j from Nat.pow_le_pow_right (by decide) hj))
    rw [this, Bool.false_and]) 8
theorem sN_cnt {f : Nat → Bool} {c : Nat} : ∀ k, sN (fun j => if f j = true then c else 0) k = c * hcnt f k
  | 0 => rfl
  | k + 1 => by
    have ih := sN_cnt (f := f) (c := c) k
    show sN (fun j => if f j = true then c else 0) k + (if f k = true then c else 0) = c * (hcnt f k + (if f k = true then 1 else 0))
    rw [ih]
    split <;> (rw [Nat.mul_add]; omega)
/-- the sum over all groups, and the sum over all skills -/
theorem shap {s : Nat → Int} {P p n : Nat} (hp : p < 8) (hP : P.testBit p = true) (hn : hcnt (fun q => P.testBit q) 8 = n) (h5 : n ≤ 5) : rN s P p n 256 * 60 = fct_ n * (100 * pS s P p 12) := by
  have e1 : rN s P p n 256 = 100 * sN (fun g => sN (fun k => if (gOk P p g && ((kn s p).testBit k && !((uS s g 8).testBit k))) = true then wN n (hpop 20 g) else 0) 12) 256 := by
    unfold rN
    rw [← sN_mul]
    refine sN_ext _ (fun g _ => ?_)
    unfold dG
    cases gOk P p g with
    | false =>
      rw [if_neg (by decide), sN_z _ (fun j _ => by rw [Bool.false_and, if_neg (by decide)])]
    | true =>
      rw [if_pos rfl]
      have e := sN_cnt (f := fun k => (kn s p).testBit k && !((uS s g 8).testBit k)) (c := wN n (hpop 20 g)) 12
      have e' : sN (fun k => if (true && ((kn s p).testBit k && !((uS s g 8).testBit k))) = true then wN n (hpop 20 g) else 0) 12 = wN n (hpop 20 g) * hcnt (fun k => (kn s p).testBit k && !((uS s g 8).testBit k)) 12 := by
        rw [← e]
        exact sN_ext _ (fun j _ => by rw [Bool.true_and])
      rw [e', Nat.mul_left_comm]
  rw [e1, sN_swap]
  have e2 : ∀ k, k < 12 → sN (fun g => if (gOk P p g && ((kn s p).testBit k && !((uS s g 8).testBit k))) = true then wN n (hpop 20 g) else 0) 256 * 60 = fct_ n * (if (kn s p).testBit k = true then 60 / kc s P k else 0) := fun k _ => by
    by_cases b : (kn s p).testBit k = true
    · rw [if_pos b]
      have eU : sN (fun g => if (gOk P p g && ((kn s p).testBit k && !((uS s g 8).testBit k))) = true then wN n (hpop 20 g) else 0) 256 = sN (fun g => if sB (fun q => P.testBit q && !((kn s q).testBit k)) 8 g = true then wN n (hpop 8 g) else 0) (2 ^ 8) := by
        refine sN_ext _ (fun g hg => ?_)
        have ep : hpop 20 g = hpop 8 g := hpop_20 (k := 8) (by decide) hg
        have ec : (gOk P p g && ((kn s p).testBit k && !((uS s g 8).testBit k))) = sB (fun q => P.testBit q && !((kn s q).testBit k)) 8 g := by
          rw [Bool.eq_iff_iff, b, Bool.true_and, Bool.and_eq_true, Bool.not_eq_true', uS_bit, sB_iff]
          unfold gOk
          rw [Bool.and_eq_true, Bool.not_eq_true', sB_iff]
          constructor
          · rintro ⟨⟨h1, h2⟩, h3⟩ q hq hb
            rw [h1 q hq hb, Bool.true_and, Bool.not_eq_true', Bool.eq_false_iff]
            intro z
            have : hAnyB (fun q => g.testBit q && (kn s q).testBit k) 8 = true := hAnyB_iff.mpr ⟨q, hq, by rw [hb, z]; rfl⟩
            rw [this] at h3
            cases h3
          · intro h
            refine ⟨⟨fun q hq hb => ?_, ?_⟩, hAnyB_f (fun q hq => ?_)⟩
            · have := h q hq hb
              rw [Bool.and_eq_true] at this
              exact this.1
            · rw [Bool.eq_false_iff]
              intro hb
              have := h p hp hb
              rw [b, Bool.not_true, Bool.and_false] at this
              cases this
            · by_cases hb : g.testBit q = true
              · have := h q hq hb
                rw [Bool.and_eq_true, Bool.not_eq_true'] at this
                rw [this.2, Bool.and_false]
              · rw [Bool.eq_false_iff.mpr hb, Bool.false_and]
        rw [ec, ep]
      rw [eU, Vs_sum 8 (wN n)]
      have hsp := hcnt_split (f := fun q => P.testBit q) (g := fun q => (kn s q).testBit k) 8
      have hkc : hcnt (fun q => P.testBit q && (kn s q).testBit k) 8 = kc s P k := rfl
      rw [hn, hkc] at hsp
      have pos : 1 ≤ kc s P k := by
        rcases Nat.eq_zero_or_pos (kc s P k) with z | z
        · exfalso
          have all : ∀ j, j ≤ 8 → hcnt (fun q => P.testBit q && (kn s q).testBit k) j = 0 → ∀ q, q < j → (P.testBit q && (kn s q).testBit k) = false := by
            intro j
            induction j with
            | zero => exact fun _ _ q hq => absurd hq (Nat.not_lt_zero _)
            | succ j ih =>
              intro hj h0 q hq
              have h0 : hcnt (fun q => P.testBit q && (kn s q).testBit k) j + (if (P.testBit j && (kn s j).testBit k) = true then 1 else 0) = 0 := h0
              by_cases e : q = j
              · subst e
                rw [Bool.eq_false_iff]
                intro t
                rw [if_pos t] at h0
                omega
              · exact ih (by omega) (by omega) q (by omega)
          have := all 8 (Nat.le_refl _) z p hp
          rw [hP, b] at this
          cases this
        · exact z
      have hv := Vs_all n (by omega) (kc s P k) (by omega) pos (by omega)
      have h60 := c60_all (kc s P k) (by omega) pos
      have hd : hcnt (fun q => P.testBit q && !((kn s q).testBit k)) 8 = n - kc s P k := by omega
      rw [hd]
      have hv : Vs (n - kc s P k) (wN n) * kc s P k = fct_ n := hv
      rw [← hv, Nat.mul_assoc, Nat.mul_comm (kc s P k), h60]
    · rw [if_neg b, sN_z _ (fun g _ => by rw [Bool.eq_false_iff.mpr b, Bool.false_and, Bool.and_false, if_neg (by decide)])]
      omega
  have e3 : sN (fun k => sN (fun g => if (gOk P p g && ((kn s p).testBit k && !((uS s g 8).testBit k))) = true then wN n (hpop 20 g) else 0) 256) 12 * 60 = fct_ n * pS s P p 12 := by
    unfold pS
    rw [Nat.mul_comm, ← sN_mul, ← sN_mul]
    exact sN_ext _ (fun k hk => by rw [Nat.mul_comm, e2 k hk])
  rw [Nat.mul_assoc, e3, Nat.mul_left_comm]
/-! the least terms -/
theorem lst_mul {x y g t : Nat} (ht : 0 < t) (hg : Nat.gcd x y = g) : Nat.gcd (t * x) (t * y) = t * g ∧ (t * x) / (t * g) = x / g ∧ (t * y) / (t * g) = y / g := by
  refine ⟨by rw [Nat.gcd_mul_left, hg], Nat.mul_div_mul_left _ _ ht, Nat.mul_div_mul_left _ _ ht⟩
theorem lst_eq {X Y a b c : Nat} (hc : 0 < c) (ha : 0 < a) (hb : 0 < b) (N D : Nat) (hX : X = a * c) (hY : Y = b * c) (k : Nat) (hN : N = a * k) (hD : D = b * k) : X / Nat.gcd X N = Y / Nat.gcd Y D ∧ N / Nat.gcd X N = D / Nat.gcd Y D := by
  obtain ⟨h1, h2, h3⟩ := lst_mul (x := c) (y := k) ha rfl
  obtain ⟨g1, g2, g3⟩ := lst_mul (x := c) (y := k) hb rfl
  rw [hX, hY, hN, hD, h1, h2, h3, g1, g2, g3]
  exact ⟨rfl, rfl⟩
/-- the same part in its least terms, of 60 and of all orders -/
theorem lst60 {X Y n : Nat} (h1 : 1 ≤ n) (h5 : n ≤ 5) (h : X * 60 = fct_ n * Y) : X / Nat.gcd X (fct_ n) = Y / Nat.gcd Y 60 ∧ fct_ n / Nat.gcd X (fct_ n) = 60 / Nat.gcd Y 60 := by
  rcases Nat.eq_zero_or_pos X with z | z
  · have fp : 0 < fct_ n := by
      have : ∀ n, n < 6 → 0 < fct_ n := by decide
      exact this n (by omega)
    have y0 : Y = 0 := by
      rw [z, Nat.zero_mul] at h
      rcases Nat.mul_eq_zero.mp h.symm with q | q
      · omega
      · exact q
    subst z y0
    rw [Nat.gcd_zero_left, Nat.gcd_zero_left, Nat.zero_div, Nat.zero_div, Nat.div_self fp, Nat.div_self (by decide)]
    exact ⟨rfl, rfl⟩
  have hn : n = 1 ∨ n = 2 ∨ n = 3 ∨ n = 4 ∨ n = 5 := by omega
  rcases hn with rfl | rfl | rfl | rfl | rfl
  · have h : X * 60 = 1 * Y := h
    exact lst_eq (a := 1) (b := 60) (c := X) (k := 1) z (by decide) (by decide) 1 60 (by omega) (by omega) rfl rfl
  · have h : X * 60 = 2 * Y := h
    exact lst_eq (a := 1) (b := 30) (c := X) (k := 2) z (by decide) (by decide) 2 60 (by omega) (by omega) rfl rfl
  · have h : X * 60 = 6 * Y := h
    exact lst_eq (a := 1) (b := 10) (c := X) (k := 6) z (by decide) (by decide) 6 60 (by omega) (by omega) rfl rfl
  · have h : X * 60 = 24 * Y := h
    exact lst_eq (a := 2) (b := 5) (c := X / 2) (k := 12) (by omega) (by decide) (by decide) 24 60 (by omega) (by omega) rfl rfl
  · have h : X * 60 = 120 * Y := h
    exact lst_eq (a := 2) (b := 1) (c := Y) (k := 60) (by omega) (by decide) (by decide) 120 60 (by omega) (by omega) rfl rfl
end
section
/-! share: by both -/
theorem gx_wn {v : Nat} (h : v ≤ 100000000) : gx_w (v : Int) = (v : Int) := gx_w_id (by omega) (by omega)
theorem pS_le {s : Nat → Int} {P p : Nat} : ∀ k, pS s P p k ≤ 60 * k
  | 0 => Nat.le_refl _
  | k + 1 => by
    have ih := pS_le (s := s) (P := P) (p := p) k
    have d := Nat.div_le_self 60 (kc s P k)
    show pS s P p k + (if (kn s p).testBit k = true then 60 / kc s P k else 0) ≤ 60 * (k + 1)
    split <;> omega
theorem kc_le {s : Nat → Int} {P k : Nat} : kc s P k ≤ 8 := hcnt_le _ 8
theorem pop_8 {P : Nat} (hP : P < 256) : hpop 20 P = hcnt (fun q => P.testBit q) 8 := by
  rw [hpop_20 (k := 8) (by decide) hP]
  exact hcnt_pop _ 8 P (fun _ _ => rfl)
def qShV (s : Nat → Int) (P p : Nat) (w : Int) : Int := if w = 0 then ((100 * pS s P p 12 / Nat.gcd (100 * pS s P p 12) 60 : Nat) : Int) else ((60 / Nat.gcd (100 * pS s P p 12) 60 : Nat) : Int)
def qShC (s : Nat → Int) (g p w : Int) : Prop := 0 ≤ g ∧ g ≤ 255 ∧ gx_and g (gx_xor (s 1128) (-1)) = 0 ∧ aPers s p ∧ (0 ≤ w ∧ w ≤ 1) ∧ hpop 20 g.toNat ≤ 5 ∧ gx_and (gx_shr g p) 1 = 1
noncomputable def qShare (s : Nat → Int) (g p w : Int) : Int := @ite _ (qShC s g p w) (Classical.propDecidable _) (qShV s g.toNat p.toNat w) (-1)
theorem qShare_no {s : Nat → Int} {g p w : Int} (h : ¬ qShC s g p w) : qShare s g p w = -1 := if_neg h
theorem qShare_yes {s : Nat → Int} {P p : Nat} {w : Int} (h : qShC s (P : Int) (p : Int) w) : qShare s (P : Int) (p : Int) w = qShV s P p w := if_pos h
theorem tdv (a b : Nat) : Int.tdiv (a : Int) (b : Int) = ((a / b : Nat) : Int) := by
  rw [Int.tdiv_eq_ediv_of_nonneg (by omega)]
  rfl
theorem tmd (a b : Nat) : Int.tmod (a : Int) (b : Int) = ((a % b : Nat) : Int) := by
  rw [Int.tmod_eq_emod_of_nonneg (by omega)]
  rfl
section SHR
variable {xs : List Int32} {n : Nat} {Q : hQ} {m m0 : gx_M} {s : Nat → Int} {a1 a2 a3 : Int} {P p k : Nat}
def kw (s : Nat → Int) (P q : Nat) : Nat := if P.testBit q = true then kn s q else 0
theorem kw_lt (hs : sOK s) {q : Nat} : kw s P q < 4096 := by
  have := (kn_eq hs q).2
  unfold kw
  split
  · exact this
  · decide
theorem kw_bit {q : Nat} : (kw s P q).testBit k = (P.testBit q && (kn s q).testBit k) := by
  unfold kw
  split
  · rename_i b
    rw [b, Bool.true_and]
  · rename_i b
    rw [Bool.eq_false_iff.mpr b, Bool.false_and, Nat.zero_testBit]
theorem c105 (hs : sOK s) (hk : k < 12) (hK : ∀ q, q < 8 → m 80 q = ((kw s P q : Nat) : Int)) (h : Q (some (.inl ((kc s P k : Nat) : Int))) m) : hxn xs n yp_m105 0 [(0, .inr (.inl 76)), (1, .inl (k : Int))] [] m Q := by
  have hl := hloop (N := 8) (P := fun q => hxn xs n yp_m105 4 [(0, .inr (.inl 76)), (1, .inl (k : Int)), (2, .inl ((hcnt (fun q => P.testBit q && (kn s q).testBit k) q : Nat) : Int)), (3, .inl (q : Int))] [] m Q) (hx_dn (hr105_4 (fun _ => h) (fun c => absurd c (by decide)))) (fun q hq ih => ?_) 0 (Nat.zero_le _)
  · exact hx_dn (hr105_0 hl)
  · have hle := hcnt_le (fun q => P.testBit q && (kn s q).testBit k) q
    have lt := kw_lt (P := P) hs (q := q)
    refine hx_dn (hr105_4 (fun c => absurd c (by omega)) (fun _ => ?_))
    rw [Int.toNat_natCast, hK q hq, hibit (by omega) (by omega), kw_bit, ew_u (by omega)]
    by_cases b : (P.testBit q && (kn s q).testBit k) = true
    · rw [if_pos b, gx_w_id (by omega) (by omega)]
      rw [hcnt_t (f := fun q => P.testBit q && (kn s q).testBit k) b] at ih
      exact ih
    · rw [if_neg b, gx_w_id (by omega) (by omega)]
      rw [hcnt_f (f := fun q => P.testBit q && (kn s q).testBit k) (Bool.eq_false_iff.mpr b)] at ih
      exact ih
theorem c104 (hs : sOK s) (hB : sBk 5 s m) (hP : P < 256) (hp : p < 8) (hb : P.testBit p = true) (h : ∀ m', Q (some (.inl ((pS s P p 12 : Nat) : Int))) m') : hxn xs n yp_m104 0 [(0, .inr (.inl 76)), (1, .inr (.inl 5)), (2, .inl (P : Int)), (3, .inl (p : Int))] [] m Q := by
  refine hx_dn (hr104_0 (fun c => absurd c (by omega)) (fun _ _ => ?_) (fun _ c => absurd c (by omega)))
  refine hloop (N := 8) (P := fun q => ∀ m1 : gx_M, sBk 5 s m1 → (∀ j, j < q → m1 80 j = ((kw s P j : Nat) : Int)) → hxn xs n yp_m104 15 [(0, .inr (.inl 76)), (1, .inr (.inl 5)), (2, .inl (P : Int)), (3, .inl (p : Int)), (4, .inl (q : Int))] [] m1 Q) (fun m1 hB1 hK => ?_) (fun q hq ih m1 hB1 hK => ?_) 0 (Nat.zero_le _) m hB (fun j hj => absurd hj (Nat.not_lt_zero _))
  · refine hx_dn (hr104_15 (fun _ => ?_) (fun c => absurd c (by decide)) (fun c => absurd c (by decide)))
    refine hloop (N := 12) (P := fun k => hxn xs n yp_m104 64 [(0, .inr (.inl 76)), (3, .inl (p : Int)), (4, .inl ((pS s P p k : Nat) : Int)), (5, .inl (k : Int))] [] m1 Q) (hx_dn (hr104_64 (fun _ => h m1) (fun c => absurd c (by decide)))) (fun k hk ih => ?_) 0 (Nat.zero_le _)
    have le := pS_le (s := s) (P := P) (p := p) k
    have lk := kc_le (s := s) (P := P) (k := k)
    have ld := Nat.div_le_self 60 (kc s P k)
    have lt := kw_lt (P := P) hs (q := p)
    have eb : (kw s P p).testBit k = (kn s p).testBit k := by rw [kw_bit, hb, Bool.true_and]
    have ih : hxn xs n yp_m104 64 [(0, .inr (.inl 76)), (3, .inl (p : Int)), (4, .inl ((pS s P p k + (if (kn s p).testBit k = true then 60 / kc s P k else 0) : Nat) : Int)), (5, .inl ((k + 1 : Nat) : Int))] [] m1 Q := ih
    refine hx_dn (hr104_64 (fun c => absurd c (by omega)) (fun _ => c105 hs hk hK (hx_dn (hr104_77 (fun c => ?_) (fun c d => ?_) (fun c d => ?_)))))
    · rw [Int.toNat_natCast, hK p hp, hibit (by omega) (by omega), eb] at c
      have b : ¬ (kn s p).testBit k = true := fun b => by
        rw [if_pos b] at c
        cases c
      rw [if_neg b, Nat.add_zero] at ih
      rw [ew_u (by omega)]
      exact ih
    · have z : kc s P k = 0 := by omega
      rw [z, Nat.div_zero] at ih
      have e0 : (if (kn s p).testBit k = true then 0 else 0) = 0 := by split <;> rfl
      rw [e0, Nat.add_zero] at ih
      rw [ew_u (by omega)]
      exact ih
    · rw [Int.toNat_natCast, hK p hp, hibit (by omega) (by omega), eb] at c
      have b : (kn s p).testBit k = true := by
        split at c
        · assumption
        · exact absurd rfl c
      rw [if_pos b] at ih
      have et : Int.tdiv 60 ((kc s P k : Nat) : Int) = ((60 / kc s P k : Nat) : Int) := tdv 60 _
      have e : ((pS s P p k : Nat) : Int) + ((60 / kc s P k : Nat) : Int) = ((pS s P p k + 60 / kc s P k : Nat) : Int) := rfl
      rw [et, gx_wn (v := 60 / kc s P k) (by omega), e, gx_wn (v := pS s P p k + 60 / kc s P k) (by omega), ew_u (k := k) (by omega)]
      exact ih
  · have st : ∀ v : Nat, v = kw s P q → hxn xs n yp_m104 15 [(0, .inr (.inl 76)), (1, .inr (.inl 5)), (2, .inl (P : Int)), (3, .inl (p : Int)), (4, .inl (gx_w ((q : Int) + 1)))] [] (gx_u m1 80 q (v : Int)) Q := fun v e => by
      rw [ew_u (by omega)]
      refine ih _ (sBk_c (fun c c1 c2 => gx_u_off (by omega)) hB1) (fun j hj => ?_)
      by_cases e2 : j = q
      · subst e2
        rw [gx_u_self, e]
      · rw [gx_u_ne (by omega)]
        exact hK j (by omega)
    have et := hibit (X := P) (y := q) (by omega) (by omega)
    refine hx_dn (hr104_15 (fun c => absurd c (by omega)) (fun _ c => ?_) (fun _ c => ?_))
    · rw [Int.toNat_natCast]
      refine st 0 ?_
      unfold kw
      rw [et] at c
      rw [if_neg (fun b => by rw [if_pos b] at c; cases c)]
    · have b : P.testBit q = true := by
        rw [et] at c
        split at c
        · assumption
        · exact absurd rfl c
      refine c60 hB1 (hx_dn (hr104_44 (c64 hB1 (hx_dn (hr104_47 ?_)))))
      rw [Int.toNat_natCast, (kn_eq hs q).1]
      refine st (kn s q) ?_
      unfold kw
      rw [if_pos b]
theorem c106 : ∀ (d i a b : Nat), i + d = 60 → b ≤ d → Q (some (.inl ((Nat.gcd a b : Nat) : Int))) m → hxn xs n yp_m106 2 [(0, .inl (a : Int)), (1, .inl (b : Int)), (2, .inl (i : Int))] [] m Q := by
  intro d
  induction d with
  | zero =>
    intro i a b hi hb h
    have e : b = 0 := by omega
    subst e
    rw [Nat.gcd_zero_right] at h
    exact hx_dn (hr106_2 (fun c => absurd c (by omega)) (fun _ _ => h) (fun _ c => absurd rfl c))
  | succ d ih =>
    intro i a b hi hb h
    refine hx_dn (hr106_2 (fun c => absurd c (by omega)) (fun _ c => ?_) (fun _ c => ?_))
    · have e : b = 0 := by omega
      subst e
      rw [Nat.gcd_zero_right] at h
      exact h
    · rw [tmd, ew_u (by omega)]
      have lt := Nat.mod_lt a (show b > 0 by omega)
      refine ih (i + 1) b (a % b) (by omega) (by omega) ?_
      have e : Nat.gcd b (a % b) = Nat.gcd a b := by
        rw [Nat.gcd_comm b (a % b), ← Nat.gcd_rec, Nat.gcd_comm]
      rw [e]
      exact h
theorem q103 (hR : hWr xs m) : hxn xs n yp_m103 0 [(0, .inr (.inl 0)), (1, .inl a1), (2, .inl a2), (3, .inl a3)] [] m (fun r _ => r = some (.inl (qShare (m 87) a1 a2 a3))) := by
  obtain ⟨hs, hB, -⟩ := hR
  have i2 : cPers 5 m a2 ↔ aPers (m 87) a2 := cP_iff hB
  have no : ¬ qShC (m 87) a1 a2 a3 → (some (.inl (-1)) : Option hV) = some (.inl (qShare (m 87) a1 a2 a3)) := fun h => by rw [qShare_no h]
  refine hx_dn (hr103_0 (fun _ _ c => no (fun q => by have := q.2.2.2.2.1; omega)) (fun c1 c2 c3 c4 => ?_) (fun _ _ _ c => no (fun q => by have := q.2.2.2.2.1; omega)) (fun _ c => no (fun q => c (i2.mpr q.2.2.2.1))) (fun c => no (fun q => c ⟨q.1, q.2.1, by rw [sB5_ppl hB]; exact q.2.2.1⟩)))
  obtain ⟨g1, g2, g3⟩ := c1
  rw [sB5_ppl hB] at g3
  obtain ⟨P, rfl⟩ : ∃ P : Nat, a1 = (P : Int) := ⟨a1.toNat, by omega⟩
  have p2 := i2.mp c2
  obtain ⟨p, rfl, hp, -⟩ := aPers_nat p2
  refine hs63 (by omega) (hx_dn (hr103_37 (fun c => no (fun q => ?_)) (fun c d => ?_) (fun c d => no (fun q => ?_))))
  · have := q.2.2.2.2.2.1
    rw [Int.toNat_natCast] at this
    omega
  · have hb : P.testBit p = true := by
      rw [hibit (by omega) (by omega)] at d
      split at d
      · assumption
      · exact absurd rfl d
    have C : qShC (m 87) (P : Int) (p : Int) a3 := ⟨g1, g2, g3, p2, ⟨c3, c4⟩, by rw [Int.toNat_natCast]; omega, (bit_i (by omega) hp).mpr hb⟩
    rw [qShare_yes C]
    refine c104 hs hB (by omega) hp hb (fun m1 => hx_dn (hr103_66 ?_))
    have le := pS_le (s := m 87) (P := P) (p := p) 12
    have e100 : gx_w (100 * ((pS (m 87) P p 12 : Nat) : Int)) = ((100 * pS (m 87) P p 12 : Nat) : Int) := by
      rw [gx_w_id (by omega) (by omega)]
      omega
    rw [e100]
    refine hx_dn (hr106_0 (c106 60 0 _ 60 rfl (Nat.le_refl _) (hx_dn (hr103_76 (fun c d => ?_) (fun c d => ?_) (fun c => ?_)))))
    · have et : Int.tdiv 60 ((Nat.gcd (100 * pS (m 87) P p 12) 60 : Nat) : Int) = _ := tdv 60 _
      have l := Nat.div_le_self 60 (Nat.gcd (100 * pS (m 87) P p 12) 60)
      rw [et, gx_wn (by omega)]
      unfold qShV
      rw [if_neg d]
    · have l := Nat.div_le_self (100 * pS (m 87) P p 12) (Nat.gcd (100 * pS (m 87) P p 12) 60)
      rw [tdv, gx_wn (by omega)]
      unfold qShV
      rw [if_pos d]
    · have : 0 < Nat.gcd (100 * pS (m 87) P p 12) 60 := Nat.gcd_pos_of_pos_right _ (by decide)
      omega
  · rw [q.2.2.2.2.2.2] at d
    cases d
/-! the reference -/
theorem r239 {v : Nat} (hv : v ≤ 5) (h : Q (some (.inl ((fct_ v : Nat) : Int))) m) : hxn xs n yp_m239 0 [(0, .inl (v : Int))] [] m Q := by
  refine hx_dn (hr239_0 ?_)
  by_cases h2 : v < 2
  · have e : fct_ v = 1 := by
      have : v = 0 ∨ v = 1 := by omega
      rcases this with rfl | rfl <;> rfl
    rw [e] at h
    exact hx_dn (hr239_4 (fun _ => h) (fun c => absurd c (by omega)))
  · have b : ∀ k, k < 6 → fct_ k ≤ 120 := by decide
    have L : ∀ d k : Nat, k + d = v → 1 ≤ k → hxn xs n yp_m239 4 [(0, .inl (v : Int)), (1, .inl ((fct_ k : Nat) : Int)), (2, .inl ((k + 1 : Nat) : Int))] [] m Q := by
      intro d
      induction d with
      | zero =>
        intro k hk _
        have e : k = v := by omega
        subst e
        exact hx_dn (hr239_4 (fun _ => h) (fun c => absurd c (by omega)))
      | succ d ih =>
        intro k hk h1
        refine hx_dn (hr239_4 (fun c => absurd c (by omega)) (fun _ => ?_))
        have b1 := b (k + 1) (by omega)
        have e : ((fct_ k : Nat) : Int) * ((k + 1 : Nat) : Int) = ((fct_ (k + 1) : Nat) : Int) := rfl
        rw [e, gx_w_id (by omega) (by omega), ew_u (by omega)]
        exact ih (k + 1) (by omega) (by omega)
    exact L (v - 1) 1 (by omega) (Nat.le_refl _)
theorem r241 : ∀ (b a : Nat), Q (some (.inl ((Nat.gcd a b : Nat) : Int))) m → hxn xs n yp_m241 4 [(2, .inl (a : Int)), (3, .inl (b : Int))] [] m Q := by
  intro b
  induction b using Nat.strongRecOn with
  | ind b ih =>
    intro a h
    refine hx_dn (hr241_4 (fun c => ?_) (fun c => ?_))
    · have e : b = 0 := by omega
      subst e
      rw [Nat.gcd_zero_right] at h
      exact h
    · rw [tmd]
      refine ih (a % b) (Nat.mod_lt a (by omega)) b ?_
      have e : Nat.gcd b (a % b) = Nat.gcd a b := by
        rw [Nat.gcd_comm b (a % b), ← Nat.gcd_rec, Nat.gcd_comm]
      rw [e]
      exact h
theorem r240 {g : Nat} (hs : sOK (m 87)) (hg : g < 256) (h : Q (some (.inl ((100 * hpop 20 (uS (m 87) g 8) : Nat) : Int))) m) : hxn xs n yp_m240 0 [(0, .inr (.inl 86)), (1, .inl (g : Int))] [] m Q := by
  have hl := hloop (N := 8) (P := fun q => hxn xs n yp_m240 4 [(0, .inr (.inl 86)), (1, .inl (g : Int)), (2, .inl ((uS (m 87) g q : Nat) : Int)), (3, .inl (q : Int))] [] m Q) (hx_dn (hr240_4 (fun _ => ?_) (fun c => absurd c (by decide)) (fun c => absurd c (by decide)))) (fun q hq ih => ?_) 0 (Nat.zero_le _)
  · exact hx_dn (hr240_0 hl)
  · have lt := uS_lt hs (g := g) 8
    refine hs206 (by omega) (hx_dn (hr240_39 ?_))
    have l := hpop_le 20 (uS (m 87) g 8)
    rw [gx_w_id (by omega) (by omega)]
    exact h
  · have lt := uS_lt hs (g := g) q
    obtain ⟨k1, k2⟩ := kn_eq hs q
    have ih : hxn xs n yp_m240 4 [(0, .inr (.inl 86)), (1, .inl (g : Int)), (2, .inl ((if g.testBit q = true then uS (m 87) g q ||| kn (m 87) q else uS (m 87) g q : Nat) : Int)), (3, .inl ((q + 1 : Nat) : Int))] [] m Q := ih
    refine hx_dn (hr240_4 (fun c => absurd c (by omega)) (fun _ c => r207 hs (hx_dn (hr240_25 ?_))) (fun _ c => ?_))
    · rw [if_pos ((bit_i hg hq).mp c)] at ih
      rw [k1, hor_nat (by omega) (by omega), ew_u (by omega)]
      exact ih
    · rw [if_neg (fun b => c ((bit_i hg hq).mpr b))] at ih
      rw [ew_u (by omega)]
      exact ih
theorem wN_le : ∀ n, n < 6 → ∀ j, j < 6 → j + 1 ≤ n → fct_ j ≤ 24 ∧ fct_ (n - 1 - j) ≤ 24 ∧ wN n j ≤ 24 := by decide
theorem dG_le {g : Nat} : dG s p g ≤ 12 := hcnt_le _ 12
theorem gOk_pop {g N : Nat} (hP : P < 256) (hp : p < 8) (hb : P.testBit p = true) (hN : hpop 20 P = N) (hg : g < 256) (h : gOk P p g = true) : hpop 20 g + 1 ≤ N := by
  unfold gOk at h
  rw [Bool.and_eq_true, Bool.not_eq_true', sB_iff] at h
  rw [← hN, pop_8 hP, pop_8 hg]
  exact hcnt_less 8 h.1 hp hb h.2
theorem rN_le {N : Nat} (hP : P < 256) (hp : p < 8) (hb : P.testBit p = true) (hN : hpop 20 P = N) (h5 : N ≤ 5) : ∀ g, g ≤ 256 → rN s P p N g ≤ 28800 * g
  | 0, _ => Nat.le_refl _
  | g + 1, hg => by
    have ih := rN_le hP hp hb hN h5 g (by omega)
    have d := dG_le (s := s) (p := p) (g := g)
    show rN s P p N g + (if gOk P p g = true then wN N (hpop 20 g) * (100 * dG s p g) else 0) ≤ 28800 * (g + 1)
    split
    · rename_i k
      have lp := gOk_pop hP hp hb hN (by omega) k
      have w := (wN_le N (by omega) (hpop 20 g) (by omega) lp).2.2
      have := Nat.mul_le_mul w (show 100 * dG s p g ≤ 1200 by omega)
      omega
    · omega
theorem r238l {N : Nat} (hs : sOK (m 87)) (hP : P < 256) (hp : p < 8) (hb : P.testBit p = true) (hN : hpop 20 P = N) (h5 : N ≤ 5) (h : hxn xs n yp_m239 0 [(0, .inl (N : Int))] [] m (fun r m' => hxn xs n yp_m238 155 [(3, .inl a3), (4, .inl (N : Int)), (5, .inl ((rN (m 87) P p N 256 : Nat) : Int))] (hrs r ++ [.inl ((rN (m 87) P p N 256 : Nat) : Int)]) m' Q)) : hxn xs n yp_m238 68 [(0, .inr (.inl 86)), (1, .inl (P : Int)), (2, .inl (p : Int)), (3, .inl a3), (4, .inl (N : Int)), (5, .inl 0), (6, .inl 0)] [] m Q := by
  refine hloop (N := 256) (P := fun g => hxn xs n yp_m238 68 [(0, .inr (.inl 86)), (1, .inl (P : Int)), (2, .inl (p : Int)), (3, .inl a3), (4, .inl (N : Int)), (5, .inl ((rN (m 87) P p N g : Nat) : Int)), (6, .inl (g : Int))] [] m Q) (hx_dn (hr238_68 (fun _ => h) (fun c => absurd c (by decide)) (fun c => absurd c (by decide)) (fun c => absurd c (by decide)))) (fun g hg ih => ?_) 0 (Nat.zero_le _)
  have le := rN_le (s := m 87) hP hp hb hN h5 g (by omega)
  have ih : hxn xs n yp_m238 68 [(0, .inr (.inl 86)), (1, .inl (P : Int)), (2, .inl (p : Int)), (3, .inl a3), (4, .inl (N : Int)), (5, .inl ((rN (m 87) P p N g + (if gOk P p g = true then wN N (hpop 20 g) * (100 * dG (m 87) p g) else 0) : Nat) : Int)), (6, .inl ((g + 1 : Nat) : Int))] [] m Q := ih
  have no : ¬ gOk P p g = true → hxn xs n yp_m238 68 [(0, .inr (.inl 86)), (1, .inl (P : Int)), (2, .inl (p : Int)), (3, .inl a3), (4, .inl (N : Int)), (5, .inl ((rN (m 87) P p N g : Nat) : Int)), (6, .inl (gx_w ((g : Int) + 1)))] [] m Q := fun c => by
    rw [if_neg c, Nat.add_zero] at ih
    rw [ew_u (by omega)]
    exact ih
  refine hx_dn (hr238_68 (fun c => absurd c (by omega)) (fun _ c => no (fun k => ?_)) (fun _ c d => no (fun k => ?_)) (fun _ c d => ?_))
  · unfold gOk at k
    rw [Bool.and_eq_true] at k
    exact c ((sub_iff hP hg).mpr k.1)
  · unfold gOk at k
    rw [Bool.and_eq_true, (bit_i hg hp).mp d] at k
    exact absurd k.2 (by decide)
  · have ok : gOk P p g = true := by
      unfold gOk
      rw [(sub_iff hP hg).mp c, Bool.true_and, Bool.not_eq_true', Bool.eq_false_iff]
      exact fun b => d ((bit_i hg hp).mpr b)
    have lp := gOk_pop hP hp hb hN hg ok
    rw [if_pos ok] at ih
    obtain ⟨w1, w2, w3⟩ := wN_le N (by omega) (hpop 20 g) (by omega) lp
    have dl := dG_le (s := m 87) (p := p) (g := g)
    have de := dG_eq hs (g := g) hp
    have pl := hpop_le 20 (uS (m 87) g 8)
    have en : gx_w ((gx_w ((N : Int) - 1)) - ((hpop 20 g : Nat) : Int)) = ((N - 1 - hpop 20 g : Nat) : Int) := by
      rw [gx_w_id (x := (N : Int) - 1) (by omega) (by omega), gx_w_id (by omega) (by omega)]
      omega
    have ep : gx_or (g : Int) (gx_shl 1 (p : Int)) = ((g ||| 2 ^ p : Nat) : Int) := by
      have l2 := p2_lt hp
      rw [hshl_one p (by omega), hor_nat (by omega) (by omega)]
    have lg : g ||| 2 ^ p < 256 := Nat.or_lt_two_pow (n := 8) hg (p2_lt hp)
    have ww := Nat.mul_le_mul w3 (show 100 * dG (m 87) p g ≤ 1200 by omega)
    have wf : ((fct_ (hpop 20 g) : Nat) : Int) * ((fct_ (N - 1 - hpop 20 g) : Nat) : Int) = ((wN N (hpop 20 g) : Nat) : Int) := rfl
    refine hs206 (by omega) (hx_dn (hr238_104 (r239 (by omega) (hx_dn (hr238_107 (hs206 (by omega) (hx_dn (hr238_116 ?_))))))))
    rw [en]
    refine r239 (by omega) (hx_dn (hr238_120 ?_))
    rw [ep, wf, gx_w_id (x := ((wN N (hpop 20 g) : Nat) : Int)) (by omega) (by omega)]
    refine r240 hs lg (hx_dn (hr238_131 (r240 hs hg (hx_dn (hr238_137 ?_)))))
    have ed : gx_w (((100 * hpop 20 (uS (m 87) (g ||| 2 ^ p) 8) : Nat) : Int) - ((100 * hpop 20 (uS (m 87) g 8) : Nat) : Int)) = ((100 * dG (m 87) p g : Nat) : Int) := by
      rw [de, gx_w_id (by omega) (by omega)]
      omega
    have em : ((wN N (hpop 20 g) : Nat) : Int) * ((100 * dG (m 87) p g : Nat) : Int) = ((wN N (hpop 20 g) * (100 * dG (m 87) p g) : Nat) : Int) := (Int.natCast_mul _ _).symm
    rw [ed, em, gx_w_id (x := ((wN N (hpop 20 g) * (100 * dG (m 87) p g) : Nat) : Int)) (by omega) (by omega), gx_w_id (by omega) (by omega), ew_u (by omega)]
    have ea : ((rN (m 87) P p N g : Nat) : Int) + ((wN N (hpop 20 g) * (100 * dG (m 87) p g) : Nat) : Int) = ((rN (m 87) P p N g + wN N (hpop 20 g) * (100 * dG (m 87) p g) : Nat) : Int) := by omega
    rw [ea]
    exact ih
theorem q238 (b1 : hB a1) (hR : hWr xs m) : hxn xs n yp_m238 0 [(0, .inr (.inl 86)), (1, .inl a1), (2, .inl a2), (3, .inl a3)] [] m (fun r _ => r = some (.inl (qShare (m 87) a1 a2 a3))) := by
  obtain ⟨hs, -⟩ := hR
  have no : ¬ qShC (m 87) a1 a2 a3 → (some (.inl (-1)) : Option hV) = some (.inl (qShare (m 87) a1 a2 a3)) := fun h => by rw [qShare_no h]
  have ht := hs.2.2.2.1
  obtain ⟨T, hT⟩ : ∃ T : Nat, m 87 1128 = (T : Int) := ⟨(m 87 1128).toNat, by omega⟩
  refine hx_dn (hr238_0 (fun c => no (fun q => c q.2.2.1)) (fun c => ?_))
  have cT := c
  rw [hT] at cT
  have b := and_not_z b1 (by omega) cT
  obtain ⟨P, rfl⟩ : ∃ P : Nat, a1 = (P : Int) := ⟨a1.toNat, by omega⟩
  refine hs206 (by omega) (hx_dn (hr238_19 (fun c1 c2 c3 c4 => ?_) (fun _ _ _ c => no (fun q => c q.2.2.2.2.1)) (fun _ _ c => no (fun q => c q.2.2.2.2.2.2)) (fun _ c => no (fun q => c ⟨q.2.2.2.1.1, by have := q.2.2.2.1.2.1; omega⟩)) (fun c => no (fun q => c ?_))))
  · obtain ⟨p, rfl⟩ : ∃ p : Nat, a2 = (p : Int) := ⟨a2.toNat, by omega⟩
    have hb := (bit_i (P := P) (p := p) (by omega) (by omega)).mp c3
    have hTp : gx_and (gx_shr (m 87 1128) (p : Int)) 1 = 1 := by
      rw [hT]
      rw [hand_not (by omega) (by omega)] at cT
      have z : P &&& (2 ^ 32 - (T + 1)) = 0 := by omega
      have t := hnot_bit (M := P) (X := T) (i := p) (by omega) (by omega)
      rw [z, Nat.zero_testBit, hb, Bool.true_and] at t
      have t := t.symm
      rw [Bool.not_eq_false'] at t
      exact (bit_i (by omega) (by omega)).mpr t
    have C : qShC (m 87) (P : Int) (p : Int) a3 := ⟨b.1, b.2, c, ⟨by omega, by omega, hTp⟩, c4, by rw [Int.toNat_natCast]; omega, c3⟩
    rw [qShare_yes C]
    refine hs206 (by omega) (hx_dn (hr238_60 ?_))
    have fp : ∀ n, n < 6 → 0 < fct_ n ∧ fct_ n ≤ 120 := by decide
    have f0 := fp (hpop 20 P) (by omega)
    have gp : 0 < Nat.gcd (rN (m 87) P p (hpop 20 P) 256) (fct_ (hpop 20 P)) := Nat.gcd_pos_of_pos_right _ f0.1
    have le := rN_le (s := m 87) (P := P) (p := p) (by omega) (by omega) hb rfl (by omega) 256 (Nat.le_refl _)
    have sh := shap (s := m 87) (P := P) (p := p) (n := hpop 20 P) (by omega) hb (pop_8 (by omega)).symm (by omega)
    obtain ⟨l1, l2⟩ := lst60 (n := hpop 20 P) (by omega) (by omega) sh
    refine r238l hs (by omega) (by omega) hb rfl (by omega) (r239 (by omega) (hx_dn (hr238_155 (hx_dn (hr241_0 (r241 _ _ (hx_dn (hr238_158 (fun d => r239 (by omega) (hx_dn (hr238_177 ?_))) (fun d => ?_)))))))))
    · have l := Nat.div_le_self (fct_ (hpop 20 P)) (Nat.gcd (rN (m 87) P p (hpop 20 P) 256) (fct_ (hpop 20 P)))
      rw [tdv, gx_wn (by omega), l2]
      unfold qShV
      rw [if_neg d]
    · have l := Nat.div_le_self (rN (m 87) P p (hpop 20 P) 256) (Nat.gcd (rN (m 87) P p (hpop 20 P) 256) (fct_ (hpop 20 P)))
      rw [tdv, gx_wn (by omega), l1]
      unfold qShV
      rw [if_pos d]
  · have h5 := q.2.2.2.2.2.1
    rw [Int.toNat_natCast] at h5
    have hb := q.2.2.2.2.2.2
    obtain ⟨p, rfl⟩ : ∃ p : Nat, a2 = (p : Int) := ⟨a2.toNat, by have := q.2.2.2.1.1; omega⟩
    have hp : p < 8 := by
      have := q.2.2.2.1.2.1
      omega
    have hb := (bit_i (P := P) (p := p) (by omega) hp).mp hb
    have e := pop_8 (P := P) (by omega)
    have := hcnt_less (f := fun _ => false) (g := fun q => P.testBit q) (p := p) 8 (fun _ _ h => by cases h) hp hb rfl
    omega
end SHR
end
