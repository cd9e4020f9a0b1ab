/-! what a letter stands for, clauses that hold: roads of the class -/
/-- owned from 0 on -/
theorem hr60_0 {xs : List Int32} {n : Nat} {Q : hQ} {m : gx_M} {x1 : Int}
    (h1 : hxn xs n yp_m60 5 [(0, .inr (.inl 5)), (1, .inl x1), (2, .inr (.inr 0)), (4, .inl 0)] [] m Q) : hxn xs (n + 1) yp_m60 0 [(0, .inr (.inl 5)), (1, .inl x1)] [] m Q := by
  refine hx_blks (npc := 5) (L' := [(0, .inr (.inl 5)), (1, .inl x1), (2, .inr (.inr 0)), (4, .inl 0)]) (st' := []) (m' := m) ((0, .lconst 0, 1, 0, 0, 0, 0), (0, 0, 0)) [((1, .lstore_n 2, 1, 0, 0, 0, 0), (0, 0, 0)), ((2, .iconst 0, 1, 0, 0, 0, 0), (0, 0, 0)), ((3, .istore 4, 2, 0, 0, 0, 0), (0, 0, 0))] (by decide +kernel) rfl ?_
  exact hx_pick [0, 1, 2, 4] h1

/-- owned from 5 on -/
theorem hr60_5 {xs : List Int32} {n : Nat} {Q : hQ} {m : gx_M} {x1 x2 x4 : Int}
    (h1 : (40 ≤ x4) → Q (some (.inr (.inr x2))) m)
    (h2 : (x4 < 40) → ((hlcmp (hland (hlushr (m 5 1) x4) 1) 0) = 0) → hxn xs n yp_m60 5 [(0, .inr (.inl 5)), (1, .inl x1), (2, .inr (.inr x2)), (4, .inl (gx_w (x4 + 1)))] [] m Q)
    (h3 : (x4 < 40) → ((hlcmp (hland (hlushr (m 5 1) x4) 1) 0) ≠ 0) → ((m 12 (x4).toNat) ≠ x1) → hxn xs n yp_m60 5 [(0, .inr (.inl 5)), (1, .inl x1), (2, .inr (.inr x2)), (4, .inl (gx_w (x4 + 1)))] [] m Q)
    (h4 : (x4 < 40) → ((hlcmp (hland (hlushr (m 5 1) x4) 1) 0) ≠ 0) → ((m 12 (x4).toNat) = x1) → hxn xs n yp_m60 5 [(0, .inr (.inl 5)), (1, .inl x1), (2, .inr (.inr (hlor x2 (hlshl 1 x4)))), (4, .inl (gx_w (x4 + 1)))] [] m Q) : hxn xs (n + 1) yp_m60 5 [(0, .inr (.inl 5)), (1, .inl x1), (2, .inr (.inr x2)), (4, .inl x4)] [] m Q := by
  refine hx_blks (npc := 9) (L' := [(0, .inr (.inl 5)), (1, .inl x1), (2, .inr (.inr x2)), (4, .inl x4)]) (st' := [.inl 40, .inl x4]) (m' := m) ((5, .iload 4, 2, 0, 0, 0, 0), (0, 0, 0)) [((7, .bipush 40, 2, 0, 0, 0, 0), (0, 0, 0))] (by decide +kernel) rfl ?_
  refine hx_cmp .ge 50 (by decide +kernel) (fun c1 => ?_) (fun c1 => ?_)
  · have c1 : 40 ≤ x4 := c1
    refine hx_blk (npc := 51) (L' := [(0, .inr (.inl 5)), (1, .inl x1), (2, .inr (.inr x2)), (4, .inl x4)]) (st' := [.inr (.inr x2)]) (m' := m) [((50, .lload_n 2, 1, 0, 0, 0, 0), (0, 0, 0))] (by decide +kernel) rfl ?_
    exact hx_retl (by decide +kernel) (h1 c1)
  · have c1 : x4 < 40 := by have h : ¬ (40 ≤ x4) := c1; omega
    refine hx_blk (npc := 23) (L' := [(0, .inr (.inl 5)), (1, .inl x1), (2, .inr (.inr x2)), (4, .inl x4)]) (st' := [.inl (hlcmp (hland (hlushr (m 5 1) x4) 1) 0)]) (m' := m) [((12, .aload_n 0, 1, 0, 0, 0, 0), (0, 0, 0)), ((13, .getfield 55, 3, 2, 1, 1078, 0), (2, 5, 0)), ((16, .iload 4, 2, 0, 0, 0, 0), (0, 0, 0)), ((18, .lushr, 1, 0, 0, 0, 0), (0, 0, 0)), ((19, .lconst 1, 1, 0, 0, 0, 0), (0, 0, 0)), ((20, .land, 1, 0, 0, 0, 0), (0, 0, 0)), ((21, .lconst 0, 1, 0, 0, 0, 0), (0, 0, 0)), ((22, .lcmp, 1, 0, 0, 0, 0), (0, 0, 0))] (by decide +kernel) rfl ?_
    refine hx_if .eq 44 (by decide +kernel) (fun c2 => ?_) (fun c2 => ?_)
    · have c2 : (hlcmp (hland (hlushr (m 5 1) x4) 1) 0) = 0 := c2
      refine hx_blk (npc := 5) (L' := [(0, .inr (.inl 5)), (1, .inl x1), (2, .inr (.inr x2)), (4, .inl (gx_w (x4 + 1)))]) (st' := []) (m' := m) [((44, .iinc 4 1, 3, 0, 0, 0, 0), (0, 0, 0)), ((47, .goto (-42), 3, 0, 0, 0, 0), (0, 0, 0))] (by decide +kernel) rfl ?_
      exact hx_pick [0, 1, 2, 4] (h2 c1 c2)
    · have c2 : (hlcmp (hland (hlushr (m 5 1) x4) 1) 0) ≠ 0 := c2
      refine hx_blk (npc := 34) (L' := [(0, .inr (.inl 5)), (1, .inl x1), (2, .inr (.inr x2)), (4, .inl x4)]) (st' := [.inl x1, .inl (m 12 (x4).toNat)]) (m' := m) [((26, .aload_n 0, 1, 0, 0, 0, 0), (0, 0, 0)), ((27, .getfield 34, 3, 2, 11, 1111, 0), (1, 5, 12)), ((30, .iload 4, 2, 0, 0, 0, 0), (0, 0, 0)), ((32, .iaload, 1, 0, 0, 0, 0), (0, 12, 0)), ((33, .iload_n 1, 1, 0, 0, 0, 0), (0, 0, 0))] (by decide +kernel) rfl ?_
      refine hx_cmp .ne 44 (by decide +kernel) (fun c3 => ?_) (fun c3 => ?_)
      · have c3 : (m 12 (x4).toNat) ≠ x1 := c3
        refine hx_blk (npc := 5) (L' := [(0, .inr (.inl 5)), (1, .inl x1), (2, .inr (.inr x2)), (4, .inl (gx_w (x4 + 1)))]) (st' := []) (m' := m) [((44, .iinc 4 1, 3, 0, 0, 0, 0), (0, 0, 0)), ((47, .goto (-42), 3, 0, 0, 0, 0), (0, 0, 0))] (by decide +kernel) rfl ?_
        exact hx_pick [0, 1, 2, 4] (h3 c1 c2 c3)
      · have c3 : (m 12 (x4).toNat) = x1 := by have h : ¬ ((m 12 (x4).toNat) ≠ x1) := c3; omega
        refine hx_blk (npc := 5) (L' := [(0, .inr (.inl 5)), (1, .inl x1), (2, .inr (.inr (hlor x2 (hlshl 1 x4)))), (4, .inl (gx_w (x4 + 1)))]) (st' := []) (m' := m) [((37, .lload_n 2, 1, 0, 0, 0, 0), (0, 0, 0)), ((38, .lconst 1, 1, 0, 0, 0, 0), (0, 0, 0)), ((39, .iload 4, 2, 0, 0, 0, 0), (0, 0, 0)), ((41, .lshl, 1, 0, 0, 0, 0), (0, 0, 0)), ((42, .lor, 1, 0, 0, 0, 0), (0, 0, 0)), ((43, .lstore_n 2, 1, 0, 0, 0, 0), (0, 0, 0)), ((44, .iinc 4 1, 3, 0, 0, 0, 0), (0, 0, 0)), ((47, .goto (-42), 3, 0, 0, 0, 0), (0, 0, 0))] (by decide +kernel) rfl ?_
        exact hx_pick [0, 1, 2, 4] (h4 c1 c2 c3)

/-- taughtBy from 0 on -/
theorem hr64_0 {xs : List Int32} {n : Nat} {Q : hQ} {m : gx_M} {x1 : Int}
    (h1 : hxn xs n yp_m64 5 [(0, .inr (.inl 5)), (1, .inr (.inr x1)), (3, .inl 0), (4, .inl 0)] [] m Q) : hxn xs (n + 1) yp_m64 0 [(0, .inr (.inl 5)), (1, .inr (.inr x1))] [] m Q := by
  refine hx_blks (npc := 5) (L' := [(0, .inr (.inl 5)), (1, .inr (.inr x1)), (3, .inl 0), (4, .inl 0)]) (st' := []) (m' := m) ((0, .iconst 0, 1, 0, 0, 0, 0), (0, 0, 0)) [((1, .istore_n 3, 1, 0, 0, 0, 0), (0, 0, 0)), ((2, .iconst 0, 1, 0, 0, 0, 0), (0, 0, 0)), ((3, .istore 4, 2, 0, 0, 0, 0), (0, 0, 0))] (by decide +kernel) rfl ?_
  exact hx_pick [0, 1, 3, 4] h1

/-- taughtBy from 5 on -/
theorem hr64_5 {xs : List Int32} {n : Nat} {Q : hQ} {m : gx_M} {x1 x3 x4 : Int}
    (h1 : (40 ≤ x4) → Q (some (.inl x3)) m)
    (h2 : (x4 < 40) → ((hlcmp (hland (hlushr x1 x4) 1) 0) = 0) → hxn xs n yp_m64 5 [(0, .inr (.inl 5)), (1, .inr (.inr x1)), (3, .inl x3), (4, .inl (gx_w (x4 + 1)))] [] m Q)
    (h3 : (x4 < 40) → ((hlcmp (hland (hlushr x1 x4) 1) 0) ≠ 0) → hxn xs n yp_m64 5 [(0, .inr (.inl 5)), (1, .inr (.inr x1)), (3, .inl (gx_or x3 (m 9 (x4).toNat))), (4, .inl (gx_w (x4 + 1)))] [] m Q) : hxn xs (n + 1) yp_m64 5 [(0, .inr (.inl 5)), (1, .inr (.inr x1)), (3, .inl x3), (4, .inl x4)] [] m Q := by
  refine hx_blks (npc := 9) (L' := [(0, .inr (.inl 5)), (1, .inr (.inr x1)), (3, .inl x3), (4, .inl x4)]) (st' := [.inl 40, .inl x4]) (m' := m) ((5, .iload 4, 2, 0, 0, 0, 0), (0, 0, 0)) [((7, .bipush 40, 2, 0, 0, 0, 0), (0, 0, 0))] (by decide +kernel) rfl ?_
  refine hx_cmp .ge 39 (by decide +kernel) (fun c1 => ?_) (fun c1 => ?_)
  · have c1 : 40 ≤ x4 := c1
    refine hx_blk (npc := 40) (L' := [(0, .inr (.inl 5)), (1, .inr (.inr x1)), (3, .inl x3), (4, .inl x4)]) (st' := [.inl x3]) (m' := m) [((39, .iload_n 3, 1, 0, 0, 0, 0), (0, 0, 0))] (by decide +kernel) rfl ?_
    exact hx_reti (by decide +kernel) (h1 c1)
  · have c1 : x4 < 40 := by have h : ¬ (40 ≤ x4) := c1; omega
    refine hx_blk (npc := 20) (L' := [(0, .inr (.inl 5)), (1, .inr (.inr x1)), (3, .inl x3), (4, .inl x4)]) (st' := [.inl (hlcmp (hland (hlushr x1 x4) 1) 0)]) (m' := m) [((12, .lload_n 1, 1, 0, 0, 0, 0), (0, 0, 0)), ((13, .iload 4, 2, 0, 0, 0, 0), (0, 0, 0)), ((15, .lushr, 1, 0, 0, 0, 0), (0, 0, 0)), ((16, .lconst 1, 1, 0, 0, 0, 0), (0, 0, 0)), ((17, .land, 1, 0, 0, 0, 0), (0, 0, 0)), ((18, .lconst 0, 1, 0, 0, 0, 0), (0, 0, 0)), ((19, .lcmp, 1, 0, 0, 0, 0), (0, 0, 0))] (by decide +kernel) rfl ?_
    refine hx_if .eq 33 (by decide +kernel) (fun c2 => ?_) (fun c2 => ?_)
    · have c2 : (hlcmp (hland (hlushr x1 x4) 1) 0) = 0 := c2
      refine hx_blk (npc := 5) (L' := [(0, .inr (.inl 5)), (1, .inr (.inr x1)), (3, .inl x3), (4, .inl (gx_w (x4 + 1)))]) (st' := []) (m' := m) [((33, .iinc 4 1, 3, 0, 0, 0, 0), (0, 0, 0)), ((36, .goto (-31), 3, 0, 0, 0, 0), (0, 0, 0))] (by decide +kernel) rfl ?_
      exact hx_pick [0, 1, 3, 4] (h2 c1 c2)
    · have c2 : (hlcmp (hland (hlushr x1 x4) 1) 0) ≠ 0 := c2
      refine hx_blk (npc := 5) (L' := [(0, .inr (.inl 5)), (1, .inr (.inr x1)), (3, .inl (gx_or x3 (m 9 (x4).toNat))), (4, .inl (gx_w (x4 + 1)))]) (st' := []) (m' := m) [((23, .iload_n 3, 1, 0, 0, 0, 0), (0, 0, 0)), ((24, .aload_n 0, 1, 0, 0, 0, 0), (0, 0, 0)), ((25, .getfield 25, 3, 2, 8, 1100, 0), (1, 5, 9)), ((28, .iload 4, 2, 0, 0, 0, 0), (0, 0, 0)), ((30, .iaload, 1, 0, 0, 0, 0), (0, 9, 0)), ((31, .ior, 1, 0, 0, 0, 0), (0, 0, 0)), ((32, .istore_n 3, 1, 0, 0, 0, 0), (0, 0, 0)), ((33, .iinc 4 1, 3, 0, 0, 0, 0), (0, 0, 0)), ((36, .goto (-31), 3, 0, 0, 0, 0), (0, 0, 0))] (by decide +kernel) rfl ?_
      exact hx_pick [0, 1, 3, 4] (h3 c1 c2)

/-- coinsOf from 0 on -/
theorem hr62_0 {xs : List Int32} {n : Nat} {Q : hQ} {m : gx_M} {x1 : Int}
    (h1 : (x1 < 0) → Q (some (.inl 0)) m)
    (h2 : (0 ≤ x1) → (8 ≤ x1) → Q (some (.inl 0)) m)
    (h3 : (0 ≤ x1) → (x1 < 8) → ((gx_and (gx_shr (m 5 0) x1) 1) = 0) → Q (some (.inl 0)) m)
    (h4 : (0 ≤ x1) → (x1 < 8) → ((gx_and (gx_shr (m 5 0) x1) 1) ≠ 0) → Q (some (.inl (m 6 (x1).toNat))) m) : hxn xs (n + 1) yp_m62 0 [(0, .inr (.inl 5)), (1, .inl x1)] [] m Q := by
  refine hx_blks (npc := 1) (L' := [(0, .inr (.inl 5)), (1, .inl x1)]) (st' := [.inl x1]) (m' := m) ((0, .iload_n 1, 1, 0, 0, 0, 0), (0, 0, 0)) [] (by decide +kernel) rfl ?_
  refine hx_if .lt 30 (by decide +kernel) (fun c1 => ?_) (fun c1 => ?_)
  · have c1 : x1 < 0 := c1
    refine hx_blk (npc := 31) (L' := [(0, .inr (.inl 5)), (1, .inl x1)]) (st' := [.inl 0]) (m' := m) [((30, .iconst 0, 1, 0, 0, 0, 0), (0, 0, 0))] (by decide +kernel) rfl ?_
    exact hx_reti (by decide +kernel) (h1 c1)
  · have c1 : 0 ≤ x1 := by have h : ¬ (x1 < 0) := c1; omega
    refine hx_blk (npc := 7) (L' := [(0, .inr (.inl 5)), (1, .inl x1)]) (st' := [.inl 8, .inl x1]) (m' := m) [((4, .iload_n 1, 1, 0, 0, 0, 0), (0, 0, 0)), ((5, .bipush 8, 2, 0, 0, 0, 0), (0, 0, 0))] (by decide +kernel) rfl ?_
    refine hx_cmp .ge 30 (by decide +kernel) (fun c2 => ?_) (fun c2 => ?_)
    · have c2 : 8 ≤ x1 := c2
      refine hx_blk (npc := 31) (L' := [(0, .inr (.inl 5)), (1, .inl x1)]) (st' := [.inl 0]) (m' := m) [((30, .iconst 0, 1, 0, 0, 0, 0), (0, 0, 0))] (by decide +kernel) rfl ?_
      exact hx_reti (by decide +kernel) (h2 c1 c2)
    · have c2 : x1 < 8 := by have h : ¬ (8 ≤ x1) := c2; omega
      have f1 := gx_and_bd (gx_shr (m 5 0) x1) 1 (by decide)
      refine hx_blk (npc := 18) (L' := [(0, .inr (.inl 5)), (1, .inl x1)]) (st' := [.inl (gx_and (gx_shr (m 5 0) x1) 1)]) (m' := m) [((10, .aload_n 0, 1, 0, 0, 0, 0), (0, 0, 0)), ((11, .getfield 52, 3, 2, 0, 1076, 0), (0, 5, 0)), ((14, .iload_n 1, 1, 0, 0, 0, 0), (0, 0, 0)), ((15, .ishr, 1, 0, 0, 0, 0), (0, 0, 0)), ((16, .iconst 1, 1, 0, 0, 0, 0), (0, 0, 0)), ((17, .iand, 1, 0, 0, 0, 0), (0, 0, 0))] (by decide +kernel) rfl ?_
      refine hx_if .eq 30 (by decide +kernel) (fun c3 => ?_) (fun c3 => ?_)
      · have c3 : (gx_and (gx_shr (m 5 0) x1) 1) = 0 := c3
        refine hx_blk (npc := 31) (L' := [(0, .inr (.inl 5)), (1, .inl x1)]) (st' := [.inl 0]) (m' := m) [((30, .iconst 0, 1, 0, 0, 0, 0), (0, 0, 0))] (by decide +kernel) rfl ?_
        exact hx_reti (by decide +kernel) (h3 c1 c2 c3)
      · have c3 : (gx_and (gx_shr (m 5 0) x1) 1) ≠ 0 := c3
        refine hx_blk (npc := 31) (L' := [(0, .inr (.inl 5)), (1, .inl x1)]) (st' := [.inl (m 6 (x1).toNat)]) (m' := m) [((21, .aload_n 0, 1, 0, 0, 0, 0), (0, 0, 0)), ((22, .getfield 15, 3, 2, 5, 1089, 0), (1, 5, 6)), ((25, .iload_n 1, 1, 0, 0, 0, 0), (0, 0, 0)), ((26, .iaload, 1, 0, 0, 0, 0), (0, 6, 0)), ((27, .goto 4, 3, 0, 0, 0, 0), (0, 0, 0))] (by decide +kernel) rfl ?_
        exact hx_reti (by decide +kernel) (h4 c1 c2 c3)

/-- letterIs from 0 on -/
theorem hr59_0 {xs : List Int32} {n : Nat} {Q : hQ} {m : gx_M} {x2 : Int}
    (h1 : (x2 = 97) → hxn xs n yp_m60 0 [(0, .inr (.inl 5)), (1, .inl (m 44 10))] [] m (fun r m' => hxn xs n yp_m59 62 [] (hrs r ++ []) m' Q))
    (h2 : (x2 ≠ 97) → (x2 = 99) → hxn xs n yp_m62 0 [(0, .inr (.inl 5)), (1, .inl (m 44 10))] [] m (fun r m' => hxn xs n yp_m59 74 [] (hrs r ++ []) m' Q))
    (h3 : (x2 ≠ 97) → (x2 ≠ 99) → (x2 = 112) → Q (some (.inl (m 44 10))) m)
    (h4 : (x2 ≠ 97) → (x2 ≠ 99) → (x2 ≠ 112) → (x2 = 116) → Q (some (.inl (m 5 3))) m)
    (h5 : (x2 ≠ 97) → (x2 ≠ 99) → (x2 ≠ 112) → (x2 ≠ 116) → ((m 44 9) < 0) → Q (some (.inl 0)) m)
    (h6 : (x2 ≠ 97) → (x2 ≠ 99) → (x2 ≠ 112) → (x2 ≠ 116) → (0 ≤ (m 44 9)) → ((m 44 9) < 40) → (x2 = 100) → Q (some (.inl (m 7 (m 44 9).toNat))) m)
    (h7 : (x2 ≠ 97) → (x2 ≠ 99) → (x2 ≠ 112) → (x2 ≠ 116) → (0 ≤ (m 44 9)) → ((m 44 9) < 40) → (x2 ≠ 100) → (x2 = 101) → hxn xs n yp_m60 0 [(0, .inr (.inl 5)), (1, .inl (m 44 10))] [] m (fun r m' => hxn xs n yp_m59 298 [(0, .inr (.inl 44))] (hrs r ++ [.inr (.inl 5), .inl (m 9 (m 44 9).toNat)]) m' Q))
    (h8 : (x2 ≠ 97) → (x2 ≠ 99) → (x2 ≠ 112) → (x2 ≠ 116) → (0 ≤ (m 44 9)) → ((m 44 9) < 40) → (x2 ≠ 100) → (x2 ≠ 101) → (x2 = 102) → Q (some (.inl (m 44 11))) m)
    (h9 : (x2 ≠ 97) → (x2 ≠ 99) → (x2 ≠ 112) → (x2 ≠ 116) → (0 ≤ (m 44 9)) → ((m 44 9) < 40) → (x2 ≠ 100) → (x2 ≠ 101) → (x2 ≠ 102) → (x2 = 103) → Q (some (.inl (m 44 11))) m)
    (h10 : (x2 ≠ 97) → (x2 ≠ 99) → (x2 ≠ 112) → (x2 ≠ 116) → (0 ≤ (m 44 9)) → ((m 44 9) < 40) → (x2 ≠ 100) → (x2 ≠ 101) → (x2 ≠ 102) → (x2 ≠ 103) → (x2 = 104) → Q (some (.inl (m 16 (m 44 9).toNat))) m)
    (h11 : (x2 ≠ 97) → (x2 ≠ 99) → (x2 ≠ 112) → (x2 ≠ 116) → (0 ≤ (m 44 9)) → ((m 44 9) < 40) → (x2 ≠ 100) → (x2 ≠ 101) → (x2 ≠ 102) → (x2 ≠ 103) → (x2 ≠ 104) → (x2 = 105) → Q (some (.inl (m 44 11))) m)
    (h12 : (x2 ≠ 97) → (x2 ≠ 99) → (x2 ≠ 112) → (x2 ≠ 116) → (0 ≤ (m 44 9)) → ((m 44 9) < 40) → (x2 ≠ 100) → (x2 ≠ 101) → (x2 ≠ 102) → (x2 ≠ 103) → (x2 ≠ 104) → (x2 ≠ 105) → (x2 = 106) → Q (some (.inl (m 44 11))) m)
    (h13 : (x2 ≠ 97) → (x2 ≠ 99) → (x2 ≠ 112) → (x2 ≠ 116) → (0 ≤ (m 44 9)) → ((m 44 9) < 40) → (x2 ≠ 100) → (x2 ≠ 101) → (x2 ≠ 102) → (x2 ≠ 103) → (x2 ≠ 104) → (x2 ≠ 105) → (x2 ≠ 106) → (x2 = 107) → Q (some (.inl (gx_w (hland (hlushr (m 5 2) (m 44 9)) 1)))) m)
    (h14 : (x2 ≠ 97) → (x2 ≠ 99) → (x2 ≠ 112) → (x2 ≠ 116) → (0 ≤ (m 44 9)) → ((m 44 9) < 40) → (x2 ≠ 100) → (x2 ≠ 101) → (x2 ≠ 102) → (x2 ≠ 103) → (x2 ≠ 104) → (x2 ≠ 105) → (x2 ≠ 106) → (x2 ≠ 107) → (x2 = 108) → Q (some (.inl (m 8 (m 44 9).toNat))) m)
    (h15 : (x2 ≠ 97) → (x2 ≠ 99) → (x2 ≠ 112) → (x2 ≠ 116) → (0 ≤ (m 44 9)) → ((m 44 9) < 40) → (x2 ≠ 100) → (x2 ≠ 101) → (x2 ≠ 102) → (x2 ≠ 103) → (x2 ≠ 104) → (x2 ≠ 105) → (x2 ≠ 106) → (x2 ≠ 107) → (x2 ≠ 108) → (x2 = 109) → hxn xs n yp_m63 0 [(0, .inl (m 10 (m 44 9).toNat))] [] m (fun r m' => hxn xs n yp_m59 256 [] (hrs r ++ []) m' Q))
    (h16 : (x2 ≠ 97) → (x2 ≠ 99) → (x2 ≠ 112) → (x2 ≠ 116) → (0 ≤ (m 44 9)) → ((m 44 9) < 40) → (x2 ≠ 100) → (x2 ≠ 101) → (x2 ≠ 102) → (x2 ≠ 103) → (x2 ≠ 104) → (x2 ≠ 105) → (x2 ≠ 106) → (x2 ≠ 107) → (x2 ≠ 108) → (x2 ≠ 109) → (x2 = 110) → Q (some (.inl (m 44 11))) m)
    (h17 : (x2 ≠ 97) → (x2 ≠ 99) → (x2 ≠ 112) → (x2 ≠ 116) → (0 ≤ (m 44 9)) → ((m 44 9) < 40) → (x2 ≠ 100) → (x2 ≠ 101) → (x2 ≠ 102) → (x2 ≠ 103) → (x2 ≠ 104) → (x2 ≠ 105) → (x2 ≠ 106) → (x2 ≠ 107) → (x2 ≠ 108) → (x2 ≠ 109) → (x2 ≠ 110) → (x2 = 111) → Q (some (.inl (m 12 (m 44 9).toNat))) m)
    (h18 : (x2 ≠ 97) → (x2 ≠ 99) → (x2 ≠ 112) → (x2 ≠ 116) → (0 ≤ (m 44 9)) → ((m 44 9) < 40) → (x2 ≠ 100) → (x2 ≠ 101) → (x2 ≠ 102) → (x2 ≠ 103) → (x2 ≠ 104) → (x2 ≠ 105) → (x2 ≠ 106) → (x2 ≠ 107) → (x2 ≠ 108) → (x2 ≠ 109) → (x2 ≠ 110) → (x2 ≠ 111) → (x2 = 112) → Q (some (.inl (m 44 11))) m)
    (h19 : (x2 ≠ 97) → (x2 ≠ 99) → (x2 ≠ 112) → (x2 ≠ 116) → (0 ≤ (m 44 9)) → ((m 44 9) < 40) → (x2 ≠ 100) → (x2 ≠ 101) → (x2 ≠ 102) → (x2 ≠ 103) → (x2 ≠ 104) → (x2 ≠ 105) → (x2 ≠ 106) → (x2 ≠ 107) → (x2 ≠ 108) → (x2 ≠ 109) → (x2 ≠ 110) → (x2 ≠ 111) → (x2 ≠ 112) → (x2 = 113) → Q (some (.inl (m 44 11))) m)
    (h20 : (x2 ≠ 97) → (x2 ≠ 99) → (x2 ≠ 112) → (x2 ≠ 116) → (0 ≤ (m 44 9)) → ((m 44 9) < 40) → (x2 ≠ 100) → (x2 ≠ 101) → (x2 ≠ 102) → (x2 ≠ 103) → (x2 ≠ 104) → (x2 ≠ 105) → (x2 ≠ 106) → (x2 ≠ 107) → (x2 ≠ 108) → (x2 ≠ 109) → (x2 ≠ 110) → (x2 ≠ 111) → (x2 ≠ 112) → (x2 ≠ 113) → (x2 = 114) → Q (some (.inl (m 44 11))) m)
    (h21 : (x2 ≠ 97) → (x2 ≠ 99) → (x2 ≠ 112) → (x2 ≠ 116) → (0 ≤ (m 44 9)) → ((m 44 9) < 40) → (x2 ≠ 100) → (x2 ≠ 101) → (x2 ≠ 102) → (x2 ≠ 103) → (x2 ≠ 104) → (x2 ≠ 105) → (x2 ≠ 106) → (x2 ≠ 107) → (x2 ≠ 108) → (x2 ≠ 109) → (x2 ≠ 110) → (x2 ≠ 111) → (x2 ≠ 112) → (x2 ≠ 113) → (x2 ≠ 114) → (x2 = 115) → hxn xs n yp_m63 0 [(0, .inl (m 9 (m 44 9).toNat))] [] m (fun r m' => hxn xs n yp_m59 243 [] (hrs r ++ []) m' Q))
    (h22 : (x2 ≠ 97) → (x2 ≠ 99) → (x2 ≠ 112) → (x2 ≠ 116) → (0 ≤ (m 44 9)) → ((m 44 9) < 40) → (x2 ≠ 100) → (x2 ≠ 101) → (x2 ≠ 102) → (x2 ≠ 103) → (x2 ≠ 104) → (x2 ≠ 105) → (x2 ≠ 106) → (x2 ≠ 107) → (x2 ≠ 108) → (x2 ≠ 109) → (x2 ≠ 110) → (x2 ≠ 111) → (x2 ≠ 112) → (x2 ≠ 113) → (x2 ≠ 114) → (x2 ≠ 115) → (x2 = 116) → Q (some (.inl (m 44 11))) m)
    (h23 : (x2 ≠ 97) → (x2 ≠ 99) → (x2 ≠ 112) → (x2 ≠ 116) → (0 ≤ (m 44 9)) → ((m 44 9) < 40) → (x2 ≠ 100) → (x2 ≠ 101) → (x2 ≠ 102) → (x2 ≠ 103) → (x2 ≠ 104) → (x2 ≠ 105) → (x2 ≠ 106) → (x2 ≠ 107) → (x2 ≠ 108) → (x2 ≠ 109) → (x2 ≠ 110) → (x2 ≠ 111) → (x2 ≠ 112) → (x2 ≠ 113) → (x2 ≠ 114) → (x2 ≠ 115) → (x2 ≠ 116) → (x2 = 117) → Q (some (.inl (m 44 11))) m)
    (h24 : (x2 ≠ 97) → (x2 ≠ 99) → (x2 ≠ 112) → (x2 ≠ 116) → (0 ≤ (m 44 9)) → ((m 44 9) < 40) → (x2 ≠ 100) → (x2 ≠ 101) → (x2 ≠ 102) → (x2 ≠ 103) → (x2 ≠ 104) → (x2 ≠ 105) → (x2 ≠ 106) → (x2 ≠ 107) → (x2 ≠ 108) → (x2 ≠ 109) → (x2 ≠ 110) → (x2 ≠ 111) → (x2 ≠ 112) → (x2 ≠ 113) → (x2 ≠ 114) → (x2 ≠ 115) → (x2 ≠ 116) → (x2 ≠ 117) → (x2 = 118) → Q (some (.inl (m 44 11))) m)
    (h25 : (x2 ≠ 97) → (x2 ≠ 99) → (x2 ≠ 112) → (x2 ≠ 116) → (0 ≤ (m 44 9)) → ((m 44 9) < 40) → (x2 ≠ 100) → (x2 ≠ 101) → (x2 ≠ 102) → (x2 ≠ 103) → (x2 ≠ 104) → (x2 ≠ 105) → (x2 ≠ 106) → (x2 ≠ 107) → (x2 ≠ 108) → (x2 ≠ 109) → (x2 ≠ 110) → (x2 ≠ 111) → (x2 ≠ 112) → (x2 ≠ 113) → (x2 ≠ 114) → (x2 ≠ 115) → (x2 ≠ 116) → (x2 ≠ 117) → (x2 ≠ 118) → (x2 = 119) → Q (some (.inl (m 44 11))) m)
    (h26 : (x2 ≠ 97) → (x2 ≠ 99) → (x2 ≠ 112) → (x2 ≠ 116) → (0 ≤ (m 44 9)) → ((m 44 9) < 40) → (x2 ≠ 100) → (x2 ≠ 101) → (x2 ≠ 102) → (x2 ≠ 103) → (x2 ≠ 104) → (x2 ≠ 105) → (x2 ≠ 106) → (x2 ≠ 107) → (x2 ≠ 108) → (x2 ≠ 109) → (x2 ≠ 110) → (x2 ≠ 111) → (x2 ≠ 112) → (x2 ≠ 113) → (x2 ≠ 114) → (x2 ≠ 115) → (x2 ≠ 116) → (x2 ≠ 117) → (x2 ≠ 118) → (x2 ≠ 119) → (x2 = 120) → Q (some (.inl (m 44 11))) m)
    (h27 : (x2 ≠ 97) → (x2 ≠ 99) → (x2 ≠ 112) → (x2 ≠ 116) → (0 ≤ (m 44 9)) → ((m 44 9) < 40) → (x2 ≠ 100) → (x2 ≠ 101) → (x2 ≠ 102) → (x2 ≠ 103) → (x2 ≠ 104) → (x2 ≠ 105) → (x2 ≠ 106) → (x2 ≠ 107) → (x2 ≠ 108) → (x2 ≠ 109) → (x2 ≠ 110) → (x2 ≠ 111) → (x2 ≠ 112) → (x2 ≠ 113) → (x2 ≠ 114) → (x2 ≠ 115) → (x2 ≠ 116) → (x2 ≠ 117) → (x2 ≠ 118) → (x2 ≠ 119) → (x2 ≠ 120) → (x2 = 121) → Q (some (.inl (m 44 9))) m)
    (h28 : (x2 ≠ 97) → (x2 ≠ 99) → (x2 ≠ 112) → (x2 ≠ 116) → (0 ≤ (m 44 9)) → ((m 44 9) < 40) → (x2 ≠ 100) → (x2 ≠ 101) → (x2 ≠ 102) → (x2 ≠ 103) → (x2 ≠ 104) → (x2 ≠ 105) → (x2 ≠ 106) → (x2 ≠ 107) → (x2 ≠ 108) → (x2 ≠ 109) → (x2 ≠ 110) → (x2 ≠ 111) → (x2 ≠ 112) → (x2 ≠ 113) → (x2 ≠ 114) → (x2 ≠ 115) → (x2 ≠ 116) → (x2 ≠ 117) → (x2 ≠ 118) → (x2 ≠ 119) → (x2 ≠ 120) → (x2 ≠ 121) → Q (some (.inl (m 44 11))) m)
    (h29 : (x2 ≠ 97) → (x2 ≠ 99) → (x2 ≠ 112) → (x2 ≠ 116) → (0 ≤ (m 44 9)) → (40 ≤ (m 44 9)) → Q (some (.inl 0)) m) : hxn xs (n + 1) yp_m59 0 [(0, .inr (.inl 44)), (1, .inr (.inl 5)), (2, .inl x2)] [] m Q := by
  refine hx_blks (npc := 1) (L' := [(0, .inr (.inl 44)), (1, .inr (.inl 5)), (2, .inl x2)]) (st' := [.inl x2]) (m' := m) ((0, .iload_n 2, 1, 0, 0, 0, 0), (0, 0, 0)) [] (by decide +kernel) rfl ?_
  refine hx_lsw 75 [(97, 54), (99, 66), (112, 49), (116, 44)] (by decide +kernel) ?_
  refine hsw_c (fun c1 => ?_) (fun c1 => ?_)
  · have c1 : x2 = 97 := c1
    refine hx_blk (npc := 59) (L' := [(0, .inr (.inl 44)), (1, .inr (.inl 5)), (2, .inl x2)]) (st' := [.inl (m 44 10), .inr (.inl 5)]) (m' := m) [((54, .aload_n 1, 1, 0, 0, 0, 0), (0, 0, 0)), ((55, .aload_n 0, 1, 0, 0, 0, 0), (0, 0, 0)), ((56, .getfield 74, 3, 3, 10, 1191, 0), (0, 44, 0))] (by decide +kernel) rfl ?_
    exact hx_call (E := (59, .invokevirtual 96, 3, 60, 0, 3140, 0)) (M' := yp_m60) [.inr (.inl 5), .inl (m 44 10)] [] rfl (by decide +kernel) rfl ⟨rfl, rfl⟩ rfl rfl (hx_mono (h1 c1) (fun r m' h' => hx_pick [] h'))
  refine hsw_c (fun c2 => ?_) (fun c2 => ?_)
  · have c2 : x2 = 99 := c2
    refine hx_blk (npc := 71) (L' := [(0, .inr (.inl 44)), (1, .inr (.inl 5)), (2, .inl x2)]) (st' := [.inl (m 44 10), .inr (.inl 5)]) (m' := m) [((66, .aload_n 1, 1, 0, 0, 0, 0), (0, 0, 0)), ((67, .aload_n 0, 1, 0, 0, 0, 0), (0, 0, 0)), ((68, .getfield 74, 3, 3, 10, 1191, 0), (0, 44, 0))] (by decide +kernel) rfl ?_
    exact hx_call (E := (71, .invokevirtual 106, 3, 62, 0, 3150, 0)) (M' := yp_m62) [.inr (.inl 5), .inl (m 44 10)] [] rfl (by decide +kernel) rfl ⟨rfl, rfl⟩ rfl rfl (hx_mono (h2 c1 c2) (fun r m' h' => hx_pick [] h'))
  refine hsw_c (fun c3 => ?_) (fun c3 => ?_)
  · have c3 : x2 = 112 := c3
    refine hx_blk (npc := 53) (L' := [(0, .inr (.inl 44)), (1, .inr (.inl 5)), (2, .inl x2)]) (st' := [.inl (m 44 10)]) (m' := m) [((49, .aload_n 0, 1, 0, 0, 0, 0), (0, 0, 0)), ((50, .getfield 74, 3, 3, 10, 1191, 0), (0, 44, 0))] (by decide +kernel) rfl ?_
    exact hx_reti (by decide +kernel) (h3 c1 c2 c3)
  refine hsw_c (fun c4 => ?_) (fun c4 => ?_)
  · have c4 : x2 = 116 := c4
    refine hx_blk (npc := 48) (L' := [(0, .inr (.inl 44)), (1, .inr (.inl 5)), (2, .inl x2)]) (st' := [.inl (m 5 3)]) (m' := m) [((44, .aload_n 1, 1, 0, 0, 0, 0), (0, 0, 0)), ((45, .getfield 91, 3, 2, 3, 1084, 0), (0, 5, 0))] (by decide +kernel) rfl ?_
    exact hx_reti (by decide +kernel) (h4 c1 c2 c3 c4)
  refine hsw_n ?_
  refine hx_blk (npc := 79) (L' := [(0, .inr (.inl 44)), (1, .inr (.inl 5)), (2, .inl x2)]) (st' := [.inl (m 44 9)]) (m' := m) [((75, .aload_n 0, 1, 0, 0, 0, 0), (0, 0, 0)), ((76, .getfield 71, 3, 3, 9, 1190, 0), (0, 44, 0))] (by decide +kernel) rfl ?_
  refine hx_if .lt 91 (by decide +kernel) (fun c5 => ?_) (fun c5 => ?_)
  · have c5 : (m 44 9) < 0 := c5
    refine hx_blk (npc := 92) (L' := [(0, .inr (.inl 44)), (1, .inr (.inl 5)), (2, .inl x2)]) (st' := [.inl 0]) (m' := m) [((91, .iconst 0, 1, 0, 0, 0, 0), (0, 0, 0))] (by decide +kernel) rfl ?_
    exact hx_reti (by decide +kernel) (h5 c1 c2 c3 c4 c5)
  · have c5 : 0 ≤ (m 44 9) := by have h : ¬ ((m 44 9) < 0) := c5; omega
    refine hx_blk (npc := 88) (L' := [(0, .inr (.inl 44)), (1, .inr (.inl 5)), (2, .inl x2)]) (st' := [.inl 40, .inl (m 44 9)]) (m' := m) [((82, .aload_n 0, 1, 0, 0, 0, 0), (0, 0, 0)), ((83, .getfield 71, 3, 3, 9, 1190, 0), (0, 44, 0)), ((86, .bipush 40, 2, 0, 0, 0, 0), (0, 0, 0))] (by decide +kernel) rfl ?_
    refine hx_cmp .lt 93 (by decide +kernel) (fun c6 => ?_) (fun c6 => ?_)
    · have c6 : (m 44 9) < 40 := c6
      refine hx_blk (npc := 94) (L' := [(0, .inr (.inl 44)), (1, .inr (.inl 5)), (2, .inl x2)]) (st' := [.inl x2]) (m' := m) [((93, .iload_n 2, 1, 0, 0, 0, 0), (0, 0, 0))] (by decide +kernel) rfl ?_
      refine hx_tsw 317 [(100, 201), (101, 280), (102, 317), (103, 317), (104, 270), (105, 317), (106, 317), (107, 257), (108, 211), (109, 244), (110, 317), (111, 221), (112, 317), (113, 317), (114, 317), (115, 231), (116, 317), (117, 317), (118, 317), (119, 317), (120, 317), (121, 196)] (by decide +kernel) ?_
      refine hsw_c (fun c7 => ?_) (fun c7 => ?_)
      · have c7 : x2 = 100 := c7
        refine hx_blk (npc := 210) (L' := [(0, .inr (.inl 44)), (1, .inr (.inl 5)), (2, .inl x2)]) (st' := [.inl (m 7 (m 44 9).toNat)]) (m' := m) [((201, .aload_n 1, 1, 0, 0, 0, 0), (0, 0, 0)), ((202, .getfield 109, 3, 2, 6, 1095, 0), (1, 5, 7)), ((205, .aload_n 0, 1, 0, 0, 0, 0), (0, 0, 0)), ((206, .getfield 71, 3, 3, 9, 1190, 0), (0, 44, 0)), ((209, .iaload, 1, 0, 0, 0, 0), (0, 7, 0))] (by decide +kernel) rfl ?_
        exact hx_reti (by decide +kernel) (h6 c1 c2 c3 c4 c5 c6 c7)
      refine hsw_c (fun c8 => ?_) (fun c8 => ?_)
      · have c8 : x2 = 101 := c8
        refine hx_blk (npc := 295) (L' := [(0, .inr (.inl 44)), (1, .inr (.inl 5)), (2, .inl x2)]) (st' := [.inl (m 44 10), .inr (.inl 5), .inr (.inl 5), .inl (m 9 (m 44 9).toNat)]) (m' := m) [((280, .aload_n 1, 1, 0, 0, 0, 0), (0, 0, 0)), ((281, .getfield 118, 3, 2, 8, 1103, 0), (1, 5, 9)), ((284, .aload_n 0, 1, 0, 0, 0, 0), (0, 0, 0)), ((285, .getfield 71, 3, 3, 9, 1190, 0), (0, 44, 0)), ((288, .iaload, 1, 0, 0, 0, 0), (0, 9, 0)), ((289, .aload_n 1, 1, 0, 0, 0, 0), (0, 0, 0)), ((290, .aload_n 1, 1, 0, 0, 0, 0), (0, 0, 0)), ((291, .aload_n 0, 1, 0, 0, 0, 0), (0, 0, 0)), ((292, .getfield 74, 3, 3, 10, 1191, 0), (0, 44, 0))] (by decide +kernel) rfl ?_
        exact hx_call (E := (295, .invokevirtual 96, 3, 60, 0, 3140, 0)) (M' := yp_m60) [.inr (.inl 5), .inl (m 44 10)] [.inr (.inl 5), .inl (m 9 (m 44 9).toNat)] rfl (by decide +kernel) rfl ⟨rfl, rfl⟩ rfl rfl (hx_mono (h7 c1 c2 c3 c4 c5 c6 c7 c8) (fun r m' h' => hx_pick [0] h'))
      refine hsw_c (fun c9 => ?_) (fun c9 => ?_)
      · have c9 : x2 = 102 := c9
        refine hx_blk (npc := 321) (L' := [(0, .inr (.inl 44)), (1, .inr (.inl 5)), (2, .inl x2)]) (st' := [.inl (m 44 11)]) (m' := m) [((317, .aload_n 0, 1, 0, 0, 0, 0), (0, 0, 0)), ((318, .getfield 77, 3, 3, 11, 1192, 0), (0, 44, 0))] (by decide +kernel) rfl ?_
        exact hx_reti (by decide +kernel) (h8 c1 c2 c3 c4 c5 c6 c7 c8 c9)
      refine hsw_c (fun c10 => ?_) (fun c10 => ?_)
      · have c10 : x2 = 103 := c10
        refine hx_blk (npc := 321) (L' := [(0, .inr (.inl 44)), (1, .inr (.inl 5)), (2, .inl x2)]) (st' := [.inl (m 44 11)]) (m' := m) [((317, .aload_n 0, 1, 0, 0, 0, 0), (0, 0, 0)), ((318, .getfield 77, 3, 3, 11, 1192, 0), (0, 44, 0))] (by decide +kernel) rfl ?_
        exact hx_reti (by decide +kernel) (h9 c1 c2 c3 c4 c5 c6 c7 c8 c9 c10)
      refine hsw_c (fun c11 => ?_) (fun c11 => ?_)
      · have c11 : x2 = 104 := c11
        refine hx_blk (npc := 279) (L' := [(0, .inr (.inl 44)), (1, .inr (.inl 5)), (2, .inl x2)]) (st' := [.inl (m 16 (m 44 9).toNat)]) (m' := m) [((270, .aload_n 1, 1, 0, 0, 0, 0), (0, 0, 0)), ((271, .getfield 132, 3, 2, 15, 1135, 0), (1, 5, 16)), ((274, .aload_n 0, 1, 0, 0, 0, 0), (0, 0, 0)), ((275, .getfield 71, 3, 3, 9, 1190, 0), (0, 44, 0)), ((278, .iaload, 1, 0, 0, 0, 0), (0, 16, 0))] (by decide +kernel) rfl ?_
        exact hx_reti (by decide +kernel) (h10 c1 c2 c3 c4 c5 c6 c7 c8 c9 c10 c11)
      refine hsw_c (fun c12 => ?_) (fun c12 => ?_)
      · have c12 : x2 = 105 := c12
        refine hx_blk (npc := 321) (L' := [(0, .inr (.inl 44)), (1, .inr (.inl 5)), (2, .inl x2)]) (st' := [.inl (m 44 11)]) (m' := m) [((317, .aload_n 0, 1, 0, 0, 0, 0), (0, 0, 0)), ((318, .getfield 77, 3, 3, 11, 1192, 0), (0, 44, 0))] (by decide +kernel) rfl ?_
        exact hx_reti (by decide +kernel) (h11 c1 c2 c3 c4 c5 c6 c7 c8 c9 c10 c11 c12)
      refine hsw_c (fun c13 => ?_) (fun c13 => ?_)
      · have c13 : x2 = 106 := c13
        refine hx_blk (npc := 321) (L' := [(0, .inr (.inl 44)), (1, .inr (.inl 5)), (2, .inl x2)]) (st' := [.inl (m 44 11)]) (m' := m) [((317, .aload_n 0, 1, 0, 0, 0, 0), (0, 0, 0)), ((318, .getfield 77, 3, 3, 11, 1192, 0), (0, 44, 0))] (by decide +kernel) rfl ?_
        exact hx_reti (by decide +kernel) (h12 c1 c2 c3 c4 c5 c6 c7 c8 c9 c10 c11 c12 c13)
      refine hsw_c (fun c14 => ?_) (fun c14 => ?_)
      · have c14 : x2 = 107 := c14
        refine hx_blk (npc := 269) (L' := [(0, .inr (.inl 44)), (1, .inr (.inl 5)), (2, .inl x2)]) (st' := [.inl (gx_w (hland (hlushr (m 5 2) (m 44 9)) 1))]) (m' := m) [((257, .aload_n 1, 1, 0, 0, 0, 0), (0, 0, 0)), ((258, .getfield 128, 3, 2, 2, 1081, 0), (2, 5, 0)), ((261, .aload_n 0, 1, 0, 0, 0, 0), (0, 0, 0)), ((262, .getfield 71, 3, 3, 9, 1190, 0), (0, 44, 0)), ((265, .lushr, 1, 0, 0, 0, 0), (0, 0, 0)), ((266, .lconst 1, 1, 0, 0, 0, 0), (0, 0, 0)), ((267, .land, 1, 0, 0, 0, 0), (0, 0, 0)), ((268, .l2i, 1, 0, 0, 0, 0), (0, 0, 0))] (by decide +kernel) rfl ?_
        exact hx_reti (by decide +kernel) (h13 c1 c2 c3 c4 c5 c6 c7 c8 c9 c10 c11 c12 c13 c14)
      refine hsw_c (fun c15 => ?_) (fun c15 => ?_)
      · have c15 : x2 = 108 := c15
        refine hx_blk (npc := 220) (L' := [(0, .inr (.inl 44)), (1, .inr (.inl 5)), (2, .inl x2)]) (st' := [.inl (m 8 (m 44 9).toNat)]) (m' := m) [((211, .aload_n 1, 1, 0, 0, 0, 0), (0, 0, 0)), ((212, .getfield 112, 3, 2, 7, 1099, 0), (1, 5, 8)), ((215, .aload_n 0, 1, 0, 0, 0, 0), (0, 0, 0)), ((216, .getfield 71, 3, 3, 9, 1190, 0), (0, 44, 0)), ((219, .iaload, 1, 0, 0, 0, 0), (0, 8, 0))] (by decide +kernel) rfl ?_
        exact hx_reti (by decide +kernel) (h14 c1 c2 c3 c4 c5 c6 c7 c8 c9 c10 c11 c12 c13 c14 c15)
      refine hsw_c (fun c16 => ?_) (fun c16 => ?_)
      · have c16 : x2 = 109 := c16
        refine hx_blk (npc := 253) (L' := [(0, .inr (.inl 44)), (1, .inr (.inl 5)), (2, .inl x2)]) (st' := [.inl (m 10 (m 44 9).toNat)]) (m' := m) [((244, .aload_n 1, 1, 0, 0, 0, 0), (0, 0, 0)), ((245, .getfield 125, 3, 2, 9, 1107, 0), (1, 5, 10)), ((248, .aload_n 0, 1, 0, 0, 0, 0), (0, 0, 0)), ((249, .getfield 71, 3, 3, 9, 1190, 0), (0, 44, 0)), ((252, .iaload, 1, 0, 0, 0, 0), (0, 10, 0))] (by decide +kernel) rfl ?_
        exact hx_call (E := (253, .invokestatic 121, 3, 63, 0, 3154, 0)) (M' := yp_m63) [.inl (m 10 (m 44 9).toNat)] [] rfl (by decide +kernel) rfl ⟨rfl, rfl⟩ rfl rfl (hx_mono (h15 c1 c2 c3 c4 c5 c6 c7 c8 c9 c10 c11 c12 c13 c14 c15 c16) (fun r m' h' => hx_pick [] h'))
      refine hsw_c (fun c17 => ?_) (fun c17 => ?_)
      · have c17 : x2 = 110 := c17
        refine hx_blk (npc := 321) (L' := [(0, .inr (.inl 44)), (1, .inr (.inl 5)), (2, .inl x2)]) (st' := [.inl (m 44 11)]) (m' := m) [((317, .aload_n 0, 1, 0, 0, 0, 0), (0, 0, 0)), ((318, .getfield 77, 3, 3, 11, 1192, 0), (0, 44, 0))] (by decide +kernel) rfl ?_
        exact hx_reti (by decide +kernel) (h16 c1 c2 c3 c4 c5 c6 c7 c8 c9 c10 c11 c12 c13 c14 c15 c16 c17)
      refine hsw_c (fun c18 => ?_) (fun c18 => ?_)
      · have c18 : x2 = 111 := c18
        refine hx_blk (npc := 230) (L' := [(0, .inr (.inl 44)), (1, .inr (.inl 5)), (2, .inl x2)]) (st' := [.inl (m 12 (m 44 9).toNat)]) (m' := m) [((221, .aload_n 1, 1, 0, 0, 0, 0), (0, 0, 0)), ((222, .getfield 115, 3, 2, 11, 1118, 0), (1, 5, 12)), ((225, .aload_n 0, 1, 0, 0, 0, 0), (0, 0, 0)), ((226, .getfield 71, 3, 3, 9, 1190, 0), (0, 44, 0)), ((229, .iaload, 1, 0, 0, 0, 0), (0, 12, 0))] (by decide +kernel) rfl ?_
        exact hx_reti (by decide +kernel) (h17 c1 c2 c3 c4 c5 c6 c7 c8 c9 c10 c11 c12 c13 c14 c15 c16 c17 c18)
      refine hsw_c (fun c19 => ?_) (fun c19 => ?_)
      · have c19 : x2 = 112 := c19
        refine hx_blk (npc := 321) (L' := [(0, .inr (.inl 44)), (1, .inr (.inl 5)), (2, .inl x2)]) (st' := [.inl (m 44 11)]) (m' := m) [((317, .aload_n 0, 1, 0, 0, 0, 0), (0, 0, 0)), ((318, .getfield 77, 3, 3, 11, 1192, 0), (0, 44, 0))] (by decide +kernel) rfl ?_
        exact hx_reti (by decide +kernel) (h18 c1 c2 c3 c4 c5 c6 c7 c8 c9 c10 c11 c12 c13 c14 c15 c16 c17 c18 c19)
      refine hsw_c (fun c20 => ?_) (fun c20 => ?_)
      · have c20 : x2 = 113 := c20
        refine hx_blk (npc := 321) (L' := [(0, .inr (.inl 44)), (1, .inr (.inl 5)), (2, .inl x2)]) (st' := [.inl (m 44 11)]) (m' := m) [((317, .aload_n 0, 1, 0, 0, 0, 0), (0, 0, 0)), ((318, .getfield 77, 3, 3, 11, 1192, 0), (0, 44, 0))] (by decide +kernel) rfl ?_
        exact hx_reti (by decide +kernel) (h19 c1 c2 c3 c4 c5 c6 c7 c8 c9 c10 c11 c12 c13 c14 c15 c16 c17 c18 c19 c20)
      refine hsw_c (fun c21 => ?_) (fun c21 => ?_)
      · have c21 : x2 = 114 := c21
        refine hx_blk (npc := 321) (L' := [(0, .inr (.inl 44)), (1, .inr (.inl 5)), (2, .inl x2)]) (st' := [.inl (m 44 11)]) (m' := m) [((317, .aload_n 0, 1, 0, 0, 0, 0), (0, 0, 0)), ((318, .getfield 77, 3, 3, 11, 1192, 0), (0, 44, 0))] (by decide +kernel) rfl ?_
        exact hx_reti (by decide +kernel) (h20 c1 c2 c3 c4 c5 c6 c7 c8 c9 c10 c11 c12 c13 c14 c15 c16 c17 c18 c19 c20 c21)
      refine hsw_c (fun c22 => ?_) (fun c22 => ?_)
      · have c22 : x2 = 115 := c22
        refine hx_blk (npc := 240) (L' := [(0, .inr (.inl 44)), (1, .inr (.inl 5)), (2, .inl x2)]) (st' := [.inl (m 9 (m 44 9).toNat)]) (m' := m) [((231, .aload_n 1, 1, 0, 0, 0, 0), (0, 0, 0)), ((232, .getfield 118, 3, 2, 8, 1103, 0), (1, 5, 9)), ((235, .aload_n 0, 1, 0, 0, 0, 0), (0, 0, 0)), ((236, .getfield 71, 3, 3, 9, 1190, 0), (0, 44, 0)), ((239, .iaload, 1, 0, 0, 0, 0), (0, 9, 0))] (by decide +kernel) rfl ?_
        exact hx_call (E := (240, .invokestatic 121, 3, 63, 0, 3154, 0)) (M' := yp_m63) [.inl (m 9 (m 44 9).toNat)] [] rfl (by decide +kernel) rfl ⟨rfl, rfl⟩ rfl rfl (hx_mono (h21 c1 c2 c3 c4 c5 c6 c7 c8 c9 c10 c11 c12 c13 c14 c15 c16 c17 c18 c19 c20 c21 c22) (fun r m' h' => hx_pick [] h'))
      refine hsw_c (fun c23 => ?_) (fun c23 => ?_)
      · have c23 : x2 = 116 := c23
        refine hx_blk (npc := 321) (L' := [(0, .inr (.inl 44)), (1, .inr (.inl 5)), (2, .inl x2)]) (st' := [.inl (m 44 11)]) (m' := m) [((317, .aload_n 0, 1, 0, 0, 0, 0), (0, 0, 0)), ((318, .getfield 77, 3, 3, 11, 1192, 0), (0, 44, 0))] (by decide +kernel) rfl ?_
        exact hx_reti (by decide +kernel) (h22 c1 c2 c3 c4 c5 c6 c7 c8 c9 c10 c11 c12 c13 c14 c15 c16 c17 c18 c19 c20 c21 c22 c23)
      refine hsw_c (fun c24 => ?_) (fun c24 => ?_)
      · have c24 : x2 = 117 := c24
        refine hx_blk (npc := 321) (L' := [(0, .inr (.inl 44)), (1, .inr (.inl 5)), (2, .inl x2)]) (st' := [.inl (m 44 11)]) (m' := m) [((317, .aload_n 0, 1, 0, 0, 0, 0), (0, 0, 0)), ((318, .getfield 77, 3, 3, 11, 1192, 0), (0, 44, 0))] (by decide +kernel) rfl ?_
        exact hx_reti (by decide +kernel) (h23 c1 c2 c3 c4 c5 c6 c7 c8 c9 c10 c11 c12 c13 c14 c15 c16 c17 c18 c19 c20 c21 c22 c23 c24)
      refine hsw_c (fun c25 => ?_) (fun c25 => ?_)
      · have c25 : x2 = 118 := c25
        refine hx_blk (npc := 321) (L' := [(0, .inr (.inl 44)), (1, .inr (.inl 5)), (2, .inl x2)]) (st' := [.inl (m 44 11)]) (m' := m) [((317, .aload_n 0, 1, 0, 0, 0, 0), (0, 0, 0)), ((318, .getfield 77, 3, 3, 11, 1192, 0), (0, 44, 0))] (by decide +kernel) rfl ?_
        exact hx_reti (by decide +kernel) (h24 c1 c2 c3 c4 c5 c6 c7 c8 c9 c10 c11 c12 c13 c14 c15 c16 c17 c18 c19 c20 c21 c22 c23 c24 c25)
      refine hsw_c (fun c26 => ?_) (fun c26 => ?_)
      · have c26 : x2 = 119 := c26
        refine hx_blk (npc := 321) (L' := [(0, .inr (.inl 44)), (1, .inr (.inl 5)), (2, .inl x2)]) (st' := [.inl (m 44 11)]) (m' := m) [((317, .aload_n 0, 1, 0, 0, 0, 0), (0, 0, 0)), ((318, .getfield 77, 3, 3, 11, 1192, 0), (0, 44, 0))] (by decide +kernel) rfl ?_
        exact hx_reti (by decide +kernel) (h25 c1 c2 c3 c4 c5 c6 c7 c8 c9 c10 c11 c12 c13 c14 c15 c16 c17 c18 c19 c20 c21 c22 c23 c24 c25 c26)
      refine hsw_c (fun c27 => ?_) (fun c27 => ?_)
      · have c27 : x2 = 120 := c27
        refine hx_blk (npc := 321) (L' := [(0, .inr (.inl 44)), (1, .inr (.inl 5)), (2, .inl x2)]) (st' := [.inl (m 44 11)]) (m' := m) [((317, .aload_n 0, 1, 0, 0, 0, 0), (0, 0, 0)), ((318, .getfield 77, 3, 3, 11, 1192, 0), (0, 44, 0))] (by decide +kernel) rfl ?_
        exact hx_reti (by decide +kernel) (h26 c1 c2 c3 c4 c5 c6 c7 c8 c9 c10 c11 c12 c13 c14 c15 c16 c17 c18 c19 c20 c21 c22 c23 c24 c25 c26 c27)
      refine hsw_c (fun c28 => ?_) (fun c28 => ?_)
      · have c28 : x2 = 121 := c28
        refine hx_blk (npc := 200) (L' := [(0, .inr (.inl 44)), (1, .inr (.inl 5)), (2, .inl x2)]) (st' := [.inl (m 44 9)]) (m' := m) [((196, .aload_n 0, 1, 0, 0, 0, 0), (0, 0, 0)), ((197, .getfield 71, 3, 3, 9, 1190, 0), (0, 44, 0))] (by decide +kernel) rfl ?_
        exact hx_reti (by decide +kernel) (h27 c1 c2 c3 c4 c5 c6 c7 c8 c9 c10 c11 c12 c13 c14 c15 c16 c17 c18 c19 c20 c21 c22 c23 c24 c25 c26 c27 c28)
      refine hsw_n ?_
      refine hx_blk (npc := 321) (L' := [(0, .inr (.inl 44)), (1, .inr (.inl 5)), (2, .inl x2)]) (st' := [.inl (m 44 11)]) (m' := m) [((317, .aload_n 0, 1, 0, 0, 0, 0), (0, 0, 0)), ((318, .getfield 77, 3, 3, 11, 1192, 0), (0, 44, 0))] (by decide +kernel) rfl ?_
      exact hx_reti (by decide +kernel) (h28 c1 c2 c3 c4 c5 c6 c7 c8 c9 c10 c11 c12 c13 c14 c15 c16 c17 c18 c19 c20 c21 c22 c23 c24 c25 c26 c27 c28)
    · have c6 : 40 ≤ (m 44 9) := by have h : ¬ ((m 44 9) < 40) := c6; omega
      refine hx_blk (npc := 92) (L' := [(0, .inr (.inl 44)), (1, .inr (.inl 5)), (2, .inl x2)]) (st' := [.inl 0]) (m' := m) [((91, .iconst 0, 1, 0, 0, 0, 0), (0, 0, 0))] (by decide +kernel) rfl ?_
      exact hx_reti (by decide +kernel) (h29 c1 c2 c3 c4 c5 c6)

/-- letterIs from 62 on -/
theorem hr59_62 {xs : List Int32} {n : Nat} {Q : hQ} {m : gx_M} {s0 : Int}
    (h1 : hxn xs n yp_m61 0 [(0, .inr (.inr s0))] [] m (fun r m' => hxn xs n yp_m59 65 [] (hrs r ++ []) m' Q)) : hxn xs (n + 1) yp_m59 62 [] [.inr (.inr s0)] m Q := by
  exact hx_calls (E := (62, .invokestatic 100, 3, 61, 0, 3144, 0)) (M' := yp_m61) [.inr (.inr s0)] [] rfl (by decide +kernel) rfl ⟨rfl, rfl⟩ rfl rfl (hx_mono h1 (fun r m' h' => hx_pick [] h'))

/-- letterIs from 65 on -/
theorem hr59_65 {xs : List Int32} {n : Nat} {Q : hQ} {m : gx_M} {s0 : Int}
    (h1 : Q (some (.inl s0)) m) : hxn xs (n + 1) yp_m59 65 [] [.inl s0] m Q := by
  exact hx_reti (by decide +kernel) h1

/-- letterIs from 74 on -/
theorem hr59_74 {xs : List Int32} {n : Nat} {Q : hQ} {m : gx_M} {s0 : Int}
    (h1 : Q (some (.inl s0)) m) : hxn xs (n + 1) yp_m59 74 [] [.inl s0] m Q := by
  exact hx_reti (by decide +kernel) h1

/-- letterIs from 243 on -/
theorem hr59_243 {xs : List Int32} {n : Nat} {Q : hQ} {m : gx_M} {s0 : Int}
    (h1 : Q (some (.inl s0)) m) : hxn xs (n + 1) yp_m59 243 [] [.inl s0] m Q := by
  exact hx_reti (by decide +kernel) h1

/-- letterIs from 256 on -/
theorem hr59_256 {xs : List Int32} {n : Nat} {Q : hQ} {m : gx_M} {s0 : Int}
    (h1 : Q (some (.inl s0)) m) : hxn xs (n + 1) yp_m59 256 [] [.inl s0] m Q := by
  exact hx_reti (by decide +kernel) h1

/-- letterIs from 298 on -/
theorem hr59_298 {xs : List Int32} {n : Nat} {Q : hQ} {m : gx_M} {s0 s2 : Int}
    (h1 : hxn xs n yp_m64 0 [(0, .inr (.inl 5)), (1, .inr (.inr (hland s2 (hlxor (hlshl 1 (m 44 9)) (-1)))))] [] m (fun r m' => hxn xs n yp_m59 312 [] (hrs r ++ [.inl s0]) m' Q)) : hxn xs (n + 1) yp_m59 298 [(0, .inr (.inl 44))] [.inr (.inr s2), .inr (.inl 5), .inl s0] m Q := by
  refine hx_blks (npc := 309) (L' := [(0, .inr (.inl 44))]) (st' := [.inr (.inr (hland s2 (hlxor (hlshl 1 (m 44 9)) (-1)))), .inr (.inl 5), .inl s0]) (m' := m) ((298, .lconst 1, 1, 0, 0, 0, 0), (0, 0, 0)) [((299, .aload_n 0, 1, 0, 0, 0, 0), (0, 0, 0)), ((300, .getfield 71, 3, 3, 9, 1190, 0), (0, 44, 0)), ((303, .lshl, 1, 0, 0, 0, 0), (0, 0, 0)), ((304, .ldc2_w 135, 3, 0, 0, 3160, (-1)), (0, 0, 0)), ((307, .lxor, 1, 0, 0, 0, 0), (0, 0, 0)), ((308, .land, 1, 0, 0, 0, 0), (0, 0, 0))] (by decide +kernel) rfl ?_
  exact hx_call (E := (309, .invokevirtual 137, 3, 64, 0, 3161, 0)) (M' := yp_m64) [.inr (.inl 5), .inr (.inr (hland s2 (hlxor (hlshl 1 (m 44 9)) (-1))))] [.inl s0] rfl (by decide +kernel) rfl ⟨rfl, rfl⟩ rfl rfl (hx_mono h1 (fun r m' h' => hx_pick [] h'))

/-- letterIs from 312 on -/
theorem hr59_312 {xs : List Int32} {n : Nat} {Q : hQ} {m : gx_M} {s0 s1 : Int}
    (h1 : hxn xs n yp_m63 0 [(0, .inl (gx_and s0 s1))] [] m (fun r m' => hxn xs n yp_m59 316 [] (hrs r ++ []) m' Q)) : hxn xs (n + 1) yp_m59 312 [] [.inl s1, .inl s0] m Q := by
  refine hx_blks (npc := 313) (L' := []) (st' := [.inl (gx_and s0 s1)]) (m' := m) ((312, .iand, 1, 0, 0, 0, 0), (0, 0, 0)) [] (by decide +kernel) rfl ?_
  exact hx_call (E := (313, .invokestatic 121, 3, 63, 0, 3154, 0)) (M' := yp_m63) [.inl (gx_and s0 s1)] [] rfl (by decide +kernel) rfl ⟨rfl, rfl⟩ rfl rfl (hx_mono h1 (fun r m' h' => hx_pick [] h'))

/-- letterIs from 316 on -/
theorem hr59_316 {xs : List Int32} {n : Nat} {Q : hQ} {m : gx_M} {s0 : Int}
    (h1 : Q (some (.inl s0)) m) : hxn xs (n + 1) yp_m59 316 [] [.inl s0] m Q := by
  exact hx_reti (by decide +kernel) h1

/-- owned from 0 on -/
theorem hr31_60_0 {xs : List Int32} {n : Nat} {Q : hQ} {m : gx_M} {x1 : Int}
    (h1 : hxn xs n yp_m60 5 [(0, .inr (.inl 31)), (1, .inl x1), (2, .inr (.inr 0)), (4, .inl 0)] [] m Q) : hxn xs (n + 1) yp_m60 0 [(0, .inr (.inl 31)), (1, .inl x1)] [] m Q := by
  refine hx_blks (npc := 5) (L' := [(0, .inr (.inl 31)), (1, .inl x1), (2, .inr (.inr 0)), (4, .inl 0)]) (st' := []) (m' := m) ((0, .lconst 0, 1, 0, 0, 0, 0), (0, 0, 0)) [((1, .lstore_n 2, 1, 0, 0, 0, 0), (0, 0, 0)), ((2, .iconst 0, 1, 0, 0, 0, 0), (0, 0, 0)), ((3, .istore 4, 2, 0, 0, 0, 0), (0, 0, 0))] (by decide +kernel) rfl ?_
  exact hx_pick [0, 1, 2, 4] h1

/-- owned from 5 on -/
theorem hr31_60_5 {xs : List Int32} {n : Nat} {Q : hQ} {m : gx_M} {x1 x2 x4 : Int}
    (h1 : (40 ≤ x4) → Q (some (.inr (.inr x2))) m)
    (h2 : (x4 < 40) → ((hlcmp (hland (hlushr (m 31 1) x4) 1) 0) = 0) → hxn xs n yp_m60 5 [(0, .inr (.inl 31)), (1, .inl x1), (2, .inr (.inr x2)), (4, .inl (gx_w (x4 + 1)))] [] m Q)
    (h3 : (x4 < 40) → ((hlcmp (hland (hlushr (m 31 1) x4) 1) 0) ≠ 0) → ((m 38 (x4).toNat) ≠ x1) → hxn xs n yp_m60 5 [(0, .inr (.inl 31)), (1, .inl x1), (2, .inr (.inr x2)), (4, .inl (gx_w (x4 + 1)))] [] m Q)
    (h4 : (x4 < 40) → ((hlcmp (hland (hlushr (m 31 1) x4) 1) 0) ≠ 0) → ((m 38 (x4).toNat) = x1) → hxn xs n yp_m60 5 [(0, .inr (.inl 31)), (1, .inl x1), (2, .inr (.inr (hlor x2 (hlshl 1 x4)))), (4, .inl (gx_w (x4 + 1)))] [] m Q) : hxn xs (n + 1) yp_m60 5 [(0, .inr (.inl 31)), (1, .inl x1), (2, .inr (.inr x2)), (4, .inl x4)] [] m Q := by
  refine hx_blks (npc := 9) (L' := [(0, .inr (.inl 31)), (1, .inl x1), (2, .inr (.inr x2)), (4, .inl x4)]) (st' := [.inl 40, .inl x4]) (m' := m) ((5, .iload 4, 2, 0, 0, 0, 0), (0, 0, 0)) [((7, .bipush 40, 2, 0, 0, 0, 0), (0, 0, 0))] (by decide +kernel) rfl ?_
  refine hx_cmp .ge 50 (by decide +kernel) (fun c1 => ?_) (fun c1 => ?_)
  · have c1 : 40 ≤ x4 := c1
    refine hx_blk (npc := 51) (L' := [(0, .inr (.inl 31)), (1, .inl x1), (2, .inr (.inr x2)), (4, .inl x4)]) (st' := [.inr (.inr x2)]) (m' := m) [((50, .lload_n 2, 1, 0, 0, 0, 0), (0, 0, 0))] (by decide +kernel) rfl ?_
    exact hx_retl (by decide +kernel) (h1 c1)
  · have c1 : x4 < 40 := by have h : ¬ (40 ≤ x4) := c1; omega
    refine hx_blk (npc := 23) (L' := [(0, .inr (.inl 31)), (1, .inl x1), (2, .inr (.inr x2)), (4, .inl x4)]) (st' := [.inl (hlcmp (hland (hlushr (m 31 1) x4) 1) 0)]) (m' := m) [((12, .aload_n 0, 1, 0, 0, 0, 0), (0, 0, 0)), ((13, .getfield 55, 3, 2, 1, 1078, 0), (2, 31, 0)), ((16, .iload 4, 2, 0, 0, 0, 0), (0, 0, 0)), ((18, .lushr, 1, 0, 0, 0, 0), (0, 0, 0)), ((19, .lconst 1, 1, 0, 0, 0, 0), (0, 0, 0)), ((20, .land, 1, 0, 0, 0, 0), (0, 0, 0)), ((21, .lconst 0, 1, 0, 0, 0, 0), (0, 0, 0)), ((22, .lcmp, 1, 0, 0, 0, 0), (0, 0, 0))] (by decide +kernel) rfl ?_
    refine hx_if .eq 44 (by decide +kernel) (fun c2 => ?_) (fun c2 => ?_)
    · have c2 : (hlcmp (hland (hlushr (m 31 1) x4) 1) 0) = 0 := c2
      refine hx_blk (npc := 5) (L' := [(0, .inr (.inl 31)), (1, .inl x1), (2, .inr (.inr x2)), (4, .inl (gx_w (x4 + 1)))]) (st' := []) (m' := m) [((44, .iinc 4 1, 3, 0, 0, 0, 0), (0, 0, 0)), ((47, .goto (-42), 3, 0, 0, 0, 0), (0, 0, 0))] (by decide +kernel) rfl ?_
      exact hx_pick [0, 1, 2, 4] (h2 c1 c2)
    · have c2 : (hlcmp (hland (hlushr (m 31 1) x4) 1) 0) ≠ 0 := c2
      refine hx_blk (npc := 34) (L' := [(0, .inr (.inl 31)), (1, .inl x1), (2, .inr (.inr x2)), (4, .inl x4)]) (st' := [.inl x1, .inl (m 38 (x4).toNat)]) (m' := m) [((26, .aload_n 0, 1, 0, 0, 0, 0), (0, 0, 0)), ((27, .getfield 34, 3, 2, 11, 1111, 0), (1, 31, 38)), ((30, .iload 4, 2, 0, 0, 0, 0), (0, 0, 0)), ((32, .iaload, 1, 0, 0, 0, 0), (0, 38, 0)), ((33, .iload_n 1, 1, 0, 0, 0, 0), (0, 0, 0))] (by decide +kernel) rfl ?_
      refine hx_cmp .ne 44 (by decide +kernel) (fun c3 => ?_) (fun c3 => ?_)
      · have c3 : (m 38 (x4).toNat) ≠ x1 := c3
        refine hx_blk (npc := 5) (L' := [(0, .inr (.inl 31)), (1, .inl x1), (2, .inr (.inr x2)), (4, .inl (gx_w (x4 + 1)))]) (st' := []) (m' := m) [((44, .iinc 4 1, 3, 0, 0, 0, 0), (0, 0, 0)), ((47, .goto (-42), 3, 0, 0, 0, 0), (0, 0, 0))] (by decide +kernel) rfl ?_
        exact hx_pick [0, 1, 2, 4] (h3 c1 c2 c3)
      · have c3 : (m 38 (x4).toNat) = x1 := by have h : ¬ ((m 38 (x4).toNat) ≠ x1) := c3; omega
        refine hx_blk (npc := 5) (L' := [(0, .inr (.inl 31)), (1, .inl x1), (2, .inr (.inr (hlor x2 (hlshl 1 x4)))), (4, .inl (gx_w (x4 + 1)))]) (st' := []) (m' := m) [((37, .lload_n 2, 1, 0, 0, 0, 0), (0, 0, 0)), ((38, .lconst 1, 1, 0, 0, 0, 0), (0, 0, 0)), ((39, .iload 4, 2, 0, 0, 0, 0), (0, 0, 0)), ((41, .lshl, 1, 0, 0, 0, 0), (0, 0, 0)), ((42, .lor, 1, 0, 0, 0, 0), (0, 0, 0)), ((43, .lstore_n 2, 1, 0, 0, 0, 0), (0, 0, 0)), ((44, .iinc 4 1, 3, 0, 0, 0, 0), (0, 0, 0)), ((47, .goto (-42), 3, 0, 0, 0, 0), (0, 0, 0))] (by decide +kernel) rfl ?_
        exact hx_pick [0, 1, 2, 4] (h4 c1 c2 c3)

/-- taughtBy from 0 on -/
theorem hr31_64_0 {xs : List Int32} {n : Nat} {Q : hQ} {m : gx_M} {x1 : Int}
    (h1 : hxn xs n yp_m64 5 [(0, .inr (.inl 31)), (1, .inr (.inr x1)), (3, .inl 0), (4, .inl 0)] [] m Q) : hxn xs (n + 1) yp_m64 0 [(0, .inr (.inl 31)), (1, .inr (.inr x1))] [] m Q := by
  refine hx_blks (npc := 5) (L' := [(0, .inr (.inl 31)), (1, .inr (.inr x1)), (3, .inl 0), (4, .inl 0)]) (st' := []) (m' := m) ((0, .iconst 0, 1, 0, 0, 0, 0), (0, 0, 0)) [((1, .istore_n 3, 1, 0, 0, 0, 0), (0, 0, 0)), ((2, .iconst 0, 1, 0, 0, 0, 0), (0, 0, 0)), ((3, .istore 4, 2, 0, 0, 0, 0), (0, 0, 0))] (by decide +kernel) rfl ?_
  exact hx_pick [0, 1, 3, 4] h1

/-- taughtBy from 5 on -/
theorem hr31_64_5 {xs : List Int32} {n : Nat} {Q : hQ} {m : gx_M} {x1 x3 x4 : Int}
    (h1 : (40 ≤ x4) → Q (some (.inl x3)) m)
    (h2 : (x4 < 40) → ((hlcmp (hland (hlushr x1 x4) 1) 0) = 0) → hxn xs n yp_m64 5 [(0, .inr (.inl 31)), (1, .inr (.inr x1)), (3, .inl x3), (4, .inl (gx_w (x4 + 1)))] [] m Q)
    (h3 : (x4 < 40) → ((hlcmp (hland (hlushr x1 x4) 1) 0) ≠ 0) → hxn xs n yp_m64 5 [(0, .inr (.inl 31)), (1, .inr (.inr x1)), (3, .inl (gx_or x3 (m 35 (x4).toNat))), (4, .inl (gx_w (x4 + 1)))] [] m Q) : hxn xs (n + 1) yp_m64 5 [(0, .inr (.inl 31)), (1, .inr (.inr x1)), (3, .inl x3), (4, .inl x4)] [] m Q := by
  refine hx_blks (npc := 9) (L' := [(0, .inr (.inl 31)), (1, .inr (.inr x1)), (3, .inl x3), (4, .inl x4)]) (st' := [.inl 40, .inl x4]) (m' := m) ((5, .iload 4, 2, 0, 0, 0, 0), (0, 0, 0)) [((7, .bipush 40, 2, 0, 0, 0, 0), (0, 0, 0))] (by decide +kernel) rfl ?_
  refine hx_cmp .ge 39 (by decide +kernel) (fun c1 => ?_) (fun c1 => ?_)
  · have c1 : 40 ≤ x4 := c1
    refine hx_blk (npc := 40) (L' := [(0, .inr (.inl 31)), (1, .inr (.inr x1)), (3, .inl x3), (4, .inl x4)]) (st' := [.inl x3]) (m' := m) [((39, .iload_n 3, 1, 0, 0, 0, 0), (0, 0, 0))] (by decide +kernel) rfl ?_
    exact hx_reti (by decide +kernel) (h1 c1)
  · have c1 : x4 < 40 := by have h : ¬ (40 ≤ x4) := c1; omega
    refine hx_blk (npc := 20) (L' := [(0, .inr (.inl 31)), (1, .inr (.inr x1)), (3, .inl x3), (4, .inl x4)]) (st' := [.inl (hlcmp (hland (hlushr x1 x4) 1) 0)]) (m' := m) [((12, .lload_n 1, 1, 0, 0, 0, 0), (0, 0, 0)), ((13, .iload 4, 2, 0, 0, 0, 0), (0, 0, 0)), ((15, .lushr, 1, 0, 0, 0, 0), (0, 0, 0)), ((16, .lconst 1, 1, 0, 0, 0, 0), (0, 0, 0)), ((17, .land, 1, 0, 0, 0, 0), (0, 0, 0)), ((18, .lconst 0, 1, 0, 0, 0, 0), (0, 0, 0)), ((19, .lcmp, 1, 0, 0, 0, 0), (0, 0, 0))] (by decide +kernel) rfl ?_
    refine hx_if .eq 33 (by decide +kernel) (fun c2 => ?_) (fun c2 => ?_)
    · have c2 : (hlcmp (hland (hlushr x1 x4) 1) 0) = 0 := c2
      refine hx_blk (npc := 5) (L' := [(0, .inr (.inl 31)), (1, .inr (.inr x1)), (3, .inl x3), (4, .inl (gx_w (x4 + 1)))]) (st' := []) (m' := m) [((33, .iinc 4 1, 3, 0, 0, 0, 0), (0, 0, 0)), ((36, .goto (-31), 3, 0, 0, 0, 0), (0, 0, 0))] (by decide +kernel) rfl ?_
      exact hx_pick [0, 1, 3, 4] (h2 c1 c2)
    · have c2 : (hlcmp (hland (hlushr x1 x4) 1) 0) ≠ 0 := c2
      refine hx_blk (npc := 5) (L' := [(0, .inr (.inl 31)), (1, .inr (.inr x1)), (3, .inl (gx_or x3 (m 35 (x4).toNat))), (4, .inl (gx_w (x4 + 1)))]) (st' := []) (m' := m) [((23, .iload_n 3, 1, 0, 0, 0, 0), (0, 0, 0)), ((24, .aload_n 0, 1, 0, 0, 0, 0), (0, 0, 0)), ((25, .getfield 25, 3, 2, 8, 1100, 0), (1, 31, 35)), ((28, .iload 4, 2, 0, 0, 0, 0), (0, 0, 0)), ((30, .iaload, 1, 0, 0, 0, 0), (0, 35, 0)), ((31, .ior, 1, 0, 0, 0, 0), (0, 0, 0)), ((32, .istore_n 3, 1, 0, 0, 0, 0), (0, 0, 0)), ((33, .iinc 4 1, 3, 0, 0, 0, 0), (0, 0, 0)), ((36, .goto (-31), 3, 0, 0, 0, 0), (0, 0, 0))] (by decide +kernel) rfl ?_
      exact hx_pick [0, 1, 3, 4] (h3 c1 c2)

/-- coinsOf from 0 on -/
theorem hr31_62_0 {xs : List Int32} {n : Nat} {Q : hQ} {m : gx_M} {x1 : Int}
    (h1 : (x1 < 0) → Q (some (.inl 0)) m)
    (h2 : (0 ≤ x1) → (8 ≤ x1) → Q (some (.inl 0)) m)
    (h3 : (0 ≤ x1) → (x1 < 8) → ((gx_and (gx_shr (m 31 0) x1) 1) = 0) → Q (some (.inl 0)) m)
    (h4 : (0 ≤ x1) → (x1 < 8) → ((gx_and (gx_shr (m 31 0) x1) 1) ≠ 0) → Q (some (.inl (m 32 (x1).toNat))) m) : hxn xs (n + 1) yp_m62 0 [(0, .inr (.inl 31)), (1, .inl x1)] [] m Q := by
  refine hx_blks (npc := 1) (L' := [(0, .inr (.inl 31)), (1, .inl x1)]) (st' := [.inl x1]) (m' := m) ((0, .iload_n 1, 1, 0, 0, 0, 0), (0, 0, 0)) [] (by decide +kernel) rfl ?_
  refine hx_if .lt 30 (by decide +kernel) (fun c1 => ?_) (fun c1 => ?_)
  · have c1 : x1 < 0 := c1
    refine hx_blk (npc := 31) (L' := [(0, .inr (.inl 31)), (1, .inl x1)]) (st' := [.inl 0]) (m' := m) [((30, .iconst 0, 1, 0, 0, 0, 0), (0, 0, 0))] (by decide +kernel) rfl ?_
    exact hx_reti (by decide +kernel) (h1 c1)
  · have c1 : 0 ≤ x1 := by have h : ¬ (x1 < 0) := c1; omega
    refine hx_blk (npc := 7) (L' := [(0, .inr (.inl 31)), (1, .inl x1)]) (st' := [.inl 8, .inl x1]) (m' := m) [((4, .iload_n 1, 1, 0, 0, 0, 0), (0, 0, 0)), ((5, .bipush 8, 2, 0, 0, 0, 0), (0, 0, 0))] (by decide +kernel) rfl ?_
    refine hx_cmp .ge 30 (by decide +kernel) (fun c2 => ?_) (fun c2 => ?_)
    · have c2 : 8 ≤ x1 := c2
      refine hx_blk (npc := 31) (L' := [(0, .inr (.inl 31)), (1, .inl x1)]) (st' := [.inl 0]) (m' := m) [((30, .iconst 0, 1, 0, 0, 0, 0), (0, 0, 0))] (by decide +kernel) rfl ?_
      exact hx_reti (by decide +kernel) (h2 c1 c2)
    · have c2 : x1 < 8 := by have h : ¬ (8 ≤ x1) := c2; omega
      have f1 := gx_and_bd (gx_shr (m 31 0) x1) 1 (by decide)
      refine hx_blk (npc := 18) (L' := [(0, .inr (.inl 31)), (1, .inl x1)]) (st' := [.inl (gx_and (gx_shr (m 31 0) x1) 1)]) (m' := m) [((10, .aload_n 0, 1, 0, 0, 0, 0), (0, 0, 0)), ((11, .getfield 52, 3, 2, 0, 1076, 0), (0, 31, 0)), ((14, .iload_n 1, 1, 0, 0, 0, 0), (0, 0, 0)), ((15, .ishr, 1, 0, 0, 0, 0), (0, 0, 0)), ((16, .iconst 1, 1, 0, 0, 0, 0), (0, 0, 0)), ((17, .iand, 1, 0, 0, 0, 0), (0, 0, 0))] (by decide +kernel) rfl ?_
      refine hx_if .eq 30 (by decide +kernel) (fun c3 => ?_) (fun c3 => ?_)
      · have c3 : (gx_and (gx_shr (m 31 0) x1) 1) = 0 := c3
        refine hx_blk (npc := 31) (L' := [(0, .inr (.inl 31)), (1, .inl x1)]) (st' := [.inl 0]) (m' := m) [((30, .iconst 0, 1, 0, 0, 0, 0), (0, 0, 0))] (by decide +kernel) rfl ?_
        exact hx_reti (by decide +kernel) (h3 c1 c2 c3)
      · have c3 : (gx_and (gx_shr (m 31 0) x1) 1) ≠ 0 := c3
        refine hx_blk (npc := 31) (L' := [(0, .inr (.inl 31)), (1, .inl x1)]) (st' := [.inl (m 32 (x1).toNat)]) (m' := m) [((21, .aload_n 0, 1, 0, 0, 0, 0), (0, 0, 0)), ((22, .getfield 15, 3, 2, 5, 1089, 0), (1, 31, 32)), ((25, .iload_n 1, 1, 0, 0, 0, 0), (0, 0, 0)), ((26, .iaload, 1, 0, 0, 0, 0), (0, 32, 0)), ((27, .goto 4, 3, 0, 0, 0, 0), (0, 0, 0))] (by decide +kernel) rfl ?_
        exact hx_reti (by decide +kernel) (h4 c1 c2 c3)

/-- letterIs from 0 on -/
theorem hr31_59_0 {xs : List Int32} {n : Nat} {Q : hQ} {m : gx_M} {x2 : Int}
    (h1 : (x2 = 97) → hxn xs n yp_m60 0 [(0, .inr (.inl 31)), (1, .inl (m 44 10))] [] m (fun r m' => hxn xs n yp_m59 62 [] (hrs r ++ []) m' Q))
    (h2 : (x2 ≠ 97) → (x2 = 99) → hxn xs n yp_m62 0 [(0, .inr (.inl 31)), (1, .inl (m 44 10))] [] m (fun r m' => hxn xs n yp_m59 74 [] (hrs r ++ []) m' Q))
    (h3 : (x2 ≠ 97) → (x2 ≠ 99) → (x2 = 112) → Q (some (.inl (m 44 10))) m)
    (h4 : (x2 ≠ 97) → (x2 ≠ 99) → (x2 ≠ 112) → (x2 = 116) → Q (some (.inl (m 31 3))) m)
    (h5 : (x2 ≠ 97) → (x2 ≠ 99) → (x2 ≠ 112) → (x2 ≠ 116) → ((m 44 9) < 0) → Q (some (.inl 0)) m)
    (h6 : (x2 ≠ 97) → (x2 ≠ 99) → (x2 ≠ 112) → (x2 ≠ 116) → (0 ≤ (m 44 9)) → ((m 44 9) < 40) → (x2 = 100) → Q (some (.inl (m 33 (m 44 9).toNat))) m)
    (h7 : (x2 ≠ 97) → (x2 ≠ 99) → (x2 ≠ 112) → (x2 ≠ 116) → (0 ≤ (m 44 9)) → ((m 44 9) < 40) → (x2 ≠ 100) → (x2 = 101) → hxn xs n yp_m60 0 [(0, .inr (.inl 31)), (1, .inl (m 44 10))] [] m (fun r m' => hxn xs n yp_m59 298 [(0, .inr (.inl 44))] (hrs r ++ [.inr (.inl 31), .inl (m 35 (m 44 9).toNat)]) m' Q))
    (h8 : (x2 ≠ 97) → (x2 ≠ 99) → (x2 ≠ 112) → (x2 ≠ 116) → (0 ≤ (m 44 9)) → ((m 44 9) < 40) → (x2 ≠ 100) → (x2 ≠ 101) → (x2 = 102) → Q (some (.inl (m 44 11))) m)
    (h9 : (x2 ≠ 97) → (x2 ≠ 99) → (x2 ≠ 112) → (x2 ≠ 116) → (0 ≤ (m 44 9)) → ((m 44 9) < 40) → (x2 ≠ 100) → (x2 ≠ 101) → (x2 ≠ 102) → (x2 = 103) → Q (some (.inl (m 44 11))) m)
    (h10 : (x2 ≠ 97) → (x2 ≠ 99) → (x2 ≠ 112) → (x2 ≠ 116) → (0 ≤ (m 44 9)) → ((m 44 9) < 40) → (x2 ≠ 100) → (x2 ≠ 101) → (x2 ≠ 102) → (x2 ≠ 103) → (x2 = 104) → Q (some (.inl (m 42 (m 44 9).toNat))) m)
    (h11 : (x2 ≠ 97) → (x2 ≠ 99) → (x2 ≠ 112) → (x2 ≠ 116) → (0 ≤ (m 44 9)) → ((m 44 9) < 40) → (x2 ≠ 100) → (x2 ≠ 101) → (x2 ≠ 102) → (x2 ≠ 103) → (x2 ≠ 104) → (x2 = 105) → Q (some (.inl (m 44 11))) m)
    (h12 : (x2 ≠ 97) → (x2 ≠ 99) → (x2 ≠ 112) → (x2 ≠ 116) → (0 ≤ (m 44 9)) → ((m 44 9) < 40) → (x2 ≠ 100) → (x2 ≠ 101) → (x2 ≠ 102) → (x2 ≠ 103) → (x2 ≠ 104) → (x2 ≠ 105) → (x2 = 106) → Q (some (.inl (m 44 11))) m)
    (h13 : (x2 ≠ 97) → (x2 ≠ 99) → (x2 ≠ 112) → (x2 ≠ 116) → (0 ≤ (m 44 9)) → ((m 44 9) < 40) → (x2 ≠ 100) → (x2 ≠ 101) → (x2 ≠ 102) → (x2 ≠ 103) → (x2 ≠ 104) → (x2 ≠ 105) → (x2 ≠ 106) → (x2 = 107) → Q (some (.inl (gx_w (hland (hlushr (m 31 2) (m 44 9)) 1)))) m)
    (h14 : (x2 ≠ 97) → (x2 ≠ 99) → (x2 ≠ 112) → (x2 ≠ 116) → (0 ≤ (m 44 9)) → ((m 44 9) < 40) → (x2 ≠ 100) → (x2 ≠ 101) → (x2 ≠ 102) → (x2 ≠ 103) → (x2 ≠ 104) → (x2 ≠ 105) → (x2 ≠ 106) → (x2 ≠ 107) → (x2 = 108) → Q (some (.inl (m 34 (m 44 9).toNat))) m)
    (h15 : (x2 ≠ 97) → (x2 ≠ 99) → (x2 ≠ 112) → (x2 ≠ 116) → (0 ≤ (m 44 9)) → ((m 44 9) < 40) → (x2 ≠ 100) → (x2 ≠ 101) → (x2 ≠ 102) → (x2 ≠ 103) → (x2 ≠ 104) → (x2 ≠ 105) → (x2 ≠ 106) → (x2 ≠ 107) → (x2 ≠ 108) → (x2 = 109) → hxn xs n yp_m63 0 [(0, .inl (m 36 (m 44 9).toNat))] [] m (fun r m' => hxn xs n yp_m59 256 [] (hrs r ++ []) m' Q))
    (h16 : (x2 ≠ 97) → (x2 ≠ 99) → (x2 ≠ 112) → (x2 ≠ 116) → (0 ≤ (m 44 9)) → ((m 44 9) < 40) → (x2 ≠ 100) → (x2 ≠ 101) → (x2 ≠ 102) → (x2 ≠ 103) → (x2 ≠ 104) → (x2 ≠ 105) → (x2 ≠ 106) → (x2 ≠ 107) → (x2 ≠ 108) → (x2 ≠ 109) → (x2 = 110) → Q (some (.inl (m 44 11))) m)
    (h17 : (x2 ≠ 97) → (x2 ≠ 99) → (x2 ≠ 112) → (x2 ≠ 116) → (0 ≤ (m 44 9)) → ((m 44 9) < 40) → (x2 ≠ 100) → (x2 ≠ 101) → (x2 ≠ 102) → (x2 ≠ 103) → (x2 ≠ 104) → (x2 ≠ 105) → (x2 ≠ 106) → (x2 ≠ 107) → (x2 ≠ 108) → (x2 ≠ 109) → (x2 ≠ 110) → (x2 = 111) → Q (some (.inl (m 38 (m 44 9).toNat))) m)
    (h18 : (x2 ≠ 97) → (x2 ≠ 99) → (x2 ≠ 112) → (x2 ≠ 116) → (0 ≤ (m 44 9)) → ((m 44 9) < 40) → (x2 ≠ 100) → (x2 ≠ 101) → (x2 ≠ 102) → (x2 ≠ 103) → (x2 ≠ 104) → (x2 ≠ 105) → (x2 ≠ 106) → (x2 ≠ 107) → (x2 ≠ 108) → (x2 ≠ 109) → (x2 ≠ 110) → (x2 ≠ 111) → (x2 = 112) → Q (some (.inl (m 44 11))) m)
    (h19 : (x2 ≠ 97) → (x2 ≠ 99) → (x2 ≠ 112) → (x2 ≠ 116) → (0 ≤ (m 44 9)) → ((m 44 9) < 40) → (x2 ≠ 100) → (x2 ≠ 101) → (x2 ≠ 102) → (x2 ≠ 103) → (x2 ≠ 104) → (x2 ≠ 105) → (x2 ≠ 106) → (x2 ≠ 107) → (x2 ≠ 108) → (x2 ≠ 109) → (x2 ≠ 110) → (x2 ≠ 111) → (x2 ≠ 112) → (x2 = 113) → Q (some (.inl (m 44 11))) m)
    (h20 : (x2 ≠ 97) → (x2 ≠ 99) → (x2 ≠ 112) → (x2 ≠ 116) → (0 ≤ (m 44 9)) → ((m 44 9) < 40) → (x2 ≠ 100) → (x2 ≠ 101) → (x2 ≠ 102) → (x2 ≠ 103) → (x2 ≠ 104) → (x2 ≠ 105) → (x2 ≠ 106) → (x2 ≠ 107) → (x2 ≠ 108) → (x2 ≠ 109) → (x2 ≠ 110) → (x2 ≠ 111) → (x2 ≠ 112) → (x2 ≠ 113) → (x2 = 114) → Q (some (.inl (m 44 11))) m)
    (h21 : (x2 ≠ 97) → (x2 ≠ 99) → (x2 ≠ 112) → (x2 ≠ 116) → (0 ≤ (m 44 9)) → ((m 44 9) < 40) → (x2 ≠ 100) → (x2 ≠ 101) → (x2 ≠ 102) → (x2 ≠ 103) → (x2 ≠ 104) → (x2 ≠ 105) → (x2 ≠ 106) → (x2 ≠ 107) → (x2 ≠ 108) → (x2 ≠ 109) → (x2 ≠ 110) → (x2 ≠ 111) → (x2 ≠ 112) → (x2 ≠ 113) → (x2 ≠ 114) → (x2 = 115) → hxn xs n yp_m63 0 [(0, .inl (m 35 (m 44 9).toNat))] [] m (fun r m' => hxn xs n yp_m59 243 [] (hrs r ++ []) m' Q))
    (h22 : (x2 ≠ 97) → (x2 ≠ 99) → (x2 ≠ 112) → (x2 ≠ 116) → (0 ≤ (m 44 9)) → ((m 44 9) < 40) → (x2 ≠ 100) → (x2 ≠ 101) → (x2 ≠ 102) → (x2 ≠ 103) → (x2 ≠ 104) → (x2 ≠ 105) → (x2 ≠ 106) → (x2 ≠ 107) → (x2 ≠ 108) → (x2 ≠ 109) → (x2 ≠ 110) → (x2 ≠ 111) → (x2 ≠ 112) → (x2 ≠ 113) → (x2 ≠ 114) → (x2 ≠ 115) → (x2 = 116) → Q (some (.inl (m 44 11))) m)
    (h23 : (x2 ≠ 97) → (x2 ≠ 99) → (x2 ≠ 112) → (x2 ≠ 116) → (0 ≤ (m 44 9)) → ((m 44 9) < 40) → (x2 ≠ 100) → (x2 ≠ 101) → (x2 ≠ 102) → (x2 ≠ 103) → (x2 ≠ 104) → (x2 ≠ 105) → (x2 ≠ 106) → (x2 ≠ 107) → (x2 ≠ 108) → (x2 ≠ 109) → (x2 ≠ 110) → (x2 ≠ 111) → (x2 ≠ 112) → (x2 ≠ 113) → (x2 ≠ 114) → (x2 ≠ 115) → (x2 ≠ 116) → (x2 = 117) → Q (some (.inl (m 44 11))) m)
    (h24 : (x2 ≠ 97) → (x2 ≠ 99) → (x2 ≠ 112) → (x2 ≠ 116) → (0 ≤ (m 44 9)) → ((m 44 9) < 40) → (x2 ≠ 100) → (x2 ≠ 101) → (x2 ≠ 102) → (x2 ≠ 103) → (x2 ≠ 104) → (x2 ≠ 105) → (x2 ≠ 106) → (x2 ≠ 107) → (x2 ≠ 108) → (x2 ≠ 109) → (x2 ≠ 110) → (x2 ≠ 111) → (x2 ≠ 112) → (x2 ≠ 113) → (x2 ≠ 114) → (x2 ≠ 115) → (x2 ≠ 116) → (x2 ≠ 117) → (x2 = 118) → Q (some (.inl (m 44 11))) m)
    (h25 : (x2 ≠ 97) → (x2 ≠ 99) → (x2 ≠ 112) → (x2 ≠ 116) → (0 ≤ (m 44 9)) → ((m 44 9) < 40) → (x2 ≠ 100) → (x2 ≠ 101) → (x2 ≠ 102) → (x2 ≠ 103) → (x2 ≠ 104) → (x2 ≠ 105) → (x2 ≠ 106) → (x2 ≠ 107) → (x2 ≠ 108) → (x2 ≠ 109) → (x2 ≠ 110) → (x2 ≠ 111) → (x2 ≠ 112) → (x2 ≠ 113) → (x2 ≠ 114) → (x2 ≠ 115) → (x2 ≠ 116) → (x2 ≠ 117) → (x2 ≠ 118) → (x2 = 119) → Q (some (.inl (m 44 11))) m)
    (h26 : (x2 ≠ 97) → (x2 ≠ 99) → (x2 ≠ 112) → (x2 ≠ 116) → (0 ≤ (m 44 9)) → ((m 44 9) < 40) → (x2 ≠ 100) → (x2 ≠ 101) → (x2 ≠ 102) → (x2 ≠ 103) → (x2 ≠ 104) → (x2 ≠ 105) → (x2 ≠ 106) → (x2 ≠ 107) → (x2 ≠ 108) → (x2 ≠ 109) → (x2 ≠ 110) → (x2 ≠ 111) → (x2 ≠ 112) → (x2 ≠ 113) → (x2 ≠ 114) → (x2 ≠ 115) → (x2 ≠ 116) → (x2 ≠ 117) → (x2 ≠ 118) → (x2 ≠ 119) → (x2 = 120) → Q (some (.inl (m 44 11))) m)
    (h27 : (x2 ≠ 97) → (x2 ≠ 99) → (x2 ≠ 112) → (x2 ≠ 116) → (0 ≤ (m 44 9)) → ((m 44 9) < 40) → (x2 ≠ 100) → (x2 ≠ 101) → (x2 ≠ 102) → (x2 ≠ 103) → (x2 ≠ 104) → (x2 ≠ 105) → (x2 ≠ 106) → (x2 ≠ 107) → (x2 ≠ 108) → (x2 ≠ 109) → (x2 ≠ 110) → (x2 ≠ 111) → (x2 ≠ 112) → (x2 ≠ 113) → (x2 ≠ 114) → (x2 ≠ 115) → (x2 ≠ 116) → (x2 ≠ 117) → (x2 ≠ 118) → (x2 ≠ 119) → (x2 ≠ 120) → (x2 = 121) → Q (some (.inl (m 44 9))) m)
    (h28 : (x2 ≠ 97) → (x2 ≠ 99) → (x2 ≠ 112) → (x2 ≠ 116) → (0 ≤ (m 44 9)) → ((m 44 9) < 40) → (x2 ≠ 100) → (x2 ≠ 101) → (x2 ≠ 102) → (x2 ≠ 103) → (x2 ≠ 104) → (x2 ≠ 105) → (x2 ≠ 106) → (x2 ≠ 107) → (x2 ≠ 108) → (x2 ≠ 109) → (x2 ≠ 110) → (x2 ≠ 111) → (x2 ≠ 112) → (x2 ≠ 113) → (x2 ≠ 114) → (x2 ≠ 115) → (x2 ≠ 116) → (x2 ≠ 117) → (x2 ≠ 118) → (x2 ≠ 119) → (x2 ≠ 120) → (x2 ≠ 121) → Q (some (.inl (m 44 11))) m)
    (h29 : (x2 ≠ 97) → (x2 ≠ 99) → (x2 ≠ 112) → (x2 ≠ 116) → (0 ≤ (m 44 9)) → (40 ≤ (m 44 9)) → Q (some (.inl 0)) m) : hxn xs (n + 1) yp_m59 0 [(0, .inr (.inl 44)), (1, .inr (.inl 31)), (2, .inl x2)] [] m Q := by
  refine hx_blks (npc := 1) (L' := [(0, .inr (.inl 44)), (1, .inr (.inl 31)), (2, .inl x2)]) (st' := [.inl x2]) (m' := m) ((0, .iload_n 2, 1, 0, 0, 0, 0), (0, 0, 0)) [] (by decide +kernel) rfl ?_
  refine hx_lsw 75 [(97, 54), (99, 66), (112, 49), (116, 44)] (by decide +kernel) ?_
  refine hsw_c (fun c1 => ?_) (fun c1 => ?_)
  · have c1 : x2 = 97 := c1
    refine hx_blk (npc := 59) (L' := [(0, .inr (.inl 44)), (1, .inr (.inl 31)), (2, .inl x2)]) (st' := [.inl (m 44 10), .inr (.inl 31)]) (m' := m) [((54, .aload_n 1, 1, 0, 0, 0, 0), (0, 0, 0)), ((55, .aload_n 0, 1, 0, 0, 0, 0), (0, 0, 0)), ((56, .getfield 74, 3, 3, 10, 1191, 0), (0, 44, 0))] (by decide +kernel) rfl ?_
    exact hx_call (E := (59, .invokevirtual 96, 3, 60, 0, 3140, 0)) (M' := yp_m60) [.inr (.inl 31), .inl (m 44 10)] [] rfl (by decide +kernel) rfl ⟨rfl, rfl⟩ rfl rfl (hx_mono (h1 c1) (fun r m' h' => hx_pick [] h'))
  refine hsw_c (fun c2 => ?_) (fun c2 => ?_)
  · have c2 : x2 = 99 := c2
    refine hx_blk (npc := 71) (L' := [(0, .inr (.inl 44)), (1, .inr (.inl 31)), (2, .inl x2)]) (st' := [.inl (m 44 10), .inr (.inl 31)]) (m' := m) [((66, .aload_n 1, 1, 0, 0, 0, 0), (0, 0, 0)), ((67, .aload_n 0, 1, 0, 0, 0, 0), (0, 0, 0)), ((68, .getfield 74, 3, 3, 10, 1191, 0), (0, 44, 0))] (by decide +kernel) rfl ?_
    exact hx_call (E := (71, .invokevirtual 106, 3, 62, 0, 3150, 0)) (M' := yp_m62) [.inr (.inl 31), .inl (m 44 10)] [] rfl (by decide +kernel) rfl ⟨rfl, rfl⟩ rfl rfl (hx_mono (h2 c1 c2) (fun r m' h' => hx_pick [] h'))
  refine hsw_c (fun c3 => ?_) (fun c3 => ?_)
  · have c3 : x2 = 112 := c3
    refine hx_blk (npc := 53) (L' := [(0, .inr (.inl 44)), (1, .inr (.inl 31)), (2, .inl x2)]) (st' := [.inl (m 44 10)]) (m' := m) [((49, .aload_n 0, 1, 0, 0, 0, 0), (0, 0, 0)), ((50, .getfield 74, 3, 3, 10, 1191, 0), (0, 44, 0))] (by decide +kernel) rfl ?_
    exact hx_reti (by decide +kernel) (h3 c1 c2 c3)
  refine hsw_c (fun c4 => ?_) (fun c4 => ?_)
  · have c4 : x2 = 116 := c4
    refine hx_blk (npc := 48) (L' := [(0, .inr (.inl 44)), (1, .inr (.inl 31)), (2, .inl x2)]) (st' := [.inl (m 31 3)]) (m' := m) [((44, .aload_n 1, 1, 0, 0, 0, 0), (0, 0, 0)), ((45, .getfield 91, 3, 2, 3, 1084, 0), (0, 31, 0))] (by decide +kernel) rfl ?_
    exact hx_reti (by decide +kernel) (h4 c1 c2 c3 c4)
  refine hsw_n ?_
  refine hx_blk (npc := 79) (L' := [(0, .inr (.inl 44)), (1, .inr (.inl 31)), (2, .inl x2)]) (st' := [.inl (m 44 9)]) (m' := m) [((75, .aload_n 0, 1, 0, 0, 0, 0), (0, 0, 0)), ((76, .getfield 71, 3, 3, 9, 1190, 0), (0, 44, 0))] (by decide +kernel) rfl ?_
  refine hx_if .lt 91 (by decide +kernel) (fun c5 => ?_) (fun c5 => ?_)
  · have c5 : (m 44 9) < 0 := c5
    refine hx_blk (npc := 92) (L' := [(0, .inr (.inl 44)), (1, .inr (.inl 31)), (2, .inl x2)]) (st' := [.inl 0]) (m' := m) [((91, .iconst 0, 1, 0, 0, 0, 0), (0, 0, 0))] (by decide +kernel) rfl ?_
    exact hx_reti (by decide +kernel) (h5 c1 c2 c3 c4 c5)
  · have c5 : 0 ≤ (m 44 9) := by have h : ¬ ((m 44 9) < 0) := c5; omega
    refine hx_blk (npc := 88) (L' := [(0, .inr (.inl 44)), (1, .inr (.inl 31)), (2, .inl x2)]) (st' := [.inl 40, .inl (m 44 9)]) (m' := m) [((82, .aload_n 0, 1, 0, 0, 0, 0), (0, 0, 0)), ((83, .getfield 71, 3, 3, 9, 1190, 0), (0, 44, 0)), ((86, .bipush 40, 2, 0, 0, 0, 0), (0, 0, 0))] (by decide +kernel) rfl ?_
    refine hx_cmp .lt 93 (by decide +kernel) (fun c6 => ?_) (fun c6 => ?_)
    · have c6 : (m 44 9) < 40 := c6
      refine hx_blk (npc := 94) (L' := [(0, .inr (.inl 44)), (1, .inr (.inl 31)), (2, .inl x2)]) (st' := [.inl x2]) (m' := m) [((93, .iload_n 2, 1, 0, 0, 0, 0), (0, 0, 0))] (by decide +kernel) rfl ?_
      refine hx_tsw 317 [(100, 201), (101, 280), (102, 317), (103, 317), (104, 270), (105, 317), (106, 317), (107, 257), (108, 211), (109, 244), (110, 317), (111, 221), (112, 317), (113, 317), (114, 317), (115, 231), (116, 317), (117, 317), (118, 317), (119, 317), (120, 317), (121, 196)] (by decide +kernel) ?_
      refine hsw_c (fun c7 => ?_) (fun c7 => ?_)
      · have c7 : x2 = 100 := c7
        refine hx_blk (npc := 210) (L' := [(0, .inr (.inl 44)), (1, .inr (.inl 31)), (2, .inl x2)]) (st' := [.inl (m 33 (m 44 9).toNat)]) (m' := m) [((201, .aload_n 1, 1, 0, 0, 0, 0), (0, 0, 0)), ((202, .getfield 109, 3, 2, 6, 1095, 0), (1, 31, 33)), ((205, .aload_n 0, 1, 0, 0, 0, 0), (0, 0, 0)), ((206, .getfield 71, 3, 3, 9, 1190, 0), (0, 44, 0)), ((209, .iaload, 1, 0, 0, 0, 0), (0, 33, 0))] (by decide +kernel) rfl ?_
        exact hx_reti (by decide +kernel) (h6 c1 c2 c3 c4 c5 c6 c7)
      refine hsw_c (fun c8 => ?_) (fun c8 => ?_)
      · have c8 : x2 = 101 := c8
        refine hx_blk (npc := 295) (L' := [(0, .inr (.inl 44)), (1, .inr (.inl 31)), (2, .inl x2)]) (st' := [.inl (m 44 10), .inr (.inl 31), .inr (.inl 31), .inl (m 35 (m 44 9).toNat)]) (m' := m) [((280, .aload_n 1, 1, 0, 0, 0, 0), (0, 0, 0)), ((281, .getfield 118, 3, 2, 8, 1103, 0), (1, 31, 35)), ((284, .aload_n 0, 1, 0, 0, 0, 0), (0, 0, 0)), ((285, .getfield 71, 3, 3, 9, 1190, 0), (0, 44, 0)), ((288, .iaload, 1, 0, 0, 0, 0), (0, 35, 0)), ((289, .aload_n 1, 1, 0, 0, 0, 0), (0, 0, 0)), ((290, .aload_n 1, 1, 0, 0, 0, 0), (0, 0, 0)), ((291, .aload_n 0, 1, 0, 0, 0, 0), (0, 0, 0)), ((292, .getfield 74, 3, 3, 10, 1191, 0), (0, 44, 0))] (by decide +kernel) rfl ?_
        exact hx_call (E := (295, .invokevirtual 96, 3, 60, 0, 3140, 0)) (M' := yp_m60) [.inr (.inl 31), .inl (m 44 10)] [.inr (.inl 31), .inl (m 35 (m 44 9).toNat)] rfl (by decide +kernel) rfl ⟨rfl, rfl⟩ rfl rfl (hx_mono (h7 c1 c2 c3 c4 c5 c6 c7 c8) (fun r m' h' => hx_pick [0] h'))
      refine hsw_c (fun c9 => ?_) (fun c9 => ?_)
      · have c9 : x2 = 102 := c9
        refine hx_blk (npc := 321) (L' := [(0, .inr (.inl 44)), (1, .inr (.inl 31)), (2, .inl x2)]) (st' := [.inl (m 44 11)]) (m' := m) [((317, .aload_n 0, 1, 0, 0, 0, 0), (0, 0, 0)), ((318, .getfield 77, 3, 3, 11, 1192, 0), (0, 44, 0))] (by decide +kernel) rfl ?_
        exact hx_reti (by decide +kernel) (h8 c1 c2 c3 c4 c5 c6 c7 c8 c9)
      refine hsw_c (fun c10 => ?_) (fun c10 => ?_)
      · have c10 : x2 = 103 := c10
        refine hx_blk (npc := 321) (L' := [(0, .inr (.inl 44)), (1, .inr (.inl 31)), (2, .inl x2)]) (st' := [.inl (m 44 11)]) (m' := m) [((317, .aload_n 0, 1, 0, 0, 0, 0), (0, 0, 0)), ((318, .getfield 77, 3, 3, 11, 1192, 0), (0, 44, 0))] (by decide +kernel) rfl ?_
        exact hx_reti (by decide +kernel) (h9 c1 c2 c3 c4 c5 c6 c7 c8 c9 c10)
      refine hsw_c (fun c11 => ?_) (fun c11 => ?_)
      · have c11 : x2 = 104 := c11
        refine hx_blk (npc := 279) (L' := [(0, .inr (.inl 44)), (1, .inr (.inl 31)), (2, .inl x2)]) (st' := [.inl (m 42 (m 44 9).toNat)]) (m' := m) [((270, .aload_n 1, 1, 0, 0, 0, 0), (0, 0, 0)), ((271, .getfield 132, 3, 2, 15, 1135, 0), (1, 31, 42)), ((274, .aload_n 0, 1, 0, 0, 0, 0), (0, 0, 0)), ((275, .getfield 71, 3, 3, 9, 1190, 0), (0, 44, 0)), ((278, .iaload, 1, 0, 0, 0, 0), (0, 42, 0))] (by decide +kernel) rfl ?_
        exact hx_reti (by decide +kernel) (h10 c1 c2 c3 c4 c5 c6 c7 c8 c9 c10 c11)
      refine hsw_c (fun c12 => ?_) (fun c12 => ?_)
      · have c12 : x2 = 105 := c12
        refine hx_blk (npc := 321) (L' := [(0, .inr (.inl 44)), (1, .inr (.inl 31)), (2, .inl x2)]) (st' := [.inl (m 44 11)]) (m' := m) [((317, .aload_n 0, 1, 0, 0, 0, 0), (0, 0, 0)), ((318, .getfield 77, 3, 3, 11, 1192, 0), (0, 44, 0))] (by decide +kernel) rfl ?_
        exact hx_reti (by decide +kernel) (h11 c1 c2 c3 c4 c5 c6 c7 c8 c9 c10 c11 c12)
      refine hsw_c (fun c13 => ?_) (fun c13 => ?_)
      · have c13 : x2 = 106 := c13
        refine hx_blk (npc := 321) (L' := [(0, .inr (.inl 44)), (1, .inr (.inl 31)), (2, .inl x2)]) (st' := [.inl (m 44 11)]) (m' := m) [((317, .aload_n 0, 1, 0, 0, 0, 0), (0, 0, 0)), ((318, .getfield 77, 3, 3, 11, 1192, 0), (0, 44, 0))] (by decide +kernel) rfl ?_
        exact hx_reti (by decide +kernel) (h12 c1 c2 c3 c4 c5 c6 c7 c8 c9 c10 c11 c12 c13)
      refine hsw_c (fun c14 => ?_) (fun c14 => ?_)
      · have c14 : x2 = 107 := c14
        refine hx_blk (npc := 269) (L' := [(0, .inr (.inl 44)), (1, .inr (.inl 31)), (2, .inl x2)]) (st' := [.inl (gx_w (hland (hlushr (m 31 2) (m 44 9)) 1))]) (m' := m) [((257, .aload_n 1, 1, 0, 0, 0, 0), (0, 0, 0)), ((258, .getfield 128, 3, 2, 2, 1081, 0), (2, 31, 0)), ((261, .aload_n 0, 1, 0, 0, 0, 0), (0, 0, 0)), ((262, .getfield 71, 3, 3, 9, 1190, 0), (0, 44, 0)), ((265, .lushr, 1, 0, 0, 0, 0), (0, 0, 0)), ((266, .lconst 1, 1, 0, 0, 0, 0), (0, 0, 0)), ((267, .land, 1, 0, 0, 0, 0), (0, 0, 0)), ((268, .l2i, 1, 0, 0, 0, 0), (0, 0, 0))] (by decide +kernel) rfl ?_
        exact hx_reti (by decide +kernel) (h13 c1 c2 c3 c4 c5 c6 c7 c8 c9 c10 c11 c12 c13 c14)
      refine hsw_c (fun c15 => ?_) (fun c15 => ?_)
      · have c15 : x2 = 108 := c15
        refine hx_blk (npc := 220) (L' := [(0, .inr (.inl 44)), (1, .inr (.inl 31)), (2, .inl x2)]) (st' := [.inl (m 34 (m 44 9).toNat)]) (m' := m) [((211, .aload_n 1, 1, 0, 0, 0, 0), (0, 0, 0)), ((212, .getfield 112, 3, 2, 7, 1099, 0), (1, 31, 34)), ((215, .aload_n 0, 1, 0, 0, 0, 0), (0, 0, 0)), ((216, .getfield 71, 3, 3, 9, 1190, 0), (0, 44, 0)), ((219, .iaload, 1, 0, 0, 0, 0), (0, 34, 0))] (by decide +kernel) rfl ?_
        exact hx_reti (by decide +kernel) (h14 c1 c2 c3 c4 c5 c6 c7 c8 c9 c10 c11 c12 c13 c14 c15)
      refine hsw_c (fun c16 => ?_) (fun c16 => ?_)
      · have c16 : x2 = 109 := c16
        refine hx_blk (npc := 253) (L' := [(0, .inr (.inl 44)), (1, .inr (.inl 31)), (2, .inl x2)]) (st' := [.inl (m 36 (m 44 9).toNat)]) (m' := m) [((244, .aload_n 1, 1, 0, 0, 0, 0), (0, 0, 0)), ((245, .getfield 125, 3, 2, 9, 1107, 0), (1, 31, 36)), ((248, .aload_n 0, 1, 0, 0, 0, 0), (0, 0, 0)), ((249, .getfield 71, 3, 3, 9, 1190, 0), (0, 44, 0)), ((252, .iaload, 1, 0, 0, 0, 0), (0, 36, 0))] (by decide +kernel) rfl ?_
        exact hx_call (E := (253, .invokestatic 121, 3, 63, 0, 3154, 0)) (M' := yp_m63) [.inl (m 36 (m 44 9).toNat)] [] rfl (by decide +kernel) rfl ⟨rfl, rfl⟩ rfl rfl (hx_mono (h15 c1 c2 c3 c4 c5 c6 c7 c8 c9 c10 c11 c12 c13 c14 c15 c16) (fun r m' h' => hx_pick [] h'))
      refine hsw_c (fun c17 => ?_) (fun c17 => ?_)
      · have c17 : x2 = 110 := c17
        refine hx_blk (npc := 321) (L' := [(0, .inr (.inl 44)), (1, .inr (.inl 31)), (2, .inl x2)]) (st' := [.inl (m 44 11)]) (m' := m) [((317, .aload_n 0, 1, 0, 0, 0, 0), (0, 0, 0)), ((318, .getfield 77, 3, 3, 11, 1192, 0), (0, 44, 0))] (by decide +kernel) rfl ?_
        exact hx_reti (by decide +kernel) (h16 c1 c2 c3 c4 c5 c6 c7 c8 c9 c10 c11 c12 c13 c14 c15 c16 c17)
      refine hsw_c (fun c18 => ?_) (fun c18 => ?_)
      · have c18 : x2 = 111 := c18
        refine hx_blk (npc := 230) (L' := [(0, .inr (.inl 44)), (1, .inr (.inl 31)), (2, .inl x2)]) (st' := [.inl (m 38 (m 44 9).toNat)]) (m' := m) [((221, .aload_n 1, 1, 0, 0, 0, 0), (0, 0, 0)), ((222, .getfield 115, 3, 2, 11, 1118, 0), (1, 31, 38)), ((225, .aload_n 0, 1, 0, 0, 0, 0), (0, 0, 0)), ((226, .getfield 71, 3, 3, 9, 1190, 0), (0, 44, 0)), ((229, .iaload, 1, 0, 0, 0, 0), (0, 38, 0))] (by decide +kernel) rfl ?_
        exact hx_reti (by decide +kernel) (h17 c1 c2 c3 c4 c5 c6 c7 c8 c9 c10 c11 c12 c13 c14 c15 c16 c17 c18)
      refine hsw_c (fun c19 => ?_) (fun c19 => ?_)
      · have c19 : x2 = 112 := c19
        refine hx_blk (npc := 321) (L' := [(0, .inr (.inl 44)), (1, .inr (.inl 31)), (2, .inl x2)]) (st' := [.inl (m 44 11)]) (m' := m) [((317, .aload_n 0, 1, 0, 0, 0, 0), (0, 0, 0)), ((318, .getfield 77, 3, 3, 11, 1192, 0), (0, 44, 0))] (by decide +kernel) rfl ?_
        exact hx_reti (by decide +kernel) (h18 c1 c2 c3 c4 c5 c6 c7 c8 c9 c10 c11 c12 c13 c14 c15 c16 c17 c18 c19)
      refine hsw_c (fun c20 => ?_) (fun c20 => ?_)
      · have c20 : x2 = 113 := c20
        refine hx_blk (npc := 321) (L' := [(0, .inr (.inl 44)), (1, .inr (.inl 31)), (2, .inl x2)]) (st' := [.inl (m 44 11)]) (m' := m) [((317, .aload_n 0, 1, 0, 0, 0, 0), (0, 0, 0)), ((318, .getfield 77, 3, 3, 11, 1192, 0), (0, 44, 0))] (by decide +kernel) rfl ?_
        exact hx_reti (by decide +kernel) (h19 c1 c2 c3 c4 c5 c6 c7 c8 c9 c10 c11 c12 c13 c14 c15 c16 c17 c18 c19 c20)
      refine hsw_c (fun c21 => ?_) (fun c21 => ?_)
      · have c21 : x2 = 114 := c21
        refine hx_blk (npc := 321) (L' := [(0, .inr (.inl 44)), (1, .inr (.inl 31)), (2, .inl x2)]) (st' := [.inl (m 44 11)]) (m' := m) [((317, .aload_n 0, 1, 0, 0, 0, 0), (0, 0, 0)), ((318, .getfield 77, 3, 3, 11, 1192, 0), (0, 44, 0))] (by decide +kernel) rfl ?_
        exact hx_reti (by decide +kernel) (h20 c1 c2 c3 c4 c5 c6 c7 c8 c9 c10 c11 c12 c13 c14 c15 c16 c17 c18 c19 c20 c21)
      refine hsw_c (fun c22 => ?_) (fun c22 => ?_)
      · have c22 : x2 = 115 := c22
        refine hx_blk (npc := 240) (L' := [(0, .inr (.inl 44)), (1, .inr (.inl 31)), (2, .inl x2)]) (st' := [.inl (m 35 (m 44 9).toNat)]) (m' := m) [((231, .aload_n 1, 1, 0, 0, 0, 0), (0, 0, 0)), ((232, .getfield 118, 3, 2, 8, 1103, 0), (1, 31, 35)), ((235, .aload_n 0, 1, 0, 0, 0, 0), (0, 0, 0)), ((236, .getfield 71, 3, 3, 9, 1190, 0), (0, 44, 0)), ((239, .iaload, 1, 0, 0, 0, 0), (0, 35, 0))] (by decide +kernel) rfl ?_
        exact hx_call (E := (240, .invokestatic 121, 3, 63, 0, 3154, 0)) (M' := yp_m63) [.inl (m 35 (m 44 9).toNat)] [] rfl (by decide +kernel) rfl ⟨rfl, rfl⟩ rfl rfl (hx_mono (h21 c1 c2 c3 c4 c5 c6 c7 c8 c9 c10 c11 c12 c13 c14 c15 c16 c17 c18 c19 c20 c21 c22) (fun r m' h' => hx_pick [] h'))
      refine hsw_c (fun c23 => ?_) (fun c23 => ?_)
      · have c23 : x2 = 116 := c23
        refine hx_blk (npc := 321) (L' := [(0, .inr (.inl 44)), (1, .inr (.inl 31)), (2, .inl x2)]) (st' := [.inl (m 44 11)]) (m' := m) [((317, .aload_n 0, 1, 0, 0, 0, 0), (0, 0, 0)), ((318, .getfield 77, 3, 3, 11, 1192, 0), (0, 44, 0))] (by decide +kernel) rfl ?_
        exact hx_reti (by decide +kernel) (h22 c1 c2 c3 c4 c5 c6 c7 c8 c9 c10 c11 c12 c13 c14 c15 c16 c17 c18 c19 c20 c21 c22 c23)
      refine hsw_c (fun c24 => ?_) (fun c24 => ?_)
      · have c24 : x2 = 117 := c24
        refine hx_blk (npc := 321) (L' := [(0, .inr (.inl 44)), (1, .inr (.inl 31)), (2, .inl x2)]) (st' := [.inl (m 44 11)]) (m' := m) [((317, .aload_n 0, 1, 0, 0, 0, 0), (0, 0, 0)), ((318, .getfield 77, 3, 3, 11, 1192, 0), (0, 44, 0))] (by decide +kernel) rfl ?_
        exact hx_reti (by decide +kernel) (h23 c1 c2 c3 c4 c5 c6 c7 c8 c9 c10 c11 c12 c13 c14 c15 c16 c17 c18 c19 c20 c21 c22 c23 c24)
      refine hsw_c (fun c25 => ?_) (fun c25 => ?_)
      · have c25 : x2 = 118 := c25
        refine hx_blk (npc := 321) (L' := [(0, .inr (.inl 44)), (1, .inr (.inl 31)), (2, .inl x2)]) (st' := [.inl (m 44 11)]) (m' := m) [((317, .aload_n 0, 1, 0, 0, 0, 0), (0, 0, 0)), ((318, .getfield 77, 3, 3, 11, 1192, 0), (0, 44, 0))] (by decide +kernel) rfl ?_
        exact hx_reti (by decide +kernel) (h24 c1 c2 c3 c4 c5 c6 c7 c8 c9 c10 c11 c12 c13 c14 c15 c16 c17 c18 c19 c20 c21 c22 c23 c24 c25)
      refine hsw_c (fun c26 => ?_) (fun c26 => ?_)
      · have c26 : x2 = 119 := c26
        refine hx_blk (npc := 321) (L' := [(0, .inr (.inl 44)), (1, .inr (.inl 31)), (2, .inl x2)]) (st' := [.inl (m 44 11)]) (m' := m) [((317, .aload_n 0, 1, 0, 0, 0, 0), (0, 0, 0)), ((318, .getfield 77, 3, 3, 11, 1192, 0), (0, 44, 0))] (by decide +kernel) rfl ?_
        exact hx_reti (by decide +kernel) (h25 c1 c2 c3 c4 c5 c6 c7 c8 c9 c10 c11 c12 c13 c14 c15 c16 c17 c18 c19 c20 c21 c22 c23 c24 c25 c26)
      refine hsw_c (fun c27 => ?_) (fun c27 => ?_)
      · have c27 : x2 = 120 := c27
        refine hx_blk (npc := 321) (L' := [(0, .inr (.inl 44)), (1, .inr (.inl 31)), (2, .inl x2)]) (st' := [.inl (m 44 11)]) (m' := m) [((317, .aload_n 0, 1, 0, 0, 0, 0), (0, 0, 0)), ((318, .getfield 77, 3, 3, 11, 1192, 0), (0, 44, 0))] (by decide +kernel) rfl ?_
        exact hx_reti (by decide +kernel) (h26 c1 c2 c3 c4 c5 c6 c7 c8 c9 c10 c11 c12 c13 c14 c15 c16 c17 c18 c19 c20 c21 c22 c23 c24 c25 c26 c27)
      refine hsw_c (fun c28 => ?_) (fun c28 => ?_)
      · have c28 : x2 = 121 := c28
        refine hx_blk (npc := 200) (L' := [(0, .inr (.inl 44)), (1, .inr (.inl 31)), (2, .inl x2)]) (st' := [.inl (m 44 9)]) (m' := m) [((196, .aload_n 0, 1, 0, 0, 0, 0), (0, 0, 0)), ((197, .getfield 71, 3, 3, 9, 1190, 0), (0, 44, 0))] (by decide +kernel) rfl ?_
        exact hx_reti (by decide +kernel) (h27 c1 c2 c3 c4 c5 c6 c7 c8 c9 c10 c11 c12 c13 c14 c15 c16 c17 c18 c19 c20 c21 c22 c23 c24 c25 c26 c27 c28)
      refine hsw_n ?_
      refine hx_blk (npc := 321) (L' := [(0, .inr (.inl 44)), (1, .inr (.inl 31)), (2, .inl x2)]) (st' := [.inl (m 44 11)]) (m' := m) [((317, .aload_n 0, 1, 0, 0, 0, 0), (0, 0, 0)), ((318, .getfield 77, 3, 3, 11, 1192, 0), (0, 44, 0))] (by decide +kernel) rfl ?_
      exact hx_reti (by decide +kernel) (h28 c1 c2 c3 c4 c5 c6 c7 c8 c9 c10 c11 c12 c13 c14 c15 c16 c17 c18 c19 c20 c21 c22 c23 c24 c25 c26 c27 c28)
    · have c6 : 40 ≤ (m 44 9) := by have h : ¬ ((m 44 9) < 40) := c6; omega
      refine hx_blk (npc := 92) (L' := [(0, .inr (.inl 44)), (1, .inr (.inl 31)), (2, .inl x2)]) (st' := [.inl 0]) (m' := m) [((91, .iconst 0, 1, 0, 0, 0, 0), (0, 0, 0))] (by decide +kernel) rfl ?_
      exact hx_reti (by decide +kernel) (h29 c1 c2 c3 c4 c5 c6)

/-- letterIs from 62 on -/
theorem hr31_59_62 {xs : List Int32} {n : Nat} {Q : hQ} {m : gx_M} {s0 : Int}
    (h1 : hxn xs n yp_m61 0 [(0, .inr (.inr s0))] [] m (fun r m' => hxn xs n yp_m59 65 [] (hrs r ++ []) m' Q)) : hxn xs (n + 1) yp_m59 62 [] [.inr (.inr s0)] m Q := by
  exact hx_calls (E := (62, .invokestatic 100, 3, 61, 0, 3144, 0)) (M' := yp_m61) [.inr (.inr s0)] [] rfl (by decide +kernel) rfl ⟨rfl, rfl⟩ rfl rfl (hx_mono h1 (fun r m' h' => hx_pick [] h'))

/-- letterIs from 65 on -/
theorem hr31_59_65 {xs : List Int32} {n : Nat} {Q : hQ} {m : gx_M} {s0 : Int}
    (h1 : Q (some (.inl s0)) m) : hxn xs (n + 1) yp_m59 65 [] [.inl s0] m Q := by
  exact hx_reti (by decide +kernel) h1

/-- letterIs from 74 on -/
theorem hr31_59_74 {xs : List Int32} {n : Nat} {Q : hQ} {m : gx_M} {s0 : Int}
    (h1 : Q (some (.inl s0)) m) : hxn xs (n + 1) yp_m59 74 [] [.inl s0] m Q := by
  exact hx_reti (by decide +kernel) h1

/-- letterIs from 243 on -/
theorem hr31_59_243 {xs : List Int32} {n : Nat} {Q : hQ} {m : gx_M} {s0 : Int}
    (h1 : Q (some (.inl s0)) m) : hxn xs (n + 1) yp_m59 243 [] [.inl s0] m Q := by
  exact hx_reti (by decide +kernel) h1

/-- letterIs from 256 on -/
theorem hr31_59_256 {xs : List Int32} {n : Nat} {Q : hQ} {m : gx_M} {s0 : Int}
    (h1 : Q (some (.inl s0)) m) : hxn xs (n + 1) yp_m59 256 [] [.inl s0] m Q := by
  exact hx_reti (by decide +kernel) h1

/-- letterIs from 298 on -/
theorem hr31_59_298 {xs : List Int32} {n : Nat} {Q : hQ} {m : gx_M} {s0 s2 : Int}
    (h1 : hxn xs n yp_m64 0 [(0, .inr (.inl 31)), (1, .inr (.inr (hland s2 (hlxor (hlshl 1 (m 44 9)) (-1)))))] [] m (fun r m' => hxn xs n yp_m59 312 [] (hrs r ++ [.inl s0]) m' Q)) : hxn xs (n + 1) yp_m59 298 [(0, .inr (.inl 44))] [.inr (.inr s2), .inr (.inl 31), .inl s0] m Q := by
  refine hx_blks (npc := 309) (L' := [(0, .inr (.inl 44))]) (st' := [.inr (.inr (hland s2 (hlxor (hlshl 1 (m 44 9)) (-1)))), .inr (.inl 31), .inl s0]) (m' := m) ((298, .lconst 1, 1, 0, 0, 0, 0), (0, 0, 0)) [((299, .aload_n 0, 1, 0, 0, 0, 0), (0, 0, 0)), ((300, .getfield 71, 3, 3, 9, 1190, 0), (0, 44, 0)), ((303, .lshl, 1, 0, 0, 0, 0), (0, 0, 0)), ((304, .ldc2_w 135, 3, 0, 0, 3160, (-1)), (0, 0, 0)), ((307, .lxor, 1, 0, 0, 0, 0), (0, 0, 0)), ((308, .land, 1, 0, 0, 0, 0), (0, 0, 0))] (by decide +kernel) rfl ?_
  exact hx_call (E := (309, .invokevirtual 137, 3, 64, 0, 3161, 0)) (M' := yp_m64) [.inr (.inl 31), .inr (.inr (hland s2 (hlxor (hlshl 1 (m 44 9)) (-1))))] [.inl s0] rfl (by decide +kernel) rfl ⟨rfl, rfl⟩ rfl rfl (hx_mono h1 (fun r m' h' => hx_pick [] h'))

/-- letterIs from 312 on -/
theorem hr31_59_312 {xs : List Int32} {n : Nat} {Q : hQ} {m : gx_M} {s0 s1 : Int}
    (h1 : hxn xs n yp_m63 0 [(0, .inl (gx_and s0 s1))] [] m (fun r m' => hxn xs n yp_m59 316 [] (hrs r ++ []) m' Q)) : hxn xs (n + 1) yp_m59 312 [] [.inl s1, .inl s0] m Q := by
  refine hx_blks (npc := 313) (L' := []) (st' := [.inl (gx_and s0 s1)]) (m' := m) ((312, .iand, 1, 0, 0, 0, 0), (0, 0, 0)) [] (by decide +kernel) rfl ?_
  exact hx_call (E := (313, .invokestatic 121, 3, 63, 0, 3154, 0)) (M' := yp_m63) [.inl (gx_and s0 s1)] [] rfl (by decide +kernel) rfl ⟨rfl, rfl⟩ rfl rfl (hx_mono h1 (fun r m' h' => hx_pick [] h'))

/-- letterIs from 316 on -/
theorem hr31_59_316 {xs : List Int32} {n : Nat} {Q : hQ} {m : gx_M} {s0 : Int}
    (h1 : Q (some (.inl s0)) m) : hxn xs (n + 1) yp_m59 316 [] [.inl s0] m Q := by
  exact hx_reti (by decide +kernel) h1

/-- clauseThatHolds from 0 on -/
theorem hr57_0 {xs : List Int32} {n : Nat} {Q : hQ} {m : gx_M} {b : Nat} {x2 : Int}
    (h1 : hxn xs n yp_m57 2 [(0, .inr (.inl 44)), (1, .inr (.inl b)), (2, .inl x2), (3, .inl 0)] [] m Q) : hxn xs (n + 1) yp_m57 0 [(0, .inr (.inl 44)), (1, .inr (.inl b)), (2, .inl x2)] [] m Q := by
  refine hx_blks (npc := 2) (L' := [(0, .inr (.inl 44)), (1, .inr (.inl b)), (2, .inl x2), (3, .inl 0)]) (st' := []) (m' := m) ((0, .iconst 0, 1, 0, 0, 0, 0), (0, 0, 0)) [((1, .istore_n 3, 1, 0, 0, 0, 0), (0, 0, 0))] (by decide +kernel) rfl ?_
  exact hx_pick [0, 1, 2, 3] h1

/-- clauseThatHolds from 2 on -/
theorem hr57_2 {xs : List Int32} {n : Nat} {Q : hQ} {m : gx_M} {b : Nat} {x2 x3 : Int}
    (h1 : ((m 44 7) ≤ x3) → Q (some (.inl (-1))) m)
    (h2 : (x3 < (m 44 7)) → (16 ≤ x3) → Q (some (.inl (-1))) m)
    (h3 : (x3 < (m 44 7)) → (x3 < 16) → ((m 47 (x3).toNat) ≠ x2) → hxn xs n yp_m57 2 [(0, .inr (.inl 44)), (1, .inr (.inl b)), (2, .inl x2), (3, .inl (gx_w (x3 + 1)))] [] m Q)
    (h4 : (x3 < (m 44 7)) → (x3 < 16) → ((m 47 (x3).toNat) = x2) → hxn xs n yp_m58 0 [(0, .inr (.inl 44)), (1, .inr (.inl b)), (2, .inl (m 49 (x3).toNat)), (3, .inl (m 50 (x3).toNat))] [] m (fun r m' => hxn xs n yp_m57 43 [(0, .inr (.inl 44)), (1, .inr (.inl b)), (2, .inl x2), (3, .inl x3)] (hrs r ++ []) m' Q)) : hxn xs (n + 1) yp_m57 2 [(0, .inr (.inl 44)), (1, .inr (.inl b)), (2, .inl x2), (3, .inl x3)] [] m Q := by
  refine hx_blks (npc := 7) (L' := [(0, .inr (.inl 44)), (1, .inr (.inl b)), (2, .inl x2), (3, .inl x3)]) (st' := [.inl (m 44 7), .inl x3]) (m' := m) ((2, .iload_n 3, 1, 0, 0, 0, 0), (0, 0, 0)) [((3, .aload_n 0, 1, 0, 0, 0, 0), (0, 0, 0)), ((4, .getfield 39, 3, 3, 7, 1187, 0), (0, 44, 0))] (by decide +kernel) rfl ?_
  refine hx_cmp .ge 54 (by decide +kernel) (fun c1 => ?_) (fun c1 => ?_)
  · have c1 : (m 44 7) ≤ x3 := c1
    refine hx_blk (npc := 55) (L' := [(0, .inr (.inl 44)), (1, .inr (.inl b)), (2, .inl x2), (3, .inl x3)]) (st' := [.inl (-1)]) (m' := m) [((54, .iconst (-1), 1, 0, 0, 0, 0), (0, 0, 0))] (by decide +kernel) rfl ?_
    exact hx_reti (by decide +kernel) (h1 c1)
  · have c1 : x3 < (m 44 7) := by have h : ¬ ((m 44 7) ≤ x3) := c1; omega
    refine hx_blk (npc := 13) (L' := [(0, .inr (.inl 44)), (1, .inr (.inl b)), (2, .inl x2), (3, .inl x3)]) (st' := [.inl 16, .inl x3]) (m' := m) [((10, .iload_n 3, 1, 0, 0, 0, 0), (0, 0, 0)), ((11, .bipush 16, 2, 0, 0, 0, 0), (0, 0, 0))] (by decide +kernel) rfl ?_
    refine hx_cmp .ge 54 (by decide +kernel) (fun c2 => ?_) (fun c2 => ?_)
    · have c2 : 16 ≤ x3 := c2
      refine hx_blk (npc := 55) (L' := [(0, .inr (.inl 44)), (1, .inr (.inl b)), (2, .inl x2), (3, .inl x3)]) (st' := [.inl (-1)]) (m' := m) [((54, .iconst (-1), 1, 0, 0, 0, 0), (0, 0, 0))] (by decide +kernel) rfl ?_
      exact hx_reti (by decide +kernel) (h2 c1 c2)
    · have c2 : x3 < 16 := by have h : ¬ (16 ≤ x3) := c2; omega
      refine hx_blk (npc := 23) (L' := [(0, .inr (.inl 44)), (1, .inr (.inl b)), (2, .inl x2), (3, .inl x3)]) (st' := [.inl x2, .inl (m 47 (x3).toNat)]) (m' := m) [((16, .aload_n 0, 1, 0, 0, 0, 0), (0, 0, 0)), ((17, .getfield 18, 3, 3, 3, 1182, 0), (1, 44, 47)), ((20, .iload_n 3, 1, 0, 0, 0, 0), (0, 0, 0)), ((21, .iaload, 1, 0, 0, 0, 0), (0, 47, 0)), ((22, .iload_n 2, 1, 0, 0, 0, 0), (0, 0, 0))] (by decide +kernel) rfl ?_
      refine hx_cmp .ne 48 (by decide +kernel) (fun c3 => ?_) (fun c3 => ?_)
      · have c3 : (m 47 (x3).toNat) ≠ x2 := c3
        refine hx_blk (npc := 2) (L' := [(0, .inr (.inl 44)), (1, .inr (.inl b)), (2, .inl x2), (3, .inl (gx_w (x3 + 1)))]) (st' := []) (m' := m) [((48, .iinc 3 1, 3, 0, 0, 0, 0), (0, 0, 0)), ((51, .goto (-49), 3, 0, 0, 0, 0), (0, 0, 0))] (by decide +kernel) rfl ?_
        exact hx_pick [0, 1, 2, 3] (h3 c1 c2 c3)
      · have c3 : (m 47 (x3).toNat) = x2 := by have h : ¬ ((m 47 (x3).toNat) ≠ x2) := c3; omega
        refine hx_blk (npc := 40) (L' := [(0, .inr (.inl 44)), (1, .inr (.inl b)), (2, .inl x2), (3, .inl x3)]) (st' := [.inl (m 50 (x3).toNat), .inl (m 49 (x3).toNat), .inr (.inl b), .inr (.inl 44)]) (m' := m) [((26, .aload_n 0, 1, 0, 0, 0, 0), (0, 0, 0)), ((27, .aload_n 1, 1, 0, 0, 0, 0), (0, 0, 0)), ((28, .aload_n 0, 1, 0, 0, 0, 0), (0, 0, 0)), ((29, .getfield 24, 3, 3, 5, 1184, 0), (1, 44, 49)), ((32, .iload_n 3, 1, 0, 0, 0, 0), (0, 0, 0)), ((33, .iaload, 1, 0, 0, 0, 0), (0, 49, 0)), ((34, .aload_n 0, 1, 0, 0, 0, 0), (0, 0, 0)), ((35, .getfield 27, 3, 3, 6, 1185, 0), (1, 44, 50)), ((38, .iload_n 3, 1, 0, 0, 0, 0), (0, 0, 0)), ((39, .iaload, 1, 0, 0, 0, 0), (0, 50, 0))] (by decide +kernel) rfl ?_
        exact hx_call (E := (40, .invokevirtual 58, 3, 58, 0, 3131, 0)) (M' := yp_m58) [.inr (.inl 44), .inr (.inl b), .inl (m 49 (x3).toNat), .inl (m 50 (x3).toNat)] [] rfl (by decide +kernel) rfl ⟨rfl, rfl⟩ rfl rfl (hx_mono (h4 c1 c2 c3) (fun r m' h' => hx_pick [0, 1, 2, 3] h'))

/-- clauseThatHolds from 43 on -/
theorem hr57_43 {xs : List Int32} {n : Nat} {Q : hQ} {m : gx_M} {b : Nat} {x2 x3 s0 : Int}
    (h1 : (s0 = 0) → hxn xs n yp_m57 2 [(0, .inr (.inl 44)), (1, .inr (.inl b)), (2, .inl x2), (3, .inl (gx_w (x3 + 1)))] [] m Q)
    (h2 : (s0 ≠ 0) → Q (some (.inl x3)) m) : hxn xs (n + 1) yp_m57 43 [(0, .inr (.inl 44)), (1, .inr (.inl b)), (2, .inl x2), (3, .inl x3)] [.inl s0] m Q := by
  refine hx_ifs .eq 48 (by decide +kernel) (fun c1 => ?_) (fun c1 => ?_)
  · have c1 : s0 = 0 := c1
    refine hx_blk (npc := 2) (L' := [(0, .inr (.inl 44)), (1, .inr (.inl b)), (2, .inl x2), (3, .inl (gx_w (x3 + 1)))]) (st' := []) (m' := m) [((48, .iinc 3 1, 3, 0, 0, 0, 0), (0, 0, 0)), ((51, .goto (-49), 3, 0, 0, 0, 0), (0, 0, 0))] (by decide +kernel) rfl ?_
    exact hx_pick [0, 1, 2, 3] (h1 c1)
  · have c1 : s0 ≠ 0 := c1
    refine hx_blk (npc := 47) (L' := [(0, .inr (.inl 44)), (1, .inr (.inl b)), (2, .inl x2), (3, .inl x3)]) (st' := [.inl x3]) (m' := m) [((46, .iload_n 3, 1, 0, 0, 0, 0), (0, 0, 0))] (by decide +kernel) rfl ?_
    exact hx_reti (by decide +kernel) (h2 c1)

/-- forbids from 0 on -/
theorem hr55_0 {xs : List Int32} {n : Nat} {Q : hQ} {m : gx_M} {b : Nat} {x2 x3 x4 : Int}
    (h1 : hxn xs n yp_m56 0 [(0, .inr (.inl 44)), (1, .inl x2), (2, .inl x3), (3, .inl x4)] [] m (fun r m' => hxn xs n yp_m55 8 [(0, .inr (.inl 44)), (1, .inr (.inl b))] (hrs r ++ []) m' Q)) : hxn xs (n + 1) yp_m55 0 [(0, .inr (.inl 44)), (1, .inr (.inl b)), (2, .inl x2), (3, .inl x3), (4, .inl x4)] [] m Q := by
  refine hx_blks (npc := 5) (L' := [(0, .inr (.inl 44)), (1, .inr (.inl b)), (2, .inl x2), (3, .inl x3), (4, .inl x4)]) (st' := [.inl x4, .inl x3, .inl x2, .inr (.inl 44)]) (m' := m) ((0, .aload_n 0, 1, 0, 0, 0, 0), (0, 0, 0)) [((1, .iload_n 2, 1, 0, 0, 0, 0), (0, 0, 0)), ((2, .iload_n 3, 1, 0, 0, 0, 0), (0, 0, 0)), ((3, .iload 4, 2, 0, 0, 0, 0), (0, 0, 0))] (by decide +kernel) rfl ?_
  exact hx_call (E := (5, .invokevirtual 46, 3, 56, 0, 3123, 0)) (M' := yp_m56) [.inr (.inl 44), .inl x2, .inl x3, .inl x4] [] rfl (by decide +kernel) rfl ⟨rfl, rfl⟩ rfl rfl (hx_mono h1 (fun r m' h' => hx_pick [0, 1] h'))

/-- forbids from 8 on -/
theorem hr55_8 {xs : List Int32} {n : Nat} {Q : hQ} {m : gx_M} {b : Nat}
    (h1 : hxn xs n yp_m57 0 [(0, .inr (.inl 44)), (1, .inr (.inl b)), (2, .inl 110)] [] m (fun r m' => hxn xs n yp_m55 15 [] (hrs r ++ []) m' Q)) : hxn xs (n + 1) yp_m55 8 [(0, .inr (.inl 44)), (1, .inr (.inl b))] [] m Q := by
  refine hx_blks (npc := 12) (L' := [(0, .inr (.inl 44)), (1, .inr (.inl b))]) (st' := [.inl 110, .inr (.inl b), .inr (.inl 44)]) (m' := m) ((8, .aload_n 0, 1, 0, 0, 0, 0), (0, 0, 0)) [((9, .aload_n 1, 1, 0, 0, 0, 0), (0, 0, 0)), ((10, .bipush 110, 2, 0, 0, 0, 0), (0, 0, 0))] (by decide +kernel) rfl ?_
  exact hx_call (E := (12, .invokevirtual 50, 3, 57, 0, 3127, 0)) (M' := yp_m57) [.inr (.inl 44), .inr (.inl b), .inl 110] [] rfl (by decide +kernel) rfl ⟨rfl, rfl⟩ rfl rfl (hx_mono h1 (fun r m' h' => hx_pick [] h'))

/-- forbids from 15 on -/
theorem hr55_15 {xs : List Int32} {n : Nat} {Q : hQ} {m : gx_M} {b : Nat} {s0 : Int}
    (h1 : (s0 = (-1)) → Q (some (.inl 0)) m)
    (h2 : (s0 ≠ (-1)) → Q (some (.inl 1)) m) : hxn xs (n + 1) yp_m55 15 [] [.inl s0] m Q := by
  refine hx_blks (npc := 16) (L' := []) (st' := [.inl (-1), .inl s0]) (m' := m) ((15, .iconst (-1), 1, 0, 0, 0, 0), (0, 0, 0)) [] (by decide +kernel) rfl ?_
  refine hx_cmp .eq 23 (by decide +kernel) (fun c1 => ?_) (fun c1 => ?_)
  · have c1 : s0 = (-1) := c1
    refine hx_blk (npc := 24) (L' := []) (st' := [.inl 0]) (m' := m) [((23, .iconst 0, 1, 0, 0, 0, 0), (0, 0, 0))] (by decide +kernel) rfl ?_
    exact hx_reti (by decide +kernel) (h1 c1)
  · have c1 : s0 ≠ (-1) := c1
    refine hx_blk (npc := 24) (L' := []) (st' := [.inl 1]) (m' := m) [((19, .iconst 1, 1, 0, 0, 0, 0), (0, 0, 0)), ((20, .goto 4, 3, 0, 0, 0, 0), (0, 0, 0))] (by decide +kernel) rfl ?_
    exact hx_reti (by decide +kernel) (h2 c1)

/-- amount from 0 on -/
theorem hr82_0 {xs : List Int32} {n : Nat} {Q : hQ} {m : gx_M} {b : Nat} {x2 x3 x4 x5 : Int}
    (h1 : hxn xs n yp_m56 0 [(0, .inr (.inl 44)), (1, .inl x3), (2, .inl x4), (3, .inl x5)] [] m (fun r m' => hxn xs n yp_m82 9 [(0, .inr (.inl 44)), (1, .inr (.inl b)), (2, .inl x2)] (hrs r ++ []) m' Q)) : hxn xs (n + 1) yp_m82 0 [(0, .inr (.inl 44)), (1, .inr (.inl b)), (2, .inl x2), (3, .inl x3), (4, .inl x4), (5, .inl x5)] [] m Q := by
  refine hx_blks (npc := 6) (L' := [(0, .inr (.inl 44)), (1, .inr (.inl b)), (2, .inl x2), (3, .inl x3), (4, .inl x4), (5, .inl x5)]) (st' := [.inl x5, .inl x4, .inl x3, .inr (.inl 44)]) (m' := m) ((0, .aload_n 0, 1, 0, 0, 0, 0), (0, 0, 0)) [((1, .iload_n 3, 1, 0, 0, 0, 0), (0, 0, 0)), ((2, .iload 4, 2, 0, 0, 0, 0), (0, 0, 0)), ((4, .iload 5, 2, 0, 0, 0, 0), (0, 0, 0))] (by decide +kernel) rfl ?_
  exact hx_call (E := (6, .invokevirtual 46, 3, 56, 0, 3123, 0)) (M' := yp_m56) [.inr (.inl 44), .inl x3, .inl x4, .inl x5] [] rfl (by decide +kernel) rfl ⟨rfl, rfl⟩ rfl rfl (hx_mono h1 (fun r m' h' => hx_pick [0, 1, 2] h'))

/-- amount from 9 on -/
theorem hr82_9 {xs : List Int32} {n : Nat} {Q : hQ} {m : gx_M} {b : Nat} {x2 : Int}
    (h1 : hxn xs n yp_m57 0 [(0, .inr (.inl 44)), (1, .inr (.inl b)), (2, .inl x2)] [] m (fun r m' => hxn xs n yp_m82 15 [(0, .inr (.inl 44)), (1, .inr (.inl b)), (2, .inl x2)] (hrs r ++ []) m' Q)) : hxn xs (n + 1) yp_m82 9 [(0, .inr (.inl 44)), (1, .inr (.inl b)), (2, .inl x2)] [] m Q := by
  refine hx_blks (npc := 12) (L' := [(0, .inr (.inl 44)), (1, .inr (.inl b)), (2, .inl x2)]) (st' := [.inl x2, .inr (.inl b), .inr (.inl 44)]) (m' := m) ((9, .aload_n 0, 1, 0, 0, 0, 0), (0, 0, 0)) [((10, .aload_n 1, 1, 0, 0, 0, 0), (0, 0, 0)), ((11, .iload_n 2, 1, 0, 0, 0, 0), (0, 0, 0))] (by decide +kernel) rfl ?_
  exact hx_call (E := (12, .invokevirtual 50, 3, 57, 0, 3127, 0)) (M' := yp_m57) [.inr (.inl 44), .inr (.inl b), .inl x2] [] rfl (by decide +kernel) rfl ⟨rfl, rfl⟩ rfl rfl (hx_mono h1 (fun r m' h' => hx_pick [0, 1, 2] h'))

/-- amount from 15 on -/
theorem hr82_15 {xs : List Int32} {n : Nat} {Q : hQ} {m : gx_M} {b : Nat} {x2 s0 : Int}
    (h1 : (s0 < 0) → Q (some (.inl 0)) m)
    (h2 : (0 ≤ s0) → (s0 < 16) → hxn xs n yp_m83 0 [(0, .inl x2)] [] m (fun r m' => hxn xs n yp_m82 36 [(0, .inr (.inl 44)), (1, .inr (.inl b)), (6, .inl s0)] (hrs r ++ [.inl 0]) m' Q))
    (h3 : (0 ≤ s0) → (16 ≤ s0) → Q (some (.inl 0)) m) : hxn xs (n + 1) yp_m82 15 [(0, .inr (.inl 44)), (1, .inr (.inl b)), (2, .inl x2)] [.inl s0] m Q := by
  refine hx_blks (npc := 19) (L' := [(0, .inr (.inl 44)), (1, .inr (.inl b)), (2, .inl x2), (6, .inl s0)]) (st' := [.inl s0]) (m' := m) ((15, .istore 6, 2, 0, 0, 0, 0), (0, 0, 0)) [((17, .iload 6, 2, 0, 0, 0, 0), (0, 0, 0))] (by decide +kernel) rfl ?_
  refine hx_if .lt 29 (by decide +kernel) (fun c1 => ?_) (fun c1 => ?_)
  · have c1 : s0 < 0 := c1
    refine hx_blk (npc := 30) (L' := [(0, .inr (.inl 44)), (1, .inr (.inl b)), (2, .inl x2), (6, .inl s0)]) (st' := [.inl 0]) (m' := m) [((29, .iconst 0, 1, 0, 0, 0, 0), (0, 0, 0))] (by decide +kernel) rfl ?_
    exact hx_reti (by decide +kernel) (h1 c1)
  · have c1 : 0 ≤ s0 := by have h : ¬ (s0 < 0) := c1; omega
    refine hx_blk (npc := 26) (L' := [(0, .inr (.inl 44)), (1, .inr (.inl b)), (2, .inl x2), (6, .inl s0)]) (st' := [.inl 16, .inl s0]) (m' := m) [((22, .iload 6, 2, 0, 0, 0, 0), (0, 0, 0)), ((24, .bipush 16, 2, 0, 0, 0, 0), (0, 0, 0))] (by decide +kernel) rfl ?_
    refine hx_cmp .lt 31 (by decide +kernel) (fun c2 => ?_) (fun c2 => ?_)
    · have c2 : s0 < 16 := c2
      refine hx_blk (npc := 33) (L' := [(0, .inr (.inl 44)), (1, .inr (.inl b)), (2, .inl x2), (6, .inl s0)]) (st' := [.inl x2, .inl 0]) (m' := m) [((31, .iconst 0, 1, 0, 0, 0, 0), (0, 0, 0)), ((32, .iload_n 2, 1, 0, 0, 0, 0), (0, 0, 0))] (by decide +kernel) rfl ?_
      exact hx_call (E := (33, .invokestatic 54, 3, 83, 0, 4007, 0)) (M' := yp_m83) [.inl x2] [.inl 0] rfl (by decide +kernel) rfl ⟨rfl, rfl⟩ rfl rfl (hx_mono (h2 c1 c2) (fun r m' h' => hx_pick [0, 1, 6] h'))
    · have c2 : 16 ≤ s0 := by have h : ¬ (s0 < 16) := c2; omega
      refine hx_blk (npc := 30) (L' := [(0, .inr (.inl 44)), (1, .inr (.inl b)), (2, .inl x2), (6, .inl s0)]) (st' := [.inl 0]) (m' := m) [((29, .iconst 0, 1, 0, 0, 0, 0), (0, 0, 0))] (by decide +kernel) rfl ?_
      exact hx_reti (by decide +kernel) (h3 c1 c2)

/-- amount from 36 on -/
theorem hr82_36 {xs : List Int32} {n : Nat} {Q : hQ} {m : gx_M} {b : Nat} {x6 s0 s1 : Int}
    (h1 : hxn xs n yp_m58 0 [(0, .inr (.inl 44)), (1, .inr (.inl b)), (2, .inl (m 48 (x6).toNat)), (3, .inl (m 49 (x6).toNat))] [] m (fun r m' => hxn xs n yp_m82 55 [] (hrs r ++ [.inl s1, .inl s0]) m' Q)) : hxn xs (n + 1) yp_m82 36 [(0, .inr (.inl 44)), (1, .inr (.inl b)), (6, .inl x6)] [.inl s1, .inl s0] m Q := by
  refine hx_blks (npc := 52) (L' := [(0, .inr (.inl 44)), (1, .inr (.inl b)), (6, .inl x6)]) (st' := [.inl (m 49 (x6).toNat), .inl (m 48 (x6).toNat), .inr (.inl b), .inr (.inl 44), .inl s1, .inl s0]) (m' := m) ((36, .aload_n 0, 1, 0, 0, 0, 0), (0, 0, 0)) [((37, .aload_n 1, 1, 0, 0, 0, 0), (0, 0, 0)), ((38, .aload_n 0, 1, 0, 0, 0, 0), (0, 0, 0)), ((39, .getfield 21, 3, 3, 4, 1183, 0), (1, 44, 48)), ((42, .iload 6, 2, 0, 0, 0, 0), (0, 0, 0)), ((44, .iaload, 1, 0, 0, 0, 0), (0, 48, 0)), ((45, .aload_n 0, 1, 0, 0, 0, 0), (0, 0, 0)), ((46, .getfield 24, 3, 3, 5, 1184, 0), (1, 44, 49)), ((49, .iload 6, 2, 0, 0, 0, 0), (0, 0, 0)), ((51, .iaload, 1, 0, 0, 0, 0), (0, 49, 0))] (by decide +kernel) rfl ?_
  exact hx_call (E := (52, .invokevirtual 58, 3, 58, 0, 3131, 0)) (M' := yp_m58) [.inr (.inl 44), .inr (.inl b), .inl (m 48 (x6).toNat), .inl (m 49 (x6).toNat)] [.inl s1, .inl s0] rfl (by decide +kernel) rfl ⟨rfl, rfl⟩ rfl rfl (hx_mono h1 (fun r m' h' => hx_pick [] h'))

/-- amount from 55 on -/
theorem hr82_55 {xs : List Int32} {n : Nat} {Q : hQ} {m : gx_M} {b : Nat} {s0 s1 s2 : Int}
    (h1 : Q (some (.inl (if s0 < (if s2 < s1 then s2 else s1) then (if s2 < s1 then s2 else s1) else s0))) m) : hxn xs (n + 1) yp_m82 55 [] [.inl s2, .inl s1, .inl s0] m Q := by
  refine hx_blks (npc := 61) (L' := []) (st' := [.inl (if s0 < (if s2 < s1 then s2 else s1) then (if s2 < s1 then s2 else s1) else s0)]) (m' := m) ((55, .invokestatic 62, 3, 1003, 2221, 4010, 1013002222), (0, 0, 0)) [((58, .invokestatic 68, 3, 1002, 2224, 3135, 1013002225), (0, 0, 0))] (by decide +kernel) rfl ?_
  exact hx_reti (by decide +kernel) h1

/-- ask from 0 on -/
theorem hr56_0 {xs : List Int32} {n : Nat} {Q : hQ} {m : gx_M} {x1 x2 x3 : Int}
    (h1 : Q none (gx_u (gx_u (gx_u m 44 9 x1) 44 10 x2) 44 11 x3)) : hxn xs (n + 1) yp_m56 0 [(0, .inr (.inl 44)), (1, .inl x1), (2, .inl x2), (3, .inl x3)] [] m Q := by
  refine hx_blks (npc := 15) (L' := [(0, .inr (.inl 44)), (1, .inl x1), (2, .inl x2), (3, .inl x3)]) (st' := []) (m' := (gx_u (gx_u (gx_u m 44 9 x1) 44 10 x2) 44 11 x3)) ((0, .aload_n 0, 1, 0, 0, 0, 0), (0, 0, 0)) [((1, .iload_n 1, 1, 0, 0, 0, 0), (0, 0, 0)), ((2, .putfield 71, 3, 3, 9, 1190, 0), (0, 44, 0)), ((5, .aload_n 0, 1, 0, 0, 0, 0), (0, 0, 0)), ((6, .iload_n 2, 1, 0, 0, 0, 0), (0, 0, 0)), ((7, .putfield 74, 3, 3, 10, 1191, 0), (0, 44, 0)), ((10, .aload_n 0, 1, 0, 0, 0, 0), (0, 0, 0)), ((11, .iload_n 3, 1, 0, 0, 0, 0), (0, 0, 0)), ((12, .putfield 77, 3, 3, 11, 1192, 0), (0, 44, 0))] (by decide +kernel) rfl ?_
  exact hx_ret0 (by decide +kernel) h1

/-- most from 0 on -/
theorem hr83_0 {xs : List Int32} {n : Nat} {Q : hQ} {m : gx_M} {x0 : Int}
    (h1 : (x0 = 102) → Q (some (.inl 10)) m)
    (h2 : (x0 ≠ 102) → (x0 = 105) → Q (some (.inl 99)) m)
    (h3 : (x0 ≠ 102) → (x0 ≠ 105) → Q (some (.inl 999)) m) : hxn xs (n + 1) yp_m83 0 [(0, .inl x0)] [] m Q := by
  refine hx_blks (npc := 1) (L' := [(0, .inl x0)]) (st' := [.inl x0]) (m' := m) ((0, .iload_n 0, 1, 0, 0, 0, 0), (0, 0, 0)) [] (by decide +kernel) rfl ?_
  refine hx_lsw 34 [(102, 31), (105, 28)] (by decide +kernel) ?_
  refine hsw_c (fun c1 => ?_) (fun c1 => ?_)
  · have c1 : x0 = 102 := c1
    refine hx_blk (npc := 33) (L' := [(0, .inl x0)]) (st' := [.inl 10]) (m' := m) [((31, .bipush 10, 2, 0, 0, 0, 0), (0, 0, 0))] (by decide +kernel) rfl ?_
    exact hx_reti (by decide +kernel) (h1 c1)
  refine hsw_c (fun c2 => ?_) (fun c2 => ?_)
  · have c2 : x0 = 105 := c2
    refine hx_blk (npc := 30) (L' := [(0, .inl x0)]) (st' := [.inl 99]) (m' := m) [((28, .bipush 99, 2, 0, 0, 0, 0), (0, 0, 0))] (by decide +kernel) rfl ?_
    exact hx_reti (by decide +kernel) (h2 c1 c2)
  refine hsw_n ?_
  refine hx_blk (npc := 37) (L' := [(0, .inl x0)]) (st' := [.inl 999]) (m' := m) [((34, .sipush 999, 3, 0, 0, 0, 0), (0, 0, 0))] (by decide +kernel) rfl ?_
  exact hx_reti (by decide +kernel) (h3 c1 c2)

