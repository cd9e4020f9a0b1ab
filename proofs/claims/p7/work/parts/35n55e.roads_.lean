section
/-! what a letter stands for, clauses that hold: roads of the class -/
/-- owned from 0 on -/
theorem hr60_0 {xs : List Int32} {n : Nat} {Q : hQ} {m : gx_M} {x1 : Int}
    (h1 : hxn xs n yp_m60 5 [(0, .inr (.inl 5)), (1, .inl x1), (2, .inr (.inr 0)), (4, .inl 0)] [] m Q) : hxn xs (n + 1) yp_m60 0 [(0, .inr (.inl 5)), (1, .inl x1)] [] m Q := by
  refine hx_blks (npc := 5) (L' := [(0, .inr (.inl 5)), (1, .inl x1), (2, .inr (.inr 0)), (4, .inl 0)]) (st' := []) (m' := m) ((0, .lconst 0, 1, 0, 0, 0, 0), (0, 0, 0)) [((1, .lstore_n 2, 1, 0, 0, 0, 0), (0, 0, 0)), ((2, .iconst 0, 1, 0, 0, 0, 0), (0, 0, 0)), ((3, .istore 4, 2, 0, 0, 0, 0), (0, 0, 0))] (by decide +kernel) rfl ?_
  exact hx_pick [0, 1, 2, 4] h1

/-- owned from 5 on -/
theorem hr60_5 {xs : List Int32} {n : Nat} {Q : hQ} {m : gx_M} {x1 x2 x4 : Int}
    (h1 : (40 ≤ x4) → Q (some (.inr (.inr x2))) m)
    (h2 : (x4 < 40) → ((hlcmp (hland (hlushr (m 5 1) x4) 1) 0) = 0) → hxn xs n yp_m60 5 [(0, .inr (.inl 5)), (1, .inl x1), (2, .inr (.inr x2)), (4, .inl (gx_w (x4 + 1)))] [] m Q)
    (h3 : (x4 < 40) → ((hlcmp (hland (hlushr (m 5 1) x4) 1) 0) ≠ 0) → ((m 12 (x4).toNat) ≠ x1) → hxn xs n yp_m60 5 [(0, .inr (.inl 5)), (1, .inl x1), (2, .inr (.inr x2)), (4, .inl (gx_w (x4 + 1)))] [] m Q)
    (h4 : (x4 < 40) → ((hlcmp (hland (hlushr (m 5 1) x4) 1) 0) ≠ 0) → ((m 12 (x4).toNat) = x1) → hxn xs n yp_m60 5 [(0, .inr (.inl 5)), (1, .inl x1), (2, .inr (.inr (hlor x2 (hlshl 1 x4)))), (4, .inl (gx_w (x4 + 1)))] [] m Q) : hxn xs (n + 1) yp_m60 5 [(0, .inr (.inl 5)), (1, .inl x1), (2, .inr (.inr x2)), (4, .inl x4)] [] m Q := by
  refine hx_blks (npc := 9) (L' := [(0, .inr (.inl 5)), (1, .inl x1), (2, .inr (.inr x2)), (4, .inl x4)]) (st' := [.inl 40, .inl x4]) (m' := m) ((5, .iload 4, 2, 0, 0, 0, 0), (0, 0, 0)) [((7, .bipush 40, 2, 0, 0, 0, 0), (0, 0, 0))] (by decide +kernel) rfl ?_
  refine hx_cmp .ge 50 (by decide +kernel) (fun c1 => ?_) (fun c1 => ?_)
  · have c1 : 40 ≤ x4 := c1
    refine hx_blk (npc := 51) (L' := [(0, .inr (.inl 5)), (1, .inl x1), (2, .inr (.inr x2)), (4, .inl x4)]) (st' := [.inr (.inr x2)]) (m' := m) [((50, .lload_n 2, 1, 0, 0, 0, 0), (0, 0, 0))] (by decide +kernel) rfl ?_
    exact hx_retl (by decide +kernel) (h1 c1)
  · have c1 : x4 < 40 := by have h : ¬ (40 ≤ x4) := c1; omega
    refine hx_blk (npc := 23) (L' := [(0, .inr (.inl 5)), (1, .inl x1), (2, .inr (.inr x2)), (4, .inl x4)]) (st' := [.inl (hlcmp (hland (hlushr (m 5 1) x4) 1) 0)]) (m' := m) [((12, .aload_n 0, 1, 0, 0, 0, 0), (0, 0, 0)), ((13, .getfield 55, 3, 2, 1, 1078, 0), (2, 5, 0)), ((16, .iload 4, 2, 0, 0, 0, 0), (0, 0, 0)), ((18, .lushr, 1, 0, 0, 0, 0), (0, 0, 0)), ((19, .lconst 1, 1, 0, 0, 0, 0), (0, 0, 0)), ((20, .land, 1, 0, 0, 0, 0), (0, 0, 0)), ((21, .lconst 0, 1, 0, 0, 0, 0), (0, 0, 0)), ((22, .lcmp, 1, 0, 0, 0, 0), (0, 0, 0))] (by decide +kernel) rfl ?_
    refine hx_if .eq 44 (by decide +kernel) (fun c2 => ?_) (fun c2 => ?_)
    · have c2 : (hlcmp (hland (hlushr (m 5 1) x4) 1) 0) = 0 := c2
      refine hx_blk (npc := 5) (L' := [(0, .inr (.inl 5)), (1, .inl x1), (2, .inr (.inr x2)), (4, .inl (gx_w (x4 + 1)))]) (st' := []) (m' := m) [((44, .iinc 4 1, 3, 0, 0, 0, 0), (0, 0, 0)), ((47, .goto (-42), 3, 0, 0, 0, 0), (0, 0, 0))] (by decide +kernel) rfl ?_
      exact hx_pick [0, 1, 2, 4] (h2 c1 c2)
    · have c2 : (hlcmp (hland (hlushr (m 5 1) x4) 1) 0) ≠ 0 := c2
      refine hx_blk (npc := 34) (L' := [(0, .inr (.inl 5)), (1, .inl x1), (2, .inr (.inr x2)), (4, .inl x4)]) (st' := [.inl x1, .inl (m 12 (x4).toNat)]) (m' := m) [((26, .aload_n 0, 1, 0, 0, 0, 0), (0, 0, 0)), ((27, .getfield 34, 3, 2, 11, 1111, 0), (1, 5, 12)), ((30, .iload 4, 2, 0, 0, 0, 0), (0, 0, 0)), ((32, .iaload, 1, 0, 0, 0, 0), (0, 12, 0)), ((33, .iload_n 1, 1, 0, 0, 0, 0), (0, 0, 0))] (by decide +kernel) rfl ?_
      refine hx_cmp .ne 44 (by decide +kernel) (fun c3 => ?_) (fun c3 => ?_)
      · have c3 : (m 12 (x4).toNat) ≠ x1 := c3
        refine hx_blk (npc := 5) (L' := [(0, .inr (.inl 5)), (1, .inl x1), (2, .inr (.inr x2)), (4, .inl (gx_w (x4 + 1)))]) (st' := []) (m' := m) [((44, .iinc 4 1, 3, 0, 0, 0, 0), (0, 0, 0)), ((47, .goto (-42), 3, 0, 0, 0, 0), (0, 0, 0))] (by decide +kernel) rfl ?_
        exact hx_pick [0, 1, 2, 4] (h3 c1 c2 c3)
      · have c3 : (m 12 (x4).toNat) = x1 := by have h : ¬ ((m 12 (x4).toNat) ≠ x1) := c3; omega
        refine hx_blk (npc := 5) (L' := [(0, .inr (.inl 5)), (1, .inl x1), (2, .inr (.inr (hlor x2 (hlshl 1 x4)))), (4, .inl (gx_w (x4 + 1)))]) (st' := []) (m' := m) [((37, .lload_n 2, 1, 0, 0, 0, 0), (0, 0, 0)), ((38, .lconst 1, 1, 0, 0, 0, 0), (0, 0, 0)), ((39, .iload 4, 2, 0, 0, 0, 0), (0, 0, 0)), ((41, .lshl, 1, 0, 0, 0, 0), (0, 0, 0)), ((42, .lor, 1, 0, 0, 0, 0), (0, 0, 0)), ((43, .lstore_n 2, 1, 0, 0, 0, 0), (0, 0, 0)), ((44, .iinc 4 1, 3, 0, 0, 0, 0), (0, 0, 0)), ((47, .goto (-42), 3, 0, 0, 0, 0), (0, 0, 0))] (by decide +kernel) rfl ?_
        exact hx_pick [0, 1, 2, 4] (h4 c1 c2 c3)

/-- taughtBy from 0 on -/
theorem hr64_0 {xs : List Int32} {n : Nat} {Q : hQ} {m : gx_M} {x1 : Int}
    (h1 : hxn xs n yp_m64 5 [(0, .inr (.inl 5)), (1, .inr (.inr x1)), (3, .inl 0), (4, .inl 0)] [] m Q) : hxn xs (n + 1) yp_m64 0 [(0, .inr (.inl 5)), (1, .inr (.inr x1))] [] m Q := by
  refine hx_blks (npc := 5) (L' := [(0, .inr (.inl 5)), (1, .inr (.inr x1)), (3, .inl 0), (4, .inl 0)]) (st' := []) (m' := m) ((0, .iconst 0, 1, 0, 0, 0, 0), (0, 0, 0)) [((1, .istore_n 3, 1, 0, 0, 0, 0), (0, 0, 0)), ((2, .iconst 0, 1, 0, 0, 0, 0), (0, 0, 0)), ((3, .istore 4, 2, 0, 0, 0, 0), (0, 0, 0))] (by decide +kernel) rfl ?_
  exact hx_pick [0, 1, 3, 4] h1

/-- taughtBy from 5 on -/
theorem hr64_5 {xs : List Int32} {n : Nat} {Q : hQ} {m : gx_M} {x1 x3 x4 : Int}
    (h1 : (40 ≤ x4) → Q (some (.inl x3)) m)
    (h2 : (x4 < 40) → ((hlcmp (hland (hlushr x1 x4) 1) 0) = 0) → hxn xs n yp_m64 5 [(0, .inr (.inl 5)), (1, .inr (.inr x1)), (3, .inl x3), (4, .inl (gx_w (x4 + 1)))] [] m Q)
    (h3 : (x4 < 40) → ((hlcmp (hland (hlushr x1 x4) 1) 0) ≠ 0) → hxn xs n yp_m64 5 [(0, .inr (.inl 5)), (1, .inr (.inr x1)), (3, .inl (gx_or x3 (m 9 (x4).toNat))), (4, .inl (gx_w (x4 + 1)))] [] m Q) : hxn xs (n + 1) yp_m64 5 [(0, .inr (.inl 5)), (1, .inr (.inr x1)), (3, .inl x3), (4, .inl x4)] [] m Q := by
  refine hx_blks (npc := 9) (L' := [(0, .inr (.inl 5)), (1, .inr (.inr x1)), (3, .inl x3), (4, .inl x4)]) (st' := [.inl 40, .inl x4]) (m' := m) ((5, .iload 4, 2, 0, 0, 0, 0), (0, 0, 0)) [((7, .bipush 40, 2, 0, 0, 0, 0), (0, 0, 0))] (by decide +kernel) rfl ?_
  refine hx_cmp .ge 39 (by decide +kernel) (fun c1 => ?_) (fun c1 => ?_)
  · have c1 : 40 ≤ x4 := c1
    refine hx_blk (npc := 40) (L' := [(0, .inr (.inl 5)), (1, .inr (.inr x1)), (3, .inl x3), (4, .inl x4)]) (st' := [.inl x3]) (m' := m) [((39, .iload_n 3, 1, 0, 0, 0, 0), (0, 0, 0))] (by decide +kernel) rfl ?_
    exact hx_reti (by decide +kernel) (h1 c1)
  · have c1 : x4 < 40 := by have h : ¬ (40 ≤ x4) := c1; omega
    refine hx_blk (npc := 20) (L' := [(0, .inr (.inl 5)), (1, .inr (.inr x1)), (3, .inl x3), (4, .inl x4)]) (st' := [.inl (hlcmp (hland (hlushr x1 x4) 1) 0)]) (m' := m) [((12, .lload_n 1, 1, 0, 0, 0, 0), (0, 0, 0)), ((13, .iload 4, 2, 0, 0, 0, 0), (0, 0, 0)), ((15, .lushr, 1, 0, 0, 0, 0), (0, 0, 0)), ((16, .lconst 1, 1, 0, 0, 0, 0), (0, 0, 0)), ((17, .land, 1, 0, 0, 0, 0), (0, 0, 0)), ((18, .lconst 0, 1, 0, 0, 0, 0), (0, 0, 0)), ((19, .lcmp, 1, 0, 0, 0, 0), (0, 0, 0))] (by decide +kernel) rfl ?_
    refine hx_if .eq 33 (by decide +kernel) (fun c2 => ?_) (fun c2 => ?_)
    · have c2 : (hlcmp (hland (hlushr x1 x4) 1) 0) = 0 := c2
      refine hx_blk (npc := 5) (L' := [(0, .inr (.inl 5)), (1, .inr (.inr x1)), (3, .inl x3), (4, .inl (gx_w (x4 + 1)))]) (st' := []) (m' := m) [((33, .iinc 4 1, 3, 0, 0, 0, 0), (0, 0, 0)), ((36, .goto (-31), 3, 0, 0, 0, 0), (0, 0, 0))] (by decide +kernel) rfl ?_
      exact hx_pick [0, 1, 3, 4] (h2 c1 c2)
    · have c2 : (hlcmp (hland (hlushr x1 x4) 1) 0) ≠ 0 := c2
      refine hx_blk (npc := 5) (L' := [(0, .inr (.inl 5)), (1, .inr (.inr x1)), (3, .inl (gx_or x3 (m 9 (x4).toNat))), (4, .inl (gx_w (x4 + 1)))]) (st' := []) (m' := m) [((23, .iload_n 3, 1, 0, 0, 0, 0), (0, 0, 0)), ((24, .aload_n 0, 1, 0, 0, 0, 0), (0, 0, 0)), ((25, .getfield 25, 3, 2, 8, 1100, 0), (1, 5, 9)), ((28, .iload 4, 2, 0, 0, 0, 0), (0, 0, 0)), ((30, .iaload, 1, 0, 0, 0, 0), (0, 9, 0)), ((31, .ior, 1, 0, 0, 0, 0), (0, 0, 0)), ((32, .istore_n 3, 1, 0, 0, 0, 0), (0, 0, 0)), ((33, .iinc 4 1, 3, 0, 0, 0, 0), (0, 0, 0)), ((36, .goto (-31), 3, 0, 0, 0, 0), (0, 0, 0))] (by decide +kernel) rfl ?_
      exact hx_pick [0, 1, 3, 4] (h3 c1 c2)

/-- coinsOf from 0 on -/
theorem hr62_0 {xs : List Int32} {n : Nat} {Q : hQ} {m : gx_M} {x1 : Int}
    (h1 : (x1 < 0) → Q (some (.inl 0)) m)
    (h2 : (0 ≤ x1) → (8 ≤ x1) → Q (some (.inl 0)) m)
    (h3 : (0 ≤ x1) → (x1 < 8) → ((gx_and (gx_shr (m 5 0) x1) 1) = 0) → Q (some (.inl 0)) m)
    (h4 : (0 ≤ x1) → (x1 < 8) → ((gx_and (gx_shr (m 5 0) x1) 1) ≠ 0) → Q (some (.inl (m 6 (x1).toNat))) m) : hxn xs (n + 1) yp_m62 0 [(0, .inr (.inl 5)), (1, .inl x1)] [] m Q := by
  refine hx_blks (npc := 1) (L' := [(0, .inr (.inl 5)), (1, .inl x1)]) (st' := [.inl x1]) (m' := m) ((0, .iload_n 1, 1, 0, 0, 0, 0), (0, 0, 0)) [] (by decide +kernel) rfl ?_
  refine hx_if .lt 30 (by decide +kernel) (fun c1 => ?_) (fun c1 => ?_)
  · have c1 : x1 < 0 := c1
    refine hx_blk (npc := 31) (L' := [(0, .inr (.inl 5)), (1, .inl x1)]) (st' := [.inl 0]) (m' := m) [((30, .iconst 0, 1, 0, 0, 0, 0), (0, 0, 0))] (by decide +kernel) rfl ?_
    exact hx_reti (by decide +kernel) (h1 c1)
  · have c1 : 0 ≤ x1 := by have h : ¬ (x1 < 0) := c1; omega
    refine hx_blk (npc := 7) (L' := [(0, .inr (.inl 5)), (1, .inl x1)]) (st' := [.inl 8, .inl x1]) (m' := m) [((4, .iload_n 1, 1, 0, 0, 0, 0), (0, 0, 0)), ((5, .bipush 8, 2, 0, 0, 0, 0), (0, 0, 0))] (by decide +kernel) rfl ?_
    refine hx_cmp .ge 30 (by decide +kernel) (fun c2 => ?_) (fun c2 => ?_)
    · have c2 : 8 ≤ x1 := c2
      refine hx_blk (npc := 31) (L' := [(0, .inr (.inl 5)), (1, .inl x1)]) (st' := [.inl 0]) (m' := m) [((30, .iconst 0, 1, 0, 0, 0, 0), (0, 0, 0))] (by decide +kernel) rfl ?_
      exact hx_reti (by decide +kernel) (h2 c1 c2)
    · have c2 : x1 < 8 := by have h : ¬ (8 ≤ x1) := c2; omega
      have f1 := gx_and_bd (gx_shr (m 5 0) x1) 1 (by decide)
      refine hx_blk (npc := 18) (L' := [(0, .inr (.inl 5)), (1, .inl x1)]) (st' := [.inl (gx_and (gx_shr (m 5 0) x1) 1)]) (m' := m) [((10, .aload_n 0, 1, 0, 0, 0, 0), (0, 0, 0)), ((11, .getfield 52, 3, 2, 0, 1076, 0), (0, 5, 0)), ((14, .iload_n 1, 1, 0, 0, 0, 0), (0, 0, 0)), ((15, .ishr, 1, 0, 0, 0, 0), (0, 0, 0)), ((16, .iconst 1, 1, 0, 0, 0, 0), (0, 0, 0)), ((17, .iand, 1, 0, 0, 0, 0), (0, 0, 0))] (by decide +kernel) rfl ?_
      refine hx_if .eq 30 (by decide +kernel) (fun c3 => ?_) (fun c3 => ?_)
      · have c3 : (gx_and (gx_shr (m 5 0) x1) 1) = 0 := c3
        refine hx_blk (npc := 31) (L' := [(0, .inr (.inl 5)), (1, .inl x1)]) (st' := [.inl 0]) (m' := m) [((30, .iconst 0, 1, 0, 0, 0, 0), (0, 0, 0))] (by decide +kernel) rfl ?_
        exact hx_reti (by decide +kernel) (h3 c1 c2 c3)
      · have c3 : (gx_and (gx_shr (m 5 0) x1) 1) ≠ 0 := c3
        refine hx_blk (npc := 31) (L' := [(0, .inr (.inl 5)), (1, .inl x1)]) (st' := [.inl (m 6 (x1).toNat)]) (m' := m) [((21, .aload_n 0, 1, 0, 0, 0, 0), (0, 0, 0)), ((22, .getfield 15, 3, 2, 5, 1089, 0), (1, 5, 6)), ((25, .iload_n 1, 1, 0, 0, 0, 0), (0, 0, 0)), ((26, .iaload, 1, 0, 0, 0, 0), (0, 6, 0)), ((27, .goto 4, 3, 0, 0, 0, 0), (0, 0, 0))] (by decide +kernel) rfl ?_
        exact hx_reti (by decide +kernel) (h4 c1 c2 c3)

/-- letterIs from 0 on -/
theorem hr59_0 {xs : List Int32} {n : Nat} {Q : hQ} {m : gx_M} {x2 : Int}
    (h1 : (x2 = 97) → hxn xs n yp_m60 0 [(0, .inr (.inl 5)), (1, .inl (m 44 10))] [] m (fun r m' => hxn xs n yp_m59 62 [] (hrs r ++ []) m' Q))
    (h2 : (x2 ≠ 97) → (x2 = 99) → hxn xs n yp_m62 0 [(0, .inr (.inl 5)), (1, .inl (m 44 10))] [] m (fun r m' => hxn xs n yp_m59 74 [] (hrs r ++ []) m' Q))
    (h3 : (x2 ≠ 97) → (x2 ≠ 99) → (x2 = 112) → Q (some (.inl (m 44 10))) m)
    (h4 : (x2 ≠ 97) → (x2 ≠ 99) → (x2 ≠ 112) → (x2 = 116) → Q (some (.inl (m 5 3))) m)
    (h5 : (x2 ≠ 97) → (x2 ≠ 99) → (x2 ≠ 112) → (x2 ≠ 116) → ((m 44 9) < 0) → Q (some (.inl 0)) m)
    (h6 : (x2 ≠ 97) → (x2 ≠ 99) → (x2 ≠ 112) → (x2 ≠ 116) → (0 ≤ (m 44 9)) → ((m 44 9) < 40) → (x2 = 100) → Q (some (.inl (m 7 (m 44 9).toNat))) m)
    (h7 : (x2 ≠ 97) → (x2 ≠ 99) → (x2 ≠ 112) → (x2 ≠ 116) → (0 ≤ (m 44 9)) → ((m 44 9) < 40) → (x2 ≠ 100) → (x2 = 101) → hxn xs n yp_m60 0 [(0, .inr (.inl 5)), (1, .inl (m 44 10))] [] m (fun r m' => hxn xs n yp_m59 298 [(0, .inr (.inl 44))] (hrs r ++ [.inr (.inl 5), .inl (m 9 (m 44 9).toNat)]) m' Q))
    (h8 : (x2 ≠ 97) → (x2 ≠ 99) → (x2 ≠ 112) → (x2 ≠ 116) → (0 ≤ (m 44 9)) → ((m 44 9) < 40) → (x2 ≠ 100) → (x2 ≠ 101) → (x2 = 102) → Q (some (.inl (m 44 11))) m)
    (h9 : (x2 ≠ 97) → (x2 ≠ 99) → (x2 ≠ 112) → (x2 ≠ 116) → (0 ≤ (m 44 9)) → ((m 44 9) < 40) → (x2 ≠ 100) → (x2 ≠ 101) → (x2 ≠ 102) → (x2 = 103) → Q (some (.inl (m 44 11))) m)
    (h10 : (x2 ≠ 97) → (x2 ≠ 99) → (x2 ≠ 112) → (x2 ≠ 116) → (0 ≤ (m 44 9)) → ((m 44 9) < 40) → (x2 ≠ 100) → (x2 ≠ 101) → (x2 ≠ 102) → (x2 ≠ 103) → (x2 = 104) → Q (some (.inl (m 16 (m 44 9).toNat))) m)
    (h11 : (x2 ≠ 97) → (x2 ≠ 99) → (x2 ≠ 112) → (x2 ≠ 116) → (0 ≤ (m 44 9)) → ((m 44 9) < 40) → (x2 ≠ 100) → (x2 ≠ 101) → (x2 ≠ 102) → (x2 ≠ 103) → (x2 ≠ 104) → (x2 = 105) → Q (some (.inl (m 44 11))) m)
    (h12 : (x2 ≠ 97) → (x2 ≠ 99) → (x2 ≠ 112) → (x2 ≠ 116) → (0 ≤ (m 44 9)) → ((m 44 9) < 40) → (x2 ≠ 100) → (x2 ≠ 101) → (x2 ≠ 102) → (x2 ≠ 103) → (x2 ≠ 104) → (x2 ≠ 105) → (x2 = 106) → Q (some (.inl (m 44 11))) m)
    (h13 : (x2 ≠ 97) → (x2 ≠ 99) → (x2 ≠ 112) → (x2 ≠ 116) → (0 ≤ (m 44 9)) → ((m 44 9) < 40) → (x2 ≠ 100) → (x2 ≠ 101) → (x2 ≠ 102) → (x2 ≠ 103) → (x2 ≠ 104) → (x2 ≠ 105) → (x2 ≠ 106) → (x2 = 107) → Q (some (.inl (gx_w (hland (hlushr (m 5 2) (m 44 9)) 1)))) m)
    (h14 : (x2 ≠ 97) → (x2 ≠ 99) → (x2 ≠ 112) → (x2 ≠ 116) → (0 ≤ (m 44 9)) → ((m 44 9) < 40) → (x2 ≠ 100) → (x2 ≠ 101) → (x2 ≠ 102) → (x2 ≠ 103) → (x2 ≠ 104) → (x2 ≠ 105) → (x2 ≠ 106) → (x2 ≠ 107) → (x2 = 108) → Q (some (.inl (m 8 (m 44 9).toNat))) m)
    (h15 : (x2 ≠ 97) → (x2 ≠ 99) → (x2 ≠ 112) → (x2 ≠ 116) → (0 ≤ (m 44 9)) → ((m 44 9) < 40) → (x2 ≠ 100) → (x2 ≠ 101) → (x2 ≠ 102) → (x2 ≠ 103) → (x2 ≠ 104) → (x2 ≠ 105) → (x2 ≠ 106) → (x2 ≠ 107) → (x2 ≠ 108) → (x2 = 109) → hxn xs n yp_m63 0 [(0, .inl (m 10 (m 44 9).toNat))] [] m (fun r m' => hxn xs n yp_m59 256 [] (hrs r ++ []) m' Q))
    (h16 : (x2 ≠ 97) → (x2 ≠ 99) → (x2 ≠ 112) → (x2 ≠ 116) → (0 ≤ (m 44 9)) → ((m 44 9) < 40) → (x2 ≠ 100) → (x2 ≠ 101) → (x2 ≠ 102) → (x2 ≠ 103) → (x2 ≠ 104) → (x2 ≠ 105) → (x2 ≠ 106) → (x2 ≠ 107) → (x2 ≠ 108) → (x2 ≠ 109) → (x2 = 110) → Q (some (.inl (m 44 11))) m)
    (h17 : (x2 ≠ 97) → (x2 ≠ 99) → (x2 ≠ 112) → (x2 ≠ 116) → (0 ≤ (m 44 9)) → ((m 44 9) < 40) → (x2 ≠ 100) → (x2 ≠ 101) → (x2 ≠ 102) → (x2 ≠ 103) → (x2 ≠ 104) → (x2 ≠ 105) → (x2 ≠ 106) → (x2 ≠ 107) → (x2 ≠ 108) → (x2 ≠ 109) → (x2 ≠ 110) → (x2 = 111) → Q (some (.inl (m 12 (m 44 9).toNat))) m)
    (h18 : (x2 ≠ 97) → (x2 ≠ 99) → (x2 ≠ 112) → (x2 ≠ 116) → (0 ≤ (m 44 9)) → ((m 44 9) < 40) → (x2 ≠ 100) → (x2 ≠ 101) → (x2 ≠ 102) → (x2 ≠ 103) → (x2 ≠ 104) → (x2 ≠ 105) → (x2 ≠ 106) → (x2 ≠ 107) → (x2 ≠ 108) → (x2 ≠ 109) → (x2 ≠ 110) → (x2 ≠ 111) → (x2 = 112) → Q (some (.inl (m 44 11))) m)
    (h19 : (x2 ≠ 97) → (x2 ≠ 99) → (x2 ≠ 112) → (x2 ≠ 116) → (0 ≤ (m 44 9)) → ((m 44 9) < 40) → (x2 ≠ 100) → (x2 ≠ 101) → (x2 ≠ 102) → (x2 ≠ 103) → (x2 ≠ 104) → (x2 ≠ 105) → (x2 ≠ 106) → (x2 ≠ 107) → (x2 ≠ 108) → (x2 ≠ 109) → (x2 ≠ 110) → (x2 ≠ 111) → (x2 ≠ 112) → (x2 = 113) → Q (some (.inl (m 44 11))) m)
    (h20 : (x2 ≠ 97) → (x2 ≠ 99) → (x2 ≠ 112) → (x2 ≠ 116) → (0 ≤ (m 44 9)) → ((m 44 9) < 40) → (x2 ≠ 100) → (x2 ≠ 101) → (x2 ≠ 102) → (x2 ≠ 103) → (x2 ≠ 104) → (x2 ≠ 105) → (x2 ≠ 106) → (x2 ≠ 107) → (x2 ≠ 108) → (x2 ≠ 109) → (x2 ≠ 110) → (x2 ≠ 111) → (x2 ≠ 112) → (x2 ≠ 113) → (x2 = 114) → Q (some (.inl (m 44 11))) m)
    (h21 : (x2 ≠ 97) → (x2 ≠ 99) → (x2 ≠ 112) → (x2 ≠ 116) → (0 ≤ (m 44 9)) → ((m 44 9) < 40) → (x2 ≠ 100) → (x2 ≠ 101) → (x2 ≠ 102) → (x2 ≠ 103) → (x2 ≠ 104) → (x2 ≠ 105) → (x2 ≠ 106) → (x2 ≠ 107) → (x2 ≠ 108) → (x2 ≠ 109) → (x2 ≠ 110) → (x2 ≠ 111) → (x2 ≠ 112) → (x2 ≠ 113) → (x2 ≠ 114) → (x2 = 115) → hxn xs n yp_m63 0 [(0, .inl (m 9 (m 44 9).toNat))] [] m (fun r m' => hxn xs n yp_m59 243 [] (hrs r ++ []) m' Q))
    (h22 : (x2 ≠ 97) → (x2 ≠ 99) → (x2 ≠ 112) → (x2 ≠ 116) → (0 ≤ (m 44 9)) → ((m 44 9) < 40) → (x2 ≠ 100) → (x2 ≠ 101) → (x2 ≠ 102) → (x2 ≠ 103) → (x2 ≠ 104) → (x2 ≠ 105) → (x2 ≠ 106) → (x2 ≠ 107) → (x2 ≠ 108) → (x2 ≠ 109) → (x2 ≠ 110) → (x2 ≠ 111) → (x2 ≠ 112) → (x2 ≠ 113) → (x2 ≠ 114) → (x2 ≠ 115) → (x2 = 116) → Q (some (.inl (m 44 11))) m)
    (h23 : (x2 ≠ 97) → (x2 ≠ 99) → (x2 ≠ 112) → (x2 ≠ 116) → (0 ≤ (m 44 9)) → ((m 44 9) < 40) → (x2 ≠ 100) → (x2 ≠ 101) → (x2 ≠ 102) → (x2 ≠ 103) → (x2 ≠ 104) → (x2 ≠ 105) → (x2 ≠ 106) → (x2 ≠ 107) → (x2 ≠ 108) → (x2 ≠ 109) → (x2 ≠ 110) → (x2 ≠ 111) → (x2 ≠ 112) → (x2 ≠ 113) → (x2 ≠ 114) → (x2 ≠ 115) → (x2 ≠ 116) → (x2 = 117) → Q (some (.inl (m 44 11))) m)
    (h24 : (x2 ≠ 97) → (x2 ≠ 99) → (x2 ≠ 112) → (x2 ≠ 116) → (0 ≤ (m 44 9)) → ((m 44 9) < 40) → (x2 ≠ 100) → (x2 ≠ 101) → (x2 ≠ 102) → (x2 ≠ 103) → (x2 ≠ 104) → (x2 ≠ 105) → (x2 ≠ 106) → (x2 ≠ 107) → (x2 ≠ 108) → (x2 ≠ 109) → (x2 ≠ 110) → (x2 ≠ 111) → (x2 ≠ 112) → (x2 ≠ 113) → (x2 ≠ 114) → (x2 ≠ 115) → (x2 ≠ 116) → (x2 ≠ 117) → (x2 = 118) → Q (some (.inl (m 44 11))) m)
    (h25 : (x2 ≠ 97) → (x2 ≠ 99) → (x2 ≠ 112) → (x2 ≠ 116) → (0 ≤ (m 44 9)) → ((m 44 9) < 40) → (x2 ≠ 100) → (x2 ≠ 101) → (x2 ≠ 102) → (x2 ≠ 103) → (x2 ≠ 104) → (x2 ≠ 105) → (x2 ≠ 106) → (x2 ≠ 107) → (x2 ≠ 108) → (x2 ≠ 109) → (x2 ≠ 110) → (x2 ≠ 111) → (x2 ≠ 112) → (x2 ≠ 113) → (x2 ≠ 114) → (x2 ≠ 115) → (x2 ≠ 116) → (x2 ≠ 117) → (x2 ≠ 118) → (x2 = 119) → Q (some (.inl (m 44 11))) m)
    (h26 : (x2 ≠ 97) → (x2 ≠ 99) → (x2 ≠ 112) → (x2 ≠ 116) → (0 ≤ (m 44 9)) → ((m 44 9) < 40) → (x2 ≠ 100) → (x2 ≠ 101) → (x2 ≠ 102) → (x2 ≠ 103) → (x2 ≠ 104) → (x2 ≠ 105) → (x2 ≠ 106) → (x2 ≠ 107) → (x2 ≠ 108) → (x2 ≠ 109) → (x2 ≠ 110) → (x2 ≠ 111) → (x2 ≠ 112) → (x2 ≠ 113) → (x2 ≠ 114) → (x2 ≠ 115) → (x2 ≠ 116) → (x2 ≠ 117) → (x2 ≠ 118) → (x2 ≠ 119) → (x2 = 120) → Q (some (.inl (m 44 11))) m)
    (h27 : (x2 ≠ 97) → (x2 ≠ 99) → (x2 ≠ 112) → (x2 ≠ 116) → (0 ≤ (m 44 9)) → ((m 44 9) < 40) → (x2 ≠ 100) → (x2 ≠ 101) → (x2 ≠ 102) → (x2 ≠ 103) → (x2 ≠ 104) → (x2 ≠ 105) → (x2 ≠ 106) → (x2 ≠ 107) → (x2 ≠ 108) → (x2 ≠ 109) → (x2 ≠ 110) → (x2 ≠ 111) → (x2 ≠ 112) → (x2 ≠ 113) → (x2 ≠ 114) → (x2 ≠ 115) → (x2 ≠ 116) → (x2 ≠ 117) → (x2 ≠ 118) → (x2 ≠ 119) → (x2 ≠ 120) → (x2 = 121) → Q (some (.inl (m 44 9))) m)
    (h28 : (x2 ≠ 97) → (x2 ≠ 99) → (x2 ≠ 112) → (x2 ≠ 116) → (0 ≤ (m 44 9)) → ((m 44 9) < 40) → (x2 ≠ 100) → (x2 ≠ 101) → (x2 ≠ 102) → (x2 ≠ 103) → (x2 ≠ 104) → (x2 ≠ 105) → (x2 ≠ 106) → (x2 ≠ 107) → (x2 ≠ 108) → (x2 ≠ 109) → (x2 ≠ 110) → (x2 ≠ 111) → (x2 ≠ 112) → (x2 ≠ 113) → (x2 ≠ 114) → (x2 ≠ 115) → (x2 ≠ 116) → (x2 ≠ 117) → (x2 ≠ 118) → (x2 ≠ 119) → (x2 ≠ 120) → (x2 ≠ 121) → Q (some (.inl (m 44 11))) m)
    (h29 : (x2 ≠ 97) → (x2 ≠ 99) → (x2 ≠ 112) → (x2 ≠ 116) → (0 ≤ (m 44 9)) → (40 ≤ (m 44 9)) → Q (some (.inl 0)) m) : hxn xs (n + 1) yp_m59 0 [(0, .inr (.inl 44)), (1, .inr (.inl 5)), (2, .inl x2)] [] m Q := by
  refine hx_blks (npc := 1) (L' := [(0, .inr (.inl 44)), (1, .inr (.inl 5)), (2, .inl x2)]) (st' := [.inl x2]) (m' := m) ((0, .iload_n 2, 1, 0, 0, 0, 0), (0, 0, 0)) [] (by decide +kernel) rfl ?_
  refine hx_lsw 75 [(97, 54), (99, 66), (112, 49), (116, 44)] (by decide +kernel) ?_
  refine hsw_c (fun c1 => ?_) (fun c1 => ?_)
  · have c1 : x2 = 97 := c1
    refine hx_blk (npc := 59) (L' := [(0, .inr (.inl 44)), (1, .inr (.inl 5)), (2, .inl x2)]) (st' := [.inl (m 44 10), .inr (.inl 5)]) (m' := m) [((54, .aload_n 1, 1, 0, 0, 0, 0), (0, 0, 0)), ((55, .aload_n 0, 1, 0, 0, 0, 0), (0, 0, 0)), ((56, .getfield 74, 3, 3, 10, 1191, 0), (0, 44, 0))] (by decide +kernel) rfl ?_
    exact hx_call (E := (59, .invokevirtual 96, 3, 60, 0, 3140, 0)) (M' := yp_m60) [.inr (.inl 5), .inl (m 44 10)] [] rfl (by decide +kernel) rfl ⟨rfl, rfl⟩ rfl rfl (hx_mono (h1 c1) (fun r m' h' => hx_pick [] h'))
  refine hsw_c (fun c2 => ?_) (fun c2 => ?_)
  · have c2 : x2 = 99 := c2
    refine hx_blk (npc := 71) (L' := [(0, .inr (.inl 44)), (1, .inr (.inl 5)), (2, .inl x2)]) (st' := [.inl (m 44 10), .inr (.inl 5)]) (m' := m) [((66, .aload_n 1, 1, 0, 0, 0, 0), (0, 0, 0)), ((67, .aload_n 0, 1, 0, 0, 0, 0), (0, 0, 0)), ((68, .getfield 74, 3, 3, 10, 1191, 0), (0, 44, 0))] (by decide +kernel) rfl ?_
    exact hx_call (E := (71, .invokevirtual 106, 3, 62, 0, 3150, 0)) (M' := yp_m62) [.inr (.inl 5), .inl (m 44 10)] [] rfl (by decide +kernel) rfl ⟨rfl, rfl⟩ rfl rfl (hx_mono (h2 c1 c2) (fun r m' h' => hx_pick [] h'))
  refine hsw_c (fun c3 => ?_) (fun c3 => ?_)
  · have c3 : x2 = 112 := c3
    refine hx_blk (npc := 53) (L' := [(0, .inr (.inl 44)), (1, .inr (.inl 5)), (2, .inl x2)]) (st' := [.inl (m 44 10)]) (m' := m) [((49, .aload_n 0, 1, 0, 0, 0, 0), (0, 0, 0)), ((50, .getfield 74, 3, 3, 10, 1191, 0), (0, 44, 0))] (by decide +kernel) rfl ?_
    exact hx_reti (by decide +kernel) (h3 c1 c2 c3)
  refine hsw_c (fun c4 => ?_) (fun c4 => ?_)
  · have c4 : x2 = 116 := c4
    refine hx_blk (npc := 48) (L' := [(0, .inr (.inl 44)), (1, .inr (.inl 5)), (2, .inl x2)]) (st' := [.inl (m 5 3)]) (m' := m) [((44, .aload_n 1, 1, 0, 0, 0, 0), (0, 0, 0)), ((45, .getfield 91, 3, 2, 3, 1084, 0), (0, 5, 0))] (by decide +kernel) rfl ?_
    exact hx_reti (by decide +kernel) (h4 c1 c2 c3 c4)
  refine hsw_n ?_
  refine hx_blk (npc := 79) (L' := [(0, .inr (.inl 44)), (1, .inr (.inl 5)), (2, .inl x2)]) (st' := [.inl (m 44 9)]) (m' := m) [((75, .aload_n 0, 1, 0, 0, 0, 0), (0, 0, 0)), ((76, .getfield 71, 3, 3, 9, 1190, 0), (0, 44, 0))] (by decide +kernel) rfl ?_
  refine hx_if .lt 91 (by decide +kernel) (fun c5 => ?_) (fun c5 => ?_)
  · have c5 : (m 44 9) < 0 := c5
    refine hx_blk (npc := 92) (L' := [(0, .inr (.inl 44)), (1, .inr (.inl 5)), (2, .inl x2)]) (st' := [.inl 0]) (m' := m) [((91, .iconst 0, 1, 0, 0, 0, 0), (0, 0, 0))] (by decide +kernel) rfl ?_
    exact hx_reti (by decide +kernel) (h5 c1 c2 c3 c4 c5)
  · have c5 : 0 ≤ (m 44 9) := by have h : ¬ ((m 44 9) < 0) := c5; omega
    refine hx_blk (npc := 88) (L' := [(0, .inr (.inl 44)), (1, .inr (.inl 5)), (2, .inl x2)]) (st' := [.inl 40, .inl (m 44 9)]) (m' := m) [((82, .aload_n 0, 1, 0, 0, 0, 0), (0, 0, 0)), ((83, .getfield 71, 3, 3, 9, 1190, 0), (0, 44, 0)), ((86, .bipush 40, 2, 0, 0, 0, 0), (0, 0, 0))] (by decide +kernel) rfl ?_
    refine hx_cmp .lt 93 (by decide +kernel) (fun c6 => ?_) (fun c6 => ?_)
    · have c6 : (m 44 9) < 40 := c6
      refine hx_blk (npc := 94) (L' := [(0, .inr (.inl 44)), (1, .inr (.inl 5)), (2, .inl x2)]) (st' := [.inl x2]) (m' := m) [((93, .iload_n 2, 1, 0, 0, 0, 0), (0, 0, 0))] (by decide +kernel) rfl ?_
      refine hx_tsw 317 [(100, 201), (101, 280), (102, 317), (103, 317), (104, 270), (105, 317), (106, 317), (107, 257), (108, 211), (109, 244), (110, 317), (111, 221), (112, 317), (113, 317), (114, 317), (115, 231), (116, 317), (117, 317), (118, 317), (119, 317), (120, 317), (121, 196)] (by decide +kernel) ?_
      refine hsw_c (fun c7 => ?_) (fun c7 => ?_)
      · have c7 : x2 = 100 := c7
        refine hx_blk (npc := 210) (L' := [(0, .inr (.inl 44)), (1, .inr (.inl 5)), (2, .inl x2)]) (st' := [.inl (m 7 (m 44 9).toNat)]) (m' := m) [((201, .aload_n 1, 1, 0, 0, 0, 0), (0, 0, 0)), ((202, .getfield 109, 3, 2, 6, 1095, 0), (1, 5, 7)), ((205, .aload_n 0, 1, 0, 0, 0, 0), (0, 0, 0)), ((206, .getfield 71, 3, 3, 9, 1190, 0), (0, 44, 0)), ((209, .iaload, 1, 0, 0, 0, 0), (0, 7, 0))] (by decide +kernel) rfl ?_
        exact hx_reti (by decide +kernel) (h6 c1 c2 c3 c4 c5 c6 c7)
      refine hsw_c (fun c8 => ?_) (fun c8 => ?_)
      · have c8 : x2 = 101 := c8
        refine hx_blk (npc := 295) (L' := [(0, .inr (.inl 44)), (1, .inr (.inl 5)), (2, .inl x2)]) (st' := [.inl (m 44 10), .inr (.inl 5), .inr (.inl 5), .inl (m 9 (m 44 9).toNat)]) (m' := m) [((280, .aload_n 1, 1, 0, 0, 0, 0), (0, 0, 0)), ((281, .getfield 118, 3, 2, 8, 1103, 0), (1, 5, 9)), ((284, .aload_n 0, 1, 0, 0, 0, 0), (0, 0, 0)), ((285, .getfield 71, 3, 3, 9, 1190, 0), (0, 44, 0)), ((288, .iaload, 1, 0, 0, 0, 0), (0, 9, 0)), ((289, .aload_n 1, 1, 0, 0, 0, 0), (0, 0, 0)), ((290, .aload_n 1, 1, 0, 0, 0, 0), (0, 0, 0)), ((291, .aload_n 0, 1, 0, 0, 0, 0), (0, 0, 0)), ((292, .getfield 74, 3, 3, 10, 1191, 0), (0, 44, 0))] (by decide +kernel) rfl ?_
        exact hx_call (E := (295, .invokevirtual 96, 3, 60, 0, 3140, 0)) (M' := yp_m60) [.inr (.inl 5), .inl (m 44 10)] [.inr (.inl 5), .inl (m 9 (m 44 9).toNat)] rfl (by decide +kernel) rfl ⟨rfl, rfl⟩ rfl rfl (hx_mono (h7 c1 c2 c3 c4 c5 c6 c7 c8) (fun r m' h' => hx_pick [0] h'))
      refine hsw_c (fun c9 => ?_) (fun c9 => ?_)
      · have c9 : x2 = 102 := c9
        refine hx_blk (npc := 321) (L' := [(0, .inr (.inl 44)), (1, .inr (.inl 5)), (2, .inl x2)]) (st' := [.inl (m 44 11)]) (m' := m) [((317, .aload_n 0, 1, 0, 0, 0, 0), (0, 0, 0)), ((318, .getfield 77, 3, 3, 11, 1192, 0), (0, 44, 0))] (by decide +kernel) rfl ?_
        exact hx_reti (by decide +kernel) (h8 c1 c2 c3 c4 c5 c6 c7 c8 c9)
      refine hsw_c (fun c10 => ?_) (fun c10 => ?_)
      · have c10 : x2 = 103 := c10
        refine hx_blk (npc := 321) (L' := [(0, .inr (.inl 44)), (1, .inr (.inl 5)), (2, .inl x2)]) (st' := [.inl (m 44 11)]) (m' := m) [((317, .aload_n 0, 1, 0, 0, 0, 0), (0, 0, 0)), ((318, .getfield 77, 3, 3, 11, 1192, 0), (0, 44, 0))] (by decide +kernel) rfl ?_
        exact hx_reti (by decide +kernel) (h9 c1 c2 c3 c4 c5 c6 c7 c8 c9 c10)
      refine hsw_c (fun c11 => ?_) (fun c11 => ?_)
      · have c11 : x2 = 104 := c11
        refine hx_blk (npc := 279) (L' := [(0, .inr (.inl 44)), (1, .inr (.inl 5)), (2, .inl x2)]) (st' := [.inl (m 16 (m 44 9).toNat)]) (m' := m) [((270, .aload_n 1, 1, 0, 0, 0, 0), (0, 0, 0)), ((271, .getfield 132, 3, 2, 15, 1135, 0), (1, 5, 16)), ((274, .aload_n 0, 1, 0, 0, 0, 0), (0, 0, 0)), ((275, .getfield 71, 3, 3, 9, 1190, 0), (0, 44, 0)), ((278, .iaload, 1, 0, 0, 0, 0), (0, 16, 0))] (by decide +kernel) rfl ?_
        exact hx_reti (by decide +kernel) (h10 c1 c2 c3 c4 c5 c6 c7 c8 c9 c10 c11)
      refine hsw_c (fun c12 => ?_) (fun c12 => ?_)
      · have c12 : x2 = 105 := c12
        refine hx_blk (npc := 321) (L' := [(0, .inr (.inl 44)), (1, .inr (.inl 5)), (2, .inl x2)]) (st' := [.inl (m 44 11)]) (m' := m) [((317, .aload_n 0, 1, 0, 0, 0, 0), (0, 0, 0)), ((318, .getfield 77, 3, 3, 11, 1192, 0), (0, 44, 0))] (by decide +kernel) rfl ?_
        exact hx_reti (by decide +kernel) (h11 c1 c2 c3 c4 c5 c6 c7 c8 c9 c10 c11 c12)
      refine hsw_c (fun c13 => ?_) (fun c13 => ?_)
      · have c13 : x2 = 106 := c13
        refine hx_blk (npc := 321) (L' := [(0, .inr (.inl 44)), (1, .inr (.inl 5)), (2, .inl x2)]) (st' := [.inl (m 44 11)]) (m' := m) [((317, .aload_n 0, 1, 0, 0, 0, 0), (0, 0, 0)), ((318, .getfield 77, 3, 3, 11, 1192, 0), (0, 44, 0))] (by decide +kernel) rfl ?_
        exact hx_reti (by decide +kernel) (h12 c1 c2 c3 c4 c5 c6 c7 c8 c9 c10 c11 c12 c13)
      refine hsw_c (fun c14 => ?_) (fun c14 => ?_)
      · have c14 : x2 = 107 := c14
        refine hx_blk (npc := 269) (L' := [(0, .inr (.inl 44)), (1, .inr (.inl 5)), (2, .inl x2)]) (st' := [.inl (gx_w (hland (hlushr (m 5 2) (m 44 9)) 1))]) (m' := m) [((257, .aload_n 1, 1, 0, 0, 0, 0), (0, 0, 0)), ((258, .getfield 128, 3, 2, 2, 1081, 0), (2, 5, 0)), ((261, .aload_n 0, 1, 0, 0, 0, 0), (0, 0, 0)), ((262, .getfield 71, 3, 3, 9, 1190, 0), (0, 44, 0)), ((265, .lushr, 1, 0, 0, 0, 0), (0, 0, 0)), ((266, .lconst 1, 1, 0, 0, 0, 0), (0, 0, 0)), ((267, .land, 1, 0, 0, 0, 0), (0, 0, 0)), ((268, .l2i, 1, 0, 0, 0, 0), (0, 0, 0))] (by decide +kernel) rfl ?_
        exact hx_reti (by decide +kernel) (h13 c1 c2 c3 c4 c5 c6 c7 c8 c9 c10 c11 c12 c13 c14)
      refine hsw_c (fun c15 => ?_) (fun c15 => ?_)
      · have c15 : x2 = 108 := c15
        refine hx_blk (npc := 220) (L' := [(0, .inr (.inl 44)), (1, .inr (.inl 5)), (2, .inl x2)]) (st' := [.inl (m 8 (m 44 9).toNat)]) (m' := m) [((211, .aload_n 1, 1, 0, 0, 0, 0), (0, 0, 0)), ((212, .getfield 112, 3, 2, 7, 1099, 0), (1, 5, 8)), ((215, .aload_n 0, 1, 0, 0, 0, 0), (0, 0, 0)), ((216, .getfield 71, 3, 3, 9, 1190, 0), (0, 44, 0)), ((219, .iaload, 1, 0, 0, 0, 0), (0, 8, 0))] (by decide +kernel) rfl ?_
        exact hx_reti (by decide +kernel) (h14 c1 c2 c3 c4 c5 c6 c7 c8 c9 c10 c11 c12 c13 c14 c15)
      refine hsw_c (fun c16 => ?_) (fun c16 => ?_)
      · have c16 : x2 = 109 := c16
        refine hx_blk (npc := 253) (L' := [(0, .inr (.inl 44)), (1, .inr (.inl 5)), (2, .inl x2)]) (st' := [.inl (m 10 (m 44 9).toNat)]) (m' := m) [((244, .aload_n 1, 1, 0, 0, 0, 0), (0, 0, 0)), ((245, .getfield 125, 3, 2, 9, 1107, 0), (1, 5, 10)), ((248, .aload_n 0, 1, 0, 0, 0, 0), (0, 0, 0)), ((249, .getfield 71, 3, 3, 9, 1190, 0), (0, 44, 0)), ((252, .iaload, 1, 0, 0, 0, 0), (0, 10, 0))] (by decide +kernel) rfl ?_
        exact hx_call (E := (253, .invokestatic 121, 3, 63, 0, 3154, 0)) (M' := yp_m63) [.inl (m 10 (m 44 9).toNat)] [] rfl (by decide +kernel) rfl ⟨rfl, rfl⟩ rfl rfl (hx_mono (h15 c1 c2 c3 c4 c5 c6 c7 c8 c9 c10 c11 c12 c13 c14 c15 c16) (fun r m' h' => hx_pick [] h'))
      refine hsw_c (fun c17 => ?_) (fun c17 => ?_)
      · have c17 : x2 = 110 := c17
        refine hx_blk (npc := 321) (L' := [(0, .inr (.inl 44)), (1, .inr (.inl 5)), (2, .inl x2)]) (st' := [.inl (m 44 11)]) (m' := m) [((317, .aload_n 0, 1, 0, 0, 0, 0), (0, 0, 0)), ((318, .getfield 77, 3, 3, 11, 1192, 0), (0, 44, 0))] (by decide +kernel) rfl ?_
        exact hx_reti (by decide +kernel) (h16 c1 c2 c3 c4 c5 c6 c7 c8 c9 c10 c11 c12 c13 c14 c15 c16 c17)
      refine hsw_c (fun c18 => ?_) (fun c18 => ?_)
      · have c18 : x2 = 111 := c18
        refine hx_blk (npc := 230) (L' := [(0, .inr (.inl 44)), (1, .inr (.inl 5)), (2, .inl x2)]) (st' := [.inl (m 12 (m 44 9).toNat)]) (m' := m) [((221, .aload_n 1, 1, 0, 0, 0, 0), (0, 0, 0)), ((222, .getfield 115, 3, 2, 11, 1118, 0), (1, 5, 12)), ((225, .aload_n 0, 1, 0, 0, 0, 0), (0, 0, 0)), ((226, .getfield 71, 3, 3, 9, 1190, 0), (0, 44, 0)), ((229, .iaload, 1, 0, 0, 0, 0), (0, 12, 0))] (by decide +kernel) rfl ?_
        exact hx_reti (by decide +kernel) (h17 c1 c2 c3 c4 c5 c6 c7 c8 c9 c10 c11 c12 c13 c14 c15 c16 c17 c18)
      refine hsw_c (fun c19 => ?_) (fun c19 => ?_)
      · have c19 : x2 = 112 := c19
        refine hx_blk (npc := 321) (L' := [(0, .inr (.inl 44)), (1, .inr (.inl 5)), (2, .inl x2)]) (st' := [.inl (m 44 11)]) (m' := m) [((317, .aload_n 0, 1, 0, 0, 0, 0), (0, 0, 0)), ((318, .getfield 77, 3, 3, 11, 1192, 0), (0, 44, 0))] (by decide +kernel) rfl ?_
        exact hx_reti (by decide +kernel) (h18 c1 c2 c3 c4 c5 c6 c7 c8 c9 c10 c11 c12 c13 c14 c15 c16 c17 c18 c19)
      refine hsw_c (fun c20 => ?_) (fun c20 => ?_)
      · have c20 : x2 = 113 := c20
        refine hx_blk (npc := 321) (L' := [(0, .inr (.inl 44)), (1, .inr (.inl 5)), (2, .inl x2)]) (st' := [.inl (m 44 11)]) (m' := m) [((317, .aload_n 0, 1, 0, 0, 0, 0), (0, 0, 0)), ((318, .getfield 77, 3, 3, 11, 1192, 0), (0, 44, 0))] (by decide +kernel) rfl ?_
        exact hx_reti (by decide +kernel) (h19 c1 c2 c3 c4 c5 c6 c7 c8 c9 c10 c11 c12 c13 c14 c15 c16 c17 c18 c19 c20)
      refine hsw_c (fun c21 => ?_) (fun c21 => ?_)
      · have c21 : x2 = 114 := c21
        refine hx_blk (npc := 321) (L' := [(0, .inr (.inl 44)), (1, .inr (.inl 5)), (2, .inl x2)]) (st' := [.inl (m 44 11)]) (m' := m) [((317, .aload_n 0, 1, 0, 0, 0, 0), (0, 0, 0)), ((318, .getfield 77, 3, 3, 11, 1192, 0), (0, 44, 0))] (by decide +kernel) rfl ?_
        exact hx_reti (by decide +kernel) (h20 c1 c2 c3 c4 c5 c6 c7 c8 c9 c10 c11 c12 c13 c14 c15 c16 c17 c18 c19 c20 c21)
      refine hsw_c (fun c22 => ?_) (fun c22 => ?_)
      · have c22 : x2 = 115 := c22
        refine hx_blk (npc := 240) (L' := [(0, .inr (.inl 44)), (1, .inr (.inl 5)), (2, .inl x2)]) (st' := [.inl (m 9 (m 44 9).toNat)]) (m' := m) [((231, .aload_n 1, 1, 0, 0, 0, 0), (0, 0, 0)), ((232, .getfield 118, 3, 2, 8, 1103, 0), (1, 5, 9)), ((235, .aload_n 0, 1, 0, 0, 0, 0), (0, 0, 0)), ((236, .getfield 71, 3, 3, 9, 1190, 0), (0, 44, 0)), ((239, .iaload, 1, 0, 0, 0, 0), (0, 9, 0))] (by decide +kernel) rfl ?_
        exact hx_call (E := (240, .invokestatic 121, 3, 63, 0, 3154, 0)) (M' := yp_m63) [.inl (m 9 (m 44 9).toNat)] [] rfl (by decide +kernel) rfl ⟨rfl, rfl⟩ rfl rfl (hx_mono (h21 c1 c2 c3 c4 c5 c6 c7 c8 c9 c10 c11 c12 c13 c14 c15 c16 c17 c18 c19 c20 c21 c22) (fun r m' h' => hx_pick [] h'))
      refine hsw_c (fun c23 => ?_) (fun c23 => ?_)
      · have c23 : x2 = 116 := c23
        refine hx_blk (npc := 321) (L' := [(0, .inr (.inl 44)), (1, .inr (.inl 5)), (2, .inl x2)]) (st' := [.inl (m 44 11)]) (m' := m) [((317, .aload_n 0, 1, 0, 0, 0, 0), (0, 0, 0)), ((318, .getfield 77, 3, 3, 11, 1192, 0), (0, 44, 0))] (by decide +kernel) rfl ?_
        exact hx_reti (by decide +kernel) (h22 c1 c2 c3 c4 c5 c6 c7 c8 c9 c10 c11 c12 c13 c14 c15 c16 c17 c18 c19 c20 c21 c22 c23)
      refine hsw_c (fun c24 => ?_) (fun c24 => ?_)
      · have c24 : x2 = 117 := c24
        refine hx_blk (npc := 321) (L' := [(0, .inr (.inl 44)), (1, .inr (.inl 5)), (2, .inl x2)]) (st' := [.inl (m 44 11)]) (m' := m) [((317, .aload_n 0, 1, 0, 0, 0, 0), (0, 0, 0)), ((318, .getfield 77, 3, 3, 11, 1192, 0), (0, 44, 0))] (by decide +kernel) rfl ?_
        exact hx_reti (by decide +kernel) (h23 c1 c2 c3 c4 c5 c6 c7 c8 c9 c10 c11 c12 c13 c14 c15 c16 c17 c18 c19 c20 c21 c22 c23 c24)
      refine hsw_c (fun c25 => ?_) (fun c25 => ?_)
      · have c25 : x2 = 118 := c25
        refine hx_blk (npc := 321) (L' := [(0, .inr (.inl 44)), (1, .inr (.inl 5)), (2, .inl x2)]) (st' := [.inl (m 44 11)]) (m' := m) [((317, .aload_n 0, 1, 0, 0, 0, 0), (0, 0, 0)), ((318, .getfield 77, 3, 3, 11, 1192, 0), (0, 44, 0))] (by decide +kernel) rfl ?_
        exact hx_reti (by decide +kernel) (h24 c1 c2 c3 c4 c5 c6 c7 c8 c9 c10 c11 c12 c13 c14 c15 c16 c17 c18 c19 c20 c21 c22 c23 c24 c25)
      refine hsw_c (fun c26 => ?_) (fun c26 => ?_)
      · have c26 : x2 = 119 := c26
        refine hx_blk (npc := 321) (L' := [(0, .inr (.inl 44)), (1, .inr (.inl 5)), (2, .inl x2)]) (st' := [.inl (m 44 11)]) (m' := m) [((317, .aload_n 0, 1, 0, 0, 0, 0), (0, 0, 0)), ((318, .getfield 77, 3, 3, 11, 1192, 0), (0, 44, 0))] (by decide +kernel) rfl ?_
        exact hx_reti (by decide +kernel) (h25 c1 c2 c3 c4 c5 c6 c7 c8 c9 c10 c11 c12 c13 c14 c15 c16 c17 c18 c19 c20 c21 c22 c23 c24 c25 c26)
      refine hsw_c (fun c27 => ?_) (fun c27 => ?_)
      · have c27 : x2 = 120 := c27
        refine hx_blk (npc := 321) (L' := [(0, .inr (.inl 44)), (1, .inr (.inl 5)), (2, .inl x2)]) (st' := [.inl (m 44 11)]) (m' := m) [((317, .aload_n 0, 1, 0, 0, 0, 0), (0, 0, 0)), ((318, .getfield 77, 3, 3, 11, 1192, 0), (0, 44, 0))] (by decide +kernel) rfl ?_
        exact hx_reti (by decide +kernel) (h26 c1 c2 c3 c4 c5 c6 c7 c8 c9 c10 c11 c12 c13 c14 c15 c16 c17 c18 c19 c20 c21 c22 c23 c24 c25 c26 c27)
      refine hsw_c (fun c28 => ?_) (fun c28 => ?_)
      · have c28 : x2 = 121 := c28
        refine hx_blk (npc := 200) (L' := [(0, .inr (.inl 44)), (1, .inr (.inl 5)), (2, .inl x2)]) (st' := [.inl (m 44 9)]) (m' := m) [((196, .aload_n 0, 1, 0, 0, 0, 0), (0, 0, 0)), ((197, .getfield 71, 3, 3, 9, 1190, 0), (0, 44, 0))] (by decide +kernel) rfl ?_
        exact hx_reti (by decide +kernel) (h27 c1 c2 c3 c4 c5 c6 c7 c8 c9 c10 c11 c12 c13 c14 c15 c16 c17 c18 c19 c20 c21 c22 c23 c24 c25 c26 c27 c28)
      refine hsw_n ?_
      refine hx_blk (npc := 321) (L' := [(0, .inr (.inl 44)), (1, .inr (.inl 5)), (2, .inl x2)]) (st' := [.inl (m 44 11)]) (m' := m) [((317, .aload_n 0, 1, 0, 0, 0, 0), (0, 0, 0)), ((318, .getfield 77, 3, 3, 11, 1192, 0), (0, 44, 0))] (by decide +kernel) rfl ?_
      exact hx_reti (by decide +kernel) (h28 c1 c2 c3 c4 c5 c6 c7 c8 c9 c10 c11 c12 c13 c14 c15 c16 c17 c18 c19 c20 c21 c22 c23 c24 c25 c26 c27 c28)
    · have c6 : 40 ≤ (m 44 9) := by have h : ¬ ((m 44 9) < 40) := c6; omega
      refine hx_blk (npc := 92) (L' := [(0, .inr (.inl 44)), (1, .inr (.inl 5)), (2, .inl x2)]) (st' := [.inl 0]) (m' := m) [((91, .iconst 0, 1, 0, 0, 0, 0), (0, 0, 0))] (by decide +kernel) rfl ?_
      exact hx_reti (by decide +kernel) (h29 c1 c2 c3 c4 c5 c6)

/-- letterIs from 62 on -/
theorem hr59_62 {xs : List Int32} {n : Nat} {Q : hQ} {m : gx_M} {s0 : Int}
    (h1 : hxn xs n yp_m61 0 [(0, .inr (.inr s0))] [] m (fun r m' => hxn xs n yp_m59 65 [] (hrs r ++ []) m' Q)) : hxn xs (n + 1) yp_m59 62 [] [.inr (.inr s0)] m Q := by
  exact hx_calls (E := (62, .invokestatic 100, 3, 61, 0, 3144, 0)) (M' := yp_m61) [.inr (.inr s0)] [] rfl (by decide +kernel) rfl ⟨rfl, rfl⟩ rfl rfl (hx_mono h1 (fun r m' h' => hx_pick [] h'))

/-- letterIs from 65 on -/
theorem hr59_65 {xs : List Int32} {n : Nat} {Q : hQ} {m : gx_M} {s0 : Int}
    (h1 : Q (some (.inl s0)) m) : hxn xs (n + 1) yp_m59 65 [] [.inl s0] m Q := by
  exact hx_reti (by decide +kernel) h1

/-- letterIs from 74 on -/
theorem hr59_74 {xs : List Int32} {n : Nat} {Q : hQ} {m : gx_M} {s0 : Int}
    (h1 : Q (some (.inl s0)) m) : hxn xs (n + 1) yp_m59 74 [] [.inl s0] m Q := by
  exact hx_reti (by decide +kernel) h1

/-- letterIs from 243 on -/
theorem hr59_243 {xs : List Int32} {n : Nat} {Q : hQ} {m : gx_M} {s0 : Int}
    (h1 : Q (some (.inl s0)) m) : hxn xs (n + 1) yp_m59 243 [] [.inl s0] m Q := by
  exact hx_reti (by decide +kernel) h1

/-- letterIs from 256 on -/
theorem hr59_256 {xs : List Int32} {n : Nat} {Q : hQ} {m : gx_M} {s0 : Int}
    (h1 : Q (some (.inl s0)) m) : hxn xs (n + 1) yp_m59 256 [] [.inl s0] m Q := by
  exact hx_reti (by decide +kernel) h1

/-- letterIs from 298 on -/
theorem hr59_298 {xs : List Int32} {n : Nat} {Q : hQ} {m : gx_M} {s0 s2 : Int}
    (h1 : hxn xs n yp_m64 0 [(0, .inr (.inl 5)), (1, .inr (.inr (hland s2 (hlxor (hlshl 1 (m 44 9)) (-1)))))] [] m (fun r m' => hxn xs n yp_m59 312 [] (hrs r ++ [.inl s0]) m' Q)) : hxn xs (n + 1) yp_m59 298 [(0, .inr (.inl 44))] [.inr (.inr s2), .inr (.inl 5), .inl s0] m Q := by
  refine hx_blks (npc := 309) (L' := [(0, .inr (.inl 44))]) (st' := [.inr (.inr (hland s2 (hlxor (hlshl 1 (m 44 9)) (-1)))), .inr (.inl 5), .inl s0]) (m' := m) ((298, .lconst 1, 1, 0, 0, 0, 0), (0, 0, 0)) [((299, .aload_n 0, 1, 0, 0, 0, 0), (0, 0, 0)), ((300, .getfield 71, 3, 3, 9, 1190, 0), (0, 44, 0)), ((303, .lshl, 1, 0, 0, 0, 0), (0, 0, 0)), ((304, .ldc2_w 135, 3, 0, 0, 3160, (-1)), (0, 0, 0)), ((307, .lxor, 1, 0, 0, 0, 0), (0, 0, 0)), ((308, .land, 1, 0, 0, 0, 0), (0, 0, 0))] (by decide +kernel) rfl ?_
  exact hx_call (E := (309, .invokevirtual 137, 3, 64, 0, 3161, 0)) (M' := yp_m64) [.inr (.inl 5), .inr (.inr (hland s2 (hlxor (hlshl 1 (m 44 9)) (-1))))] [.inl s0] rfl (by decide +kernel) rfl ⟨rfl, rfl⟩ rfl rfl (hx_mono h1 (fun r m' h' => hx_pick [] h'))

/-- letterIs from 312 on -/
theorem hr59_312 {xs : List Int32} {n : Nat} {Q : hQ} {m : gx_M} {s0 s1 : Int}
    (h1 : hxn xs n yp_m63 0 [(0, .inl (gx_and s0 s1))] [] m (fun r m' => hxn xs n yp_m59 316 [] (hrs r ++ []) m' Q)) : hxn xs (n + 1) yp_m59 312 [] [.inl s1, .inl s0] m Q := by
  refine hx_blks (npc := 313) (L' := []) (st' := [.inl (gx_and s0 s1)]) (m' := m) ((312, .iand, 1, 0, 0, 0, 0), (0, 0, 0)) [] (by decide +kernel) rfl ?_
  exact hx_call (E := (313, .invokestatic 121, 3, 63, 0, 3154, 0)) (M' := yp_m63) [.inl (gx_and s0 s1)] [] rfl (by decide +kernel) rfl ⟨rfl, rfl⟩ rfl rfl (hx_mono h1 (fun r m' h' => hx_pick [] h'))

/-- letterIs from 316 on -/
theorem hr59_316 {xs : List Int32} {n : Nat} {Q : hQ} {m : gx_M} {s0 : Int}
    (h1 : Q (some (.inl s0)) m) : hxn xs (n + 1) yp_m59 316 [] [.inl s0] m Q := by
  exact hx_reti (by decide +kernel) h1

/-- owned from 0 on -/
theorem hr31_60_0 {xs : List Int32} {n : Nat} {Q : hQ} {m : gx_M} {x1 : Int}
    (h1 : hxn xs n yp_m60 5 [(0, .inr (.inl 31)), (1, .inl x1), (2, .inr (.inr 0)), (4, .inl 0)] [] m Q) : hxn xs (n + 1) yp_m60 0 [(0, .inr (.inl 31)), (1, .inl x1)] [] m Q := by
  refine hx_blks (npc := 5) (L' := [(0, .inr (.inl 31)), (1, .inl x1), (2, .inr (.inr 0)), (4, .inl 0)]) (st' := []) (m' := m) ((0, .lconst 0, 1, 0, 0, 0, 0), (0, 0, 0)) [((1, .lstore_n 2, 1, 0, 0, 0, 0), (0, 0, 0)), ((2, .iconst 0, 1, 0, 0, 0, 0), (0, 0, 0)), ((3, .istore 4, 2, 0, 0, 0, 0), (0, 0, 0))] (by decide +kernel) rfl ?_
  exact hx_pick [0, 1, 2, 4] h1

/-- owned from 5 on -/
theorem hr31_60_5 {xs : List Int32} {n : Nat} {Q : hQ} {m : gx_M} {x1 x2 x4 : Int}
    (h1 : (40 ≤ x4) → Q (some (.inr (.inr x2))) m)
    (h2 : (x4 < 40) → ((hlcmp (hland (hlushr (m 31 1) x4) 1) 0) = 0) → hxn xs n yp_m60 5 [(0, .inr (.inl 31)), (1, .inl x1), (2, .inr (.inr x2)), (4, .inl (gx_w (x4 + 1)))] [] m Q)
    (h3 : (x4 < 40) → ((hlcmp (hland (hlushr (m 31 1) x4) 1) 0) ≠ 0) → ((m 38 (x4).toNat) ≠ x1) → hxn xs n yp_m60 5 [(0, .inr (.inl 31)), (1, .inl x1), (2, .inr (.inr x2)), (4, .inl (gx_w (x4 + 1)))] [] m Q)
    (h4 : (x4 < 40) → ((hlcmp (hland (hlushr (m 31 1) x4) 1) 0) ≠ 0) → ((m 38 (x4).toNat) = x1) → hxn xs n yp_m60 5 [(0, .inr (.inl 31)), (1, .inl x1), (2, .inr (.inr (hlor x2 (hlshl 1 x4)))), (4, .inl (gx_w (x4 + 1)))] [] m Q) : hxn xs (n + 1) yp_m60 5 [(0, .inr (.inl 31)), (1, .inl x1), (2, .inr (.inr x2)), (4, .inl x4)] [] m Q := by
  refine hx_blks (npc := 9) (L' := [(0, .inr (.inl 31)), (1, .inl x1), (2, .inr (.inr x2)), (4, .inl x4)]) (st' := [.inl 40, .inl x4]) (m' := m) ((5, .iload 4, 2, 0, 0, 0, 0), (0, 0, 0)) [((7, .bipush 40, 2, 0, 0, 0, 0), (0, 0, 0))] (by decide +kernel) rfl ?_
  refine hx_cmp .ge 50 (by decide +kernel) (fun c1 => ?_) (fun c1 => ?_)
  · have c1 : 40 ≤ x4 := c1
    refine hx_blk (npc := 51) (L' := [(0, .inr (.inl 31)), (1, .inl x1), (2, .inr (.inr x2)), (4, .inl x4)]) (st' := [.inr (.inr x2)]) (m' := m) [((50, .lload_n 2, 1, 0, 0, 0, 0), (0, 0, 0))] (by decide +kernel) rfl ?_
    exact hx_retl (by decide +kernel) (h1 c1)
  · have c1 : x4 < 40 := by have h : ¬ (40 ≤ x4) := c1; omega
    refine hx_blk (npc := 23) (L' := [(0, .inr (.inl 31)), (1, .inl x1), (2, .inr (.inr x2)), (4, .inl x4)]) (st' := [.inl (hlcmp (hland (hlushr (m 31 1) x4) 1) 0)]) (m' := m) [((12, .aload_n 0, 1, 0, 0, 0, 0), (0, 0, 0)), ((13, .getfield 55, 3, 2, 1, 1078, 0), (2, 31, 0)), ((16, .iload 4, 2, 0, 0, 0, 0), (0, 0, 0)), ((18, .lushr, 1, 0, 0, 0, 0), (0, 0, 0)), ((19, .lconst 1, 1, 0, 0, 0, 0), (0, 0, 0)), ((20, .land, 1, 0, 0, 0, 0), (0, 0, 0)), ((21, .lconst 0, 1, 0, 0, 0, 0), (0, 0, 0)), ((22, .lcmp, 1, 0, 0, 0, 0), (0, 0, 0))] (by decide +kernel) rfl ?_
    refine hx_if .eq 44 (by decide +kernel) (fun c2 => ?_) (fun c2 => ?_)
    · have c2 : (hlcmp (hland (hlushr (m 31 1) x4) 1) 0) = 0 := c2
      refine hx_blk (npc := 5) (L' := [(0, .inr (.inl 31)), (1, .inl x1), (2, .inr (.inr x2)), (4, .inl (gx_w (x4 + 1)))]) (st' := []) (m' := m) [((44, .iinc 4 1, 3, 0, 0, 0, 0), (0, 0, 0)), ((47, .goto (-42), 3, 0, 0, 0, 0), (0, 0, 0))] (by decide +kernel) rfl ?_
      exact hx_pick [0, 1, 2, 4] (h2 c1 c2)
    · have c2 : (hlcmp (hland (hlushr (m 31 1) x4) 1) 0) ≠ 0 := c2
      refine hx_blk (npc := 34) (L' := [(0, .inr (.inl 31)), (1, .inl x1), (2, .inr (.inr x2)), (4, .inl x4)]) (st' := [.inl x1, .inl (m 38 (x4).toNat)]) (m' := m) [((26, .aload_n 0, 1, 0, 0, 0, 0), (0, 0, 0)), ((27, .getfield 34, 3, 2, 11, 1111, 0), (1, 31, 38)), ((30, .iload 4, 2, 0, 0, 0, 0), (0, 0, 0)), ((32, .iaload, 1, 0, 0, 0, 0), (0, 38, 0)), ((33, .iload_n 1, 1, 0, 0, 0, 0), (0, 0, 0))] (by decide +kernel) rfl ?_
      refine hx_cmp .ne 44 (by decide +kernel) (fun c3 => ?_) (fun c3 => ?_)
      · have c3 : (m 38 (x4).toNat) ≠ x1 := c3
        refine hx_blk (npc := 5) (L' := [(0, .inr (.inl 31)), (1, .inl x1), (2, .inr (.inr x2)), (4, .inl (gx_w (x4 + 1)))]) (st' := []) (m' := m) [((44, .iinc 4 1, 3, 0, 0, 0, 0), (0, 0, 0)), ((47, .goto (-42), 3, 0, 0, 0, 0), (0, 0, 0))] (by decide +kernel) rfl ?_
        exact hx_pick [0, 1, 2, 4] (h3 c1 c2 c3)
      · have c3 : (m 38 (x4).toNat) = x1 := by have h : ¬ ((m 38 (x4).toNat) ≠ x1) := c3; omega
        refine hx_blk (npc := 5) (L' := [(0, .inr (.inl 31)), (1, .inl x1), (2, .inr (.inr (hlor x2 (hlshl 1 x4)))), (4, .inl (gx_w (x4 + 1)))]) (st' := []) (m' := m) [((37, .lload_n 2, 1, 0, 0, 0, 0), (0, 0, 0)), ((38, .lconst 1, 1, 0, 0, 0, 0), (0, 0, 0)), ((39, .iload 4, 2, 0, 0, 0, 0), (0, 0, 0)), ((41, .lshl, 1, 0, 0, 0, 0), (0, 0, 0)), ((42, .lor, 1, 0, 0, 0, 0), (0, 0, 0)), ((43, .lstore_n 2, 1, 0, 0, 0, 0), (0, 0, 0)), ((44, .iinc 4 1, 3, 0, 0, 0, 0), (0, 0, 0)), ((47, .goto (-42), 3, 0, 0, 0, 0), (0, 0, 0))] (by decide +kernel) rfl ?_
        exact hx_pick [0, 1, 2, 4] (h4 c1 c2 c3)

/-- taughtBy from 0 on -/
theorem hr31_64_0 {xs : List Int32} {n : Nat} {Q : hQ} {m : gx_M} {x1 : Int}
    (h1 : hxn xs n yp_m64 5 [(0, .inr (.inl 31)), (1, .inr (.inr x1)), (3, .inl 0), (4, .inl 0)] [] m Q) : hxn xs (n + 1) yp_m64 0 [(0, .inr (.inl 31)), (1, .inr (.inr x1))] [] m Q := by
  refine hx_blks (npc := 5) (L' := [(0, .inr (.inl 31)), (1, .inr (.inr x1)), (3, .inl 0), (4, .inl 0)]) (st' := []) (m' := m) ((0, .iconst 0, 1, 0, 0, 0, 0), (0, 0, 0)) [((1, .istore_n 3, 1, 0, 0, 0, 0), (0, 0, 0)), ((2, .iconst 0, 1, 0, 0, 0, 0), (0, 0, 0)), ((3, .istore 4, 2, 0, 0, 0, 0), (0, 0, 0))] (by decide +kernel) rfl ?_
  exact hx_pick [0, 1, 3, 4] h1

/-- taughtBy from 5 on -/
theorem hr31_64_5 {xs : List Int32} {n : Nat} {Q : hQ} {m : gx_M} {x1 x3 x4 : Int}
    (h1 : (40 ≤ x4) → Q (some (.inl x3)) m)
    (h2 : (x4 < 40) → ((hlcmp (hland (hlushr x1 x4) 1) 0) = 0) → hxn xs n yp_m64 5 [(0, .inr (.inl 31)), (1, .inr (.inr x1)), (3, .inl x3), (4, .inl (gx_w (x4 + 1)))] [] m Q)
    (h3 : (x4 < 40) → ((hlcmp (hland (hlushr x1 x4) 1) 0) ≠ 0) → hxn xs n yp_m64 5 [(0, .inr (.inl 31)), (1, .inr (.inr x1)), (3, .inl (gx_or x3 (m 35 (x4).toNat))), (4, .inl (gx_w (x4 + 1)))] [] m Q) : hxn xs (n + 1) yp_m64 5 [(0, .inr (.inl 31)), (1, .inr (.inr x1)), (3, .inl x3), (4, .inl x4)] [] m Q := by
  refine hx_blks (npc := 9) (L' := [(0, .inr (.inl 31)), (1, .inr (.inr x1)), (3, .inl x3), (4, .inl x4)]) (st' := [.inl 40, .inl x4]) (m' := m) ((5, .iload 4, 2, 0, 0, 0, 0), (0, 0, 0)) [((7, .bipush 40, 2, 0, 0, 0, 0), (0, 0, 0))] (by decide +kernel) rfl ?_
  refine hx_cmp .ge 39 (by decide +kernel) (fun c1 => ?_) (fun c1 => ?_)
  · have c1 : 40 ≤ x4 := c1
    refine hx_blk (npc := 40) (L' := [(0, .inr (.inl 31)), (1, .inr (.inr x1)), (3, .inl x3), (4, .inl x4)]) (st' := [.inl x3]) (m' := m) [((39, .iload_n 3, 1, 0, 0, 0, 0), (0, 0, 0))] (by decide +kernel) rfl ?_
    exact hx_reti (by decide +kernel) (h1 c1)
  · have c1 : x4 < 40 := by have h : ¬ (40 ≤ x4) := c1; omega
    refine hx_blk (npc := 20) (L' := [(0, .inr (.inl 31)), (1, .inr (.inr x1)), (3, .inl x3), (4, .inl x4)]) (st' := [.inl (hlcmp (hland (hlushr x1 x4) 1) 0)]) (m' := m) [((12, .lload_n 1, 1, 0, 0, 0, 0), (0, 0, 0)), ((13, .iload 4, 2, 0, 0, 0, 0), (0, 0, 0)), ((15, .lushr, 1, 0, 0, 0, 0), (0, 0, 0)), ((16, .lconst 1, 1, 0, 0, 0, 0), (0, 0, 0)), ((17, .land, 1, 0, 0, 0, 0), (0, 0, 0)), ((18, .lconst 0, 1, 0, 0, 0, 0), (0, 0, 0)), ((19, .lcmp, 1, 0, 0, 0, 0), (0, 0, 0))] (by decide +kernel) rfl ?_
    refine hx_if .eq 33 (by decide +kernel) (fun c2 => ?_) (fun c2 => ?_)
    · have c2 : (hlcmp (hland (hlushr x1 x4) 1) 0) = 0 := c2
      refine hx_blk (npc := 5) (L' := [(0, .inr (.inl 31)), (1, .inr (.inr x1)), (3, .inl x3), (4, .inl (gx_w (x4 + 1)))]) (st' := []) (m' := m) [((33, .iinc 4 1, 3, 0, 0, 0, 0), (0, 0, 0)), ((36, .goto (-31), 3, 0, 0, 0, 0), (0, 0, 0))] (by decide +kernel) rfl ?_
      exact hx_pick [0, 1, 3, 4] (h2 c1 c2)
    · have c2 : (hlcmp (hland (hlushr x1 x4) 1) 0) ≠ 0 := c2
      refine hx_blk (npc := 5) (L' := [(0, .inr (.inl 31)), (1, .inr (.inr x1)), (3, .inl (gx_or x3 (m 35 (x4).toNat))), (4, .inl (gx_w (x4 + 1)))]) (st' := []) (m' := m) [((23, .iload_n 3, 1, 0, 0, 0, 0), (0, 0, 0)), ((24, .aload_n 0, 1, 0, 0, 0, 0), (0, 0, 0)), ((25, .getfield 25, 3, 2, 8, 1100, 0), (1, 31, 35)), ((28, .iload 4, 2, 0, 0, 0, 0), (0, 0, 0)), ((30, .iaload, 1, 0, 0, 0, 0), (0, 35, 0)), ((31, .ior, 1, 0, 0, 0, 0), (0, 0, 0)), ((32, .istore_n 3, 1, 0, 0, 0, 0), (0, 0, 0)), ((33, .iinc 4 1, 3, 0, 0, 0, 0), (0, 0, 0)), ((36, .goto (-31), 3, 0, 0, 0, 0), (0, 0, 0))] (by decide +kernel) rfl ?_
      exact hx_pick [0, 1, 3, 4] (h3 c1 c2)

/-- coinsOf from 0 on -/
theorem hr31_62_0 {xs : List Int32} {n : Nat} {Q : hQ} {m : gx_M} {x1 : Int}
    (h1 : (x1 < 0) → Q (some (.inl 0)) m)
    (h2 : (0 ≤ x1) → (8 ≤ x1) → Q (some (.inl 0)) m)
    (h3 : (0 ≤ x1) → (x1 < 8) → ((gx_and (gx_shr (m 31 0) x1) 1) = 0) → Q (some (.inl 0)) m)
    (h4 : (0 ≤ x1) → (x1 < 8) → ((gx_and (gx_shr (m 31 0) x1) 1) ≠ 0) → Q (some (.inl (m 32 (x1).toNat))) m) : hxn xs (n + 1) yp_m62 0 [(0, .inr (.inl 31)), (1, .inl x1)] [] m Q := by
  refine hx_blks (npc := 1) (L' := [(0, .inr (.inl 31)), (1, .inl x1)]) (st' := [.inl x1]) (m' := m) ((0, .iload_n 1, 1, 0, 0, 0, 0), (0, 0, 0)) [] (by decide +kernel) rfl ?_
  refine hx_if .lt 30 (by decide +kernel) (fun c1 => ?_) (fun c1 => ?_)
  · have c1 : x1 < 0 := c1
    refine hx_blk (npc := 31) (L' := [(0, .inr (.inl 31)), (1, .inl x1)]) (st' := [.inl 0]) (m' := m) [((30, .iconst 0, 1, 0, 0, 0, 0), (0, 0, 0))] (by decide +kernel) rfl ?_
    exact hx_reti (by decide +kernel) (h1 c1)
  · have c1 : 0 ≤ x1 := by have h : ¬ (x1 < 0) := c1; omega
    refine hx_blk (npc := 7) (L' := [(0, .inr (.inl 31)), (1, .inl x1)]) (st' := [.inl 8, .inl x1]) (m' := m) [((4, .iload_n 1, 1, 0, 0, 0, 0), (0, 0, 0)), ((5, .bipush 8, 2, 0, 0, 0, 0), (0, 0, 0))] (by decide +kernel) rfl ?_
    refine hx_cmp .ge 30 (by decide +kernel) (fun c2 => ?_) (fun c2 => ?_)
    · have c2 : 8 ≤ x1 := c2
      refine hx_blk (npc := 31) (L' := [(0, .inr (.inl 31)), (1, .inl x1)]) (st' := [.inl 0]) (m' := m) [((30, .iconst 0, 1, 0, 0, 0, 0), (0, 0, 0))] (by decide +kernel) rfl ?_
      exact hx_reti (by decide +kernel) (h2 c1 c2)
    · have c2 : x1 < 8 := by have h : ¬ (8 ≤ x1) := c2; omega
      have f1 := gx_and_bd (gx_shr (m 31 0) x1) 1 (by decide)
      refine hx_blk (npc := 18) (L' := [(0, .inr (.inl 31)), (1, .inl x1)]) (st' := [.inl (gx_and (gx_shr (m 31 0) x1) 1)]) (m' := m) [((10, .aload_n 0, 1, 0, 0, 0, 0), (0, 0, 0)), ((11, .getfield 52, 3, 2, 0, 1076, 0), (0, 31, 0)), ((14, .iload_n 1, 1, 0, 0, 0, 0), (0, 0, 0)), ((15, .ishr, 1, 0, 0, 0, 0), (0, 0, 0)), ((16, .iconst 1, 1, 0, 0, 0, 0), (0, 0, 0)), ((17, .iand, 1, 0, 0, 0, 0), (0, 0, 0))] (by decide +kernel) rfl ?_
      refine hx_if .eq 30 (by decide +kernel) (fun c3 => ?_) (fun c3 => ?_)
      · have c3 : (gx_and (gx_shr (m 31 0) x1) 1) = 0 := c3
        refine hx_blk (npc := 31) (L' := [(0, .inr (.inl 31)), (1, .inl x1)]) (st' := [.inl 0]) (m' := m) [((30, .iconst 0, 1, 0, 0, 0, 0), (0, 0, 0))] (by decide +kernel) rfl ?_
        exact hx_reti (by decide +kernel) (h3 c1 c2 c3)
      · have c3 : (gx_and (gx_shr (m 31 0) x1) 1) ≠ 0 := c3
        refine hx_blk (npc := 31) (L' := [(0, .inr (.inl 31)), (1, .inl x1)]) (st' := [.inl (m 32 (x1).toNat)]) (m' := m) [((21, .aload_n 0, 1, 0, 0, 0, 0), (0, 0, 0)), ((22, .getfield 15, 3, 2, 5, 1089, 0), (1, 31, 32)), ((25, .iload_n 1, 1, 0, 0, 0, 0), (0, 0, 0)), ((26, .iaload, 1, 0, 0, 0, 0), (0, 32, 0)), ((27, .goto 4, 3, 0, 0, 0, 0), (0, 0, 0))] (by decide +kernel) rfl ?_
        exact hx_reti (by decide +kernel) (h4 c1 c2 c3)

/-- letterIs from 0 on -/
theorem hr31_59_0 {xs : List Int32} {n : Nat} {Q : hQ} {m : gx_M} {x2 : Int}
    (h1 : (x2 = 97) → hxn xs n yp_m60 0 [(0, .inr (.inl 31)), (1, .inl (m 44 10))] [] m (fun r m' => hxn xs n yp_m59 62 [] (hrs r ++ []) m' Q))
    (h2 : (x2 ≠ 97) → (x2 = 99) → hxn xs n yp_m62 0 [(0, .inr (.inl 31)), (1, .inl (m 44 10))] [] m (fun r m' => hxn xs n yp_m59 74 [] (hrs r ++ []) m' Q))
    (h3 : (x2 ≠ 97) → (x2 ≠ 99) → (x2 = 112) → Q (some (.inl (m 44 10))) m)
    (h4 : (x2 ≠ 97) → (x2 ≠ 99) → (x2 ≠ 112) → (x2 = 116) → Q (some (.inl (m 31 3))) m)
    (h5 : (x2 ≠ 97) → (x2 ≠ 99) → (x2 ≠ 112) → (x2 ≠ 116) → ((m 44 9) < 0) → Q (some (.inl 0)) m)
    (h6 : (x2 ≠ 97) → (x2 ≠ 99) → (x2 ≠ 112) → (x2 ≠ 116) → (0 ≤ (m 44 9)) → ((m 44 9) < 40) → (x2 = 100) → Q (some (.inl (m 33 (m 44 9).toNat))) m)
    (h7 : (x2 ≠ 97) → (x2 ≠ 99) → (x2 ≠ 112) → (x2 ≠ 116) → (0 ≤ (m 44 9)) → ((m 44 9) < 40) → (x2 ≠ 100) → (x2 = 101) → hxn xs n yp_m60 0 [(0, .inr (.inl 31)), (1, .inl (m 44 10))] [] m (fun r m' => hxn xs n yp_m59 298 [(0, .inr (.inl 44))] (hrs r ++ [.inr (.inl 31), .inl (m 35 (m 44 9).toNat)]) m' Q))
    (h8 : (x2 ≠ 97) → (x2 ≠ 99) → (x2 ≠ 112) → (x2 ≠ 116) → (0 ≤ (m 44 9)) → ((m 44 9) < 40) → (x2 ≠ 100) → (x2 ≠ 101) → (x2 = 102) → Q (some (.inl (m 44 11))) m)
    (h9 : (x2 ≠ 97) → (x2 ≠ 99) → (x2 ≠ 112) → (x2 ≠ 116) → (0 ≤ (m 44 9)) → ((m 44 9) < 40) → (x2 ≠ 100) → (x2 ≠ 101) → (x2 ≠ 102) → (x2 = 103) → Q (some (.inl (m 44 11))) m)
    (h10 : (x2 ≠ 97) → (x2 ≠ 99) → (x2 ≠ 112) → (x2 ≠ 116) → (0 ≤ (m 44 9)) → ((m 44 9) < 40) → (x2 ≠ 100) → (x2 ≠ 101) → (x2 ≠ 102) → (x2 ≠ 103) → (x2 = 104) → Q (some (.inl (m 42 (m 44 9).toNat))) m)
    (h11 : (x2 ≠ 97) → (x2 ≠ 99) → (x2 ≠ 112) → (x2 ≠ 116) → (0 ≤ (m 44 9)) → ((m 44 9) < 40) → (x2 ≠ 100) → (x2 ≠ 101) → (x2 ≠ 102) → (x2 ≠ 103) → (x2 ≠ 104) → (x2 = 105) → Q (some (.inl (m 44 11))) m)
    (h12 : (x2 ≠ 97) → (x2 ≠ 99) → (x2 ≠ 112) → (x2 ≠ 116) → (0 ≤ (m 44 9)) → ((m 44 9) < 40) → (x2 ≠ 100) → (x2 ≠ 101) → (x2 ≠ 102) → (x2 ≠ 103) → (x2 ≠ 104) → (x2 ≠ 105) → (x2 = 106) → Q (some (.inl (m 44 11))) m)
    (h13 : (x2 ≠ 97) → (x2 ≠ 99) → (x2 ≠ 112) → (x2 ≠ 116) → (0 ≤ (m 44 9)) → ((m 44 9) < 40) → (x2 ≠ 100) → (x2 ≠ 101) → (x2 ≠ 102) → (x2 ≠ 103) → (x2 ≠ 104) → (x2 ≠ 105) → (x2 ≠ 106) → (x2 = 107) → Q (some (.inl (gx_w (hland (hlushr (m 31 2) (m 44 9)) 1)))) m)
    (h14 : (x2 ≠ 97) → (x2 ≠ 99) → (x2 ≠ 112) → (x2 ≠ 116) → (0 ≤ (m 44 9)) → ((m 44 9) < 40) → (x2 ≠ 100) → (x2 ≠ 101) → (x2 ≠ 102) → (x2 ≠ 103) → (x2 ≠ 104) → (x2 ≠ 105) → (x2 ≠ 106) → (x2 ≠ 107) → (x2 = 108) → Q (some (.inl (m 34 (m 44 9).toNat))) m)
    (h15 : (x2 ≠ 97) → (x2 ≠ 99) → (x2 ≠ 112) → (x2 ≠ 116) → (0 ≤ (m 44 9)) → ((m 44 9) < 40) → (x2 ≠ 100) → (x2 ≠ 101) → (x2 ≠ 102) → (x2 ≠ 103) → (x2 ≠ 104) → (x2 ≠ 105) → (x2 ≠ 106) → (x2 ≠ 107) → (x2 ≠ 108) → (x2 = 109) → hxn xs n yp_m63 0 [(0, .inl (m 36 (m 44 9).toNat))] [] m (fun r m' => hxn xs n yp_m59 256 [] (hrs r ++ []) m' Q))
    (h16 : (x2 ≠ 97) → (x2 ≠ 99) → (x2 ≠ 112) → (x2 ≠ 116) → (0 ≤ (m 44 9)) → ((m 44 9) < 40) → (x2 ≠ 100) → (x2 ≠ 101) → (x2 ≠ 102) → (x2 ≠ 103) → (x2 ≠ 104) → (x2 ≠ 105) → (x2 ≠ 106) → (x2 ≠ 107) → (x2 ≠ 108) → (x2 ≠ 109) → (x2 = 110) → Q (some (.inl (m 44 11))) m)
    (h17 : (x2 ≠ 97) → (x2 ≠ 99) → (x2 ≠ 112) → (x2 ≠ 116) → (0 ≤ (m 44 9)) → ((m 44 9) < 40) → (x2 ≠ 100) → (x2 ≠ 101) → (x2 ≠ 102) → (x2 ≠ 103) → (x2 ≠ 104) → (x2 ≠ 105) → (x2 ≠ 106) → (x2 ≠ 107) → (x2 ≠ 108) → (x2 ≠ 109) → (x2 ≠ 110) → (x2 = 111) → Q (some (.inl (m 38 (m 44 9).toNat))) m)
    (h18 : (x2 ≠ 97) → (x2 ≠ 99) → (x2 ≠ 112) → (x2 ≠ 116) → (0 ≤ (m 44 9)) → ((m 44 9) < 40) → (x2 ≠ 100) → (x2 ≠ 101) → (x2 ≠ 102) → (x2 ≠ 103) → (x2 ≠ 104) → (x2 ≠ 105) → (x2 ≠ 106) → (x2 ≠ 107) → (x2 ≠ 108) → (x2 ≠ 109) → (x2 ≠ 110) → (x2 ≠ 111) → (x2 = 112) → Q (some (.inl (m 44 11))) m)
    (h19 : (x2 ≠ 97) → (x2 ≠ 99) → (x2 ≠ 112) → (x2 ≠ 116) → (0 ≤ (m 44 9)) → ((m 44 9) < 40) → (x2 ≠ 100) → (x2 ≠ 101) → (x2 ≠ 102) → (x2 ≠ 103) → (x2 ≠ 104) → (x2 ≠ 105) → (x2 ≠ 106) → (x2 ≠ 107) → (x2 ≠ 108) → (x2 ≠ 109) → (x2 ≠ 110) → (x2 ≠ 111) → (x2 ≠ 112) → (x2 = 113) → Q (some (.inl (m 44 11))) m)
    (h20 : (x2 ≠ 97) → (x2 ≠ 99) → (x2 ≠ 112) → (x2 ≠ 116) → (0 ≤ (m 44 9)) → ((m 44 9) < 40) → (x2 ≠ 100) → (x2 ≠ 101) → (x2 ≠ 102) → (x2 ≠ 103) → (x2 ≠ 104) → (x2 ≠ 105) → (x2 ≠ 106) → (x2 ≠ 107) → (x2 ≠ 108) → (x2 ≠ 109) → (x2 ≠ 110) → (x2 ≠ 111) → (x2 ≠ 112) → (x2 ≠ 113) → (x2 = 114) → Q (some (.inl (m 44 11))) m)
    (h21 : (x2 ≠ 97) → (x2 ≠ 99) → (x2 ≠ 112) → (x2 ≠ 116) → (0 ≤ (m 44 9)) → ((m 44 9) < 40) → (x2 ≠ 100) → (x2 ≠ 101) → (x2 ≠ 102) → (x2 ≠ 103) → (x2 ≠ 104) → (x2 ≠ 105) → (x2 ≠ 106) → (x2 ≠ 107) → (x2 ≠ 108) → (x2 ≠ 109) → (x2 ≠ 110) → (x2 ≠ 111) → (x2 ≠ 112) → (x2 ≠ 113) → (x2 ≠ 114) → (x2 = 115) → hxn xs n yp_m63 0 [(0, .inl (m 35 (m 44 9).toNat))] [] m (fun r m' => hxn xs n yp_m59 243 [] (hrs r ++ []) m' Q))
    (h22 : (x2 ≠ 97) → (x2 ≠ 99) → (x2 ≠ 112) → (x2 ≠ 116) → (0 ≤ (m 44 9)) → ((m 44 9) < 40) → (x2 ≠ 100) → (x2 ≠ 101) → (x2 ≠ 102) → (x2 ≠ 103) → (x2 ≠ 104) → (x2 ≠ 105) → (x2 ≠ 106) → (x2 ≠ 107) → (x2 ≠ 108) → (x2 ≠ 109) → (x2 ≠ 110) → (x2 ≠ 111) → (x2 ≠ 112) → (x2 ≠ 113) → (x2 ≠ 114) → (x2 ≠ 115) → (x2 = 116) → Q (some (.inl (m 44 11))) m)
    (h23 : (x2 ≠ 97) → (x2 ≠ 99) → (x2 ≠ 112) → (x2 ≠ 116) → (0 ≤ (m 44 9)) → ((m 44 9) < 40) → (x2 ≠ 100) → (x2 ≠ 101) → (x2 ≠ 102) → (x2 ≠ 103) → (x2 ≠ 104) → (x2 ≠ 105) → (x2 ≠ 106) → (x2 ≠ 107) → (x2 ≠ 108) → (x2 ≠ 109) → (x2 ≠ 110) → (x2 ≠ 111) → (x2 ≠ 112) → (x2 ≠ 113) → (x2 ≠ 114) → (x2 ≠ 115) → (x2 ≠ 116) → (x2 = 117) → Q (some (.inl (m 44 11))) m)
    (h24 : (x2 ≠ 97) → (x2 ≠ 99) → (x2 ≠ 112) → (x2 ≠ 116) → (0 ≤ (m 44 9)) → ((m 44 9) < 40) → (x2 ≠ 100) → (x2 ≠ 101) → (x2 ≠ 102) → (x2 ≠ 103) → (x2 ≠ 104) → (x2 ≠ 105) → (x2 ≠ 106) → (x2 ≠ 107) → (x2 ≠ 108) → (x2 ≠ 109) → (x2 ≠ 110) → (x2 ≠ 111) → (x2 ≠ 112) → (x2 ≠ 113) → (x2 ≠ 114) → (x2 ≠ 115) → (x2 ≠ 116) → (x2 ≠ 117) → (x2 = 118) → Q (some (.inl (m 44 11))) m)
    (h25 : (x2 ≠ 97) → (x2 ≠ 99) → (x2 ≠ 112) → (x2 ≠ 116) → (0 ≤ (m 44 9)) → ((m 44 9) < 40) → (x2 ≠ 100) → (x2 ≠ 101) → (x2 ≠ 102) → (x2 ≠ 103) → (x2 ≠ 104) → (x2 ≠ 105) → (x2 ≠ 106) → (x2 ≠ 107) → (x2 ≠ 108) → (x2 ≠ 109) → (x2 ≠ 110) → (x2 ≠ 111) → (x2 ≠ 112) → (x2 ≠ 113) → (x2 ≠ 114) → (x2 ≠ 115) → (x2 ≠ 116) → (x2 ≠ 117) → (x2 ≠ 118) → (x2 = 119) → Q (some (.inl (m 44 11))) m)
    (h26 : (x2 ≠ 97) → (x2 ≠ 99) → (x2 ≠ 112) → (x2 ≠ 116) → (0 ≤ (m 44 9)) → ((m 44 9) < 40) → (x2 ≠ 100) → (x2 ≠ 101) → (x2 ≠ 102) → (x2 ≠ 103) → (x2 ≠ 104) → (x2 ≠ 105) → (x2 ≠ 106) → (x2 ≠ 107) → (x2 ≠ 108) → (x2 ≠ 109) → (x2 ≠ 110) → (x2 ≠ 111) → (x2 ≠ 112) → (x2 ≠ 113) → (x2 ≠ 114) → (x2 ≠ 115) → (x2 ≠ 116) → (x2 ≠ 117) → (x2 ≠ 118) → (x2 ≠ 119) → (x2 = 120) → Q (some (.inl (m 44 11))) m)
    (h27 : (x2 ≠ 97) → (x2 ≠ 99) → (x2 ≠ 112) → (x2 ≠ 116) → (0 ≤ (m 44 9)) → ((m 44 9) < 40) → (x2 ≠ 100) → (x2 ≠ 101) → (x2 ≠ 102) → (x2 ≠ 103) → (x2 ≠ 104) → (x2 ≠ 105) → (x2 ≠ 106) → (x2 ≠ 107) → (x2 ≠ 108) → (x2 ≠ 109) → (x2 ≠ 110) → (x2 ≠ 111) → (x2 ≠ 112) → (x2 ≠ 113) → (x2 ≠ 114) → (x2 ≠ 115) → (x2 ≠ 116) → (x2 ≠ 117) → (x2 ≠ 118) → (x2 ≠ 119) → (x2 ≠ 120) → (x2 = 121) → Q (some (.inl (m 44 9))) m)
    (h28 : (x2 ≠ 97) → (x2 ≠ 99) → (x2 ≠ 112) → (x2 ≠ 116) → (0 ≤ (m 44 9)) → ((m 44 9) < 40) → (x2 ≠ 100) → (x2 ≠ 101) → (x2 ≠ 102) → (x2 ≠ 103) → (x2 ≠ 104) → (x2 ≠ 105) → (x2 ≠ 106) → (x2 ≠ 107) → (x2 ≠ 108) → (x2 ≠ 109) → (x2 ≠ 110) → (x2 ≠ 111) → (x2 ≠ 112) → (x2 ≠ 113) → (x2 ≠ 114) → (x2 ≠ 115) → (x2 ≠ 116) → (x2 ≠ 117) → (x2 ≠ 118) → (x2 ≠ 119) → (x2 ≠ 120) → (x2 ≠ 121) → Q (some (.inl (m 44 11))) m)
    (h29 : (x2 ≠ 97) → (x2 ≠ 99) → (x2 ≠ 112) → (x2 ≠ 116) → (0 ≤ (m 44 9)) → (40 ≤ (m 44 9)) → Q (some (.inl 0)) m) : hxn xs (n + 1) yp_m59 0 [(0, .inr (.inl 44)), (1, .inr (.inl 31)), (2, .inl x2)] [] m Q := by
  refine hx_blks (npc := 1) (L' := [(0, .inr (.inl 44)), (1, .inr (.inl 31)), (2, .inl x2)]) (st' := [.inl x2]) (m' := m) ((0, .iload_n 2, 1, 0, 0, 0, 0), (0, 0, 0)) [] (by decide +kernel) rfl ?_
  refine hx_lsw 75 [(97, 54), (99, 66), (112, 49), (116, 44)] (by decide +kernel) ?_
  refine hsw_c (fun c1 => ?_) (fun c1 => ?_)
  · have c1 : x2 = 97 := c1
    refine hx_blk (npc := 59) (L' := [(0, .inr (.inl 44)), (1, .inr (.inl 31)), (2, .inl x2)]) (st' := [.inl (m 44 10), .inr (.inl 31)]) (m' := m) [((54, .aload_n 1, 1, 0, 0, 0, 0), (0, 0, 0)), ((55, .aload_n 0, 1, 0, 0, 0, 0), (0, 0, 0)), ((56, .getfield 74, 3, 3, 10, 1191, 0), (0, 44, 0))] (by decide +kernel) rfl ?_
    exact hx_call (E := (59, .invokevirtual 96, 3, 60, 0, 3140, 0)) (M' := yp_m60) [.inr (.inl 31), .inl (m 44 10)] [] rfl (by decide +kernel) rfl ⟨rfl, rfl⟩ rfl rfl (hx_mono (h1 c1) (fun r m' h' => hx_pick [] h'))
  refine hsw_c (fun c2 => ?_) (fun c2 => ?_)
  · have c2 : x2 = 99 := c2
    refine hx_blk (npc := 71) (L' := [(0, .inr (.inl 44)), (1, .inr (.inl 31)), (2, .inl x2)]) (st' := [.inl (m 44 10), .inr (.inl 31)]) (m' := m) [((66, .aload_n 1, 1, 0, 0, 0, 0), (0, 0, 0)), ((67, .aload_n 0, 1, 0, 0, 0, 0), (0, 0, 0)), ((68, .getfield 74, 3, 3, 10, 1191, 0), (0, 44, 0))] (by decide +kernel) rfl ?_
    exact hx_call (E := (71, .invokevirtual 106, 3, 62, 0, 3150, 0)) (M' := yp_m62) [.inr (.inl 31), .inl (m 44 10)] [] rfl (by decide +kernel) rfl ⟨rfl, rfl⟩ rfl rfl (hx_mono (h2 c1 c2) (fun r m' h' => hx_pick [] h'))
  refine hsw_c (fun c3 => ?_) (fun c3 => ?_)
  · have c3 : x2 = 112 := c3
    refine hx_blk (npc := 53) (L' := [(0, .inr (.inl 44)), (1, .inr (.inl 31)), (2, .inl x2)]) (st' := [.inl (m 44 10)]) (m' := m) [((49, .aload_n 0, 1, 0, 0, 0, 0), (0, 0, 0)), ((50, .getfield 74, 3, 3, 10, 1191, 0), (0, 44, 0))] (by decide +kernel) rfl ?_
    exact hx_reti (by decide +kernel) (h3 c1 c2 c3)
  refine hsw_c (fun c4 => ?_) (fun c4 => ?_)
  · have c4 : x2 = 116 := c4
    refine hx_blk (npc := 48) (L' := [(0, .inr (.inl 44)), (1, .inr (.inl 31)), (2, .inl x2)]) (st' := [.inl (m 31 3)]) (m' := m) [((44, .aload_n 1, 1, 0, 0, 0, 0), (0, 0, 0)), ((45, .getfield 91, 3, 2, 3, 1084, 0), (0, 31, 0))] (by decide +kernel) rfl ?_
    exact hx_reti (by decide +kernel) (h4 c1 c2 c3 c4)
  refine hsw_n ?_
  refine hx_blk (npc := 79) (L' := [(0, .inr (.inl 44)), (1, .inr (.inl 31)), (2, .inl x2)]) (st' := [.inl (m 44 9)]) (m' := m) [((75, .aload_n 0, 1, 0, 0, 0, 0), (0, 0, 0)), ((76, .getfield 71, 3, 3, 9, 1190, 0), (0, 44, 0))] (by decide +kernel) rfl ?_
  refine hx_if .lt 91 (by decide +kernel) (fun c5 => ?_) (fun c5 => ?_)
  · have c5 : (m 44 9) < 0 := c5
    refine hx_blk (npc := 92) (L' := [(0, .inr (.inl 44)), (1, .inr (.inl 31)), (2, .inl x2)]) (st' := [.inl 0]) (m' := m) [((91, .iconst 0, 1, 0, 0, 0, 0), (0, 0, 0))] (by decide +kernel) rfl ?_
    exact hx_reti (by decide +kernel) (h5 c1 c2 c3 c4 c5)
  · have c5 : 0 ≤ (m 44 9) := by have h : ¬ ((m 44 9) < 0) := c5; omega
    refine hx_blk (npc := 88) (L' := [(0, .inr (.inl 44)), (1, .inr (.inl 31)), (2, .inl x2)]) (st' := [.inl 40, .inl (m 44 9)]) (m' := m) [((82, .aload_n 0, 1, 0, 0, 0, 0), (0, 0, 0)), ((83, .getfield 71, 3, 3, 9, 1190, 0), (0, 44, 0)), ((86, .bipush 40, 2, 0, 0, 0, 0), (0, 0, 0))] (by decide +kernel) rfl ?_
    refine hx_cmp .lt 93 (by decide +kernel) (fun c6 => ?_) (fun c6 => ?_)
    · have c6 : (m 44 9) < 40 := c6
      refine hx_blk (npc := 94) (L' := [(0, .inr (.inl 44)), (1, .inr (.inl 31)), (2, .inl x2)]) (st' := [.inl x2]) (m' := m) [((93, .iload_n 2, 1, 0, 0, 0, 0), (0, 0, 0))] (by decide +kernel) rfl ?_
      refine hx_tsw 317 [(100, 201), (101, 280), (102, 317), (103, 317), (104, 270), (105, 317), (106, 317), (107, 257), (108, 211), (109, 244), (110, 317), (111, 221), (112, 317), (113, 317), (114, 317), (115, 231), (116, 317), (117, 317), (118, 317), (119, 317), (120, 317), (121, 196)] (by decide +kernel) ?_
      refine hsw_c (fun c7 => ?_) (fun c7 => ?_)
      · have c7 : x2 = 100 := c7
        refine hx_blk (npc := 210) (L' := [(0, .inr (.inl 44)), (1, .inr (.inl 31)), (2, .inl x2)]) (st' := [.inl (m 33 (m 44 9).toNat)]) (m' := m) [((201, .aload_n 1, 1, 0, 0, 0, 0), (0, 0, 0)), ((202, .getfield 109, 3, 2, 6, 1095, 0), (1, 31, 33)), ((205, .aload_n 0, 1, 0, 0, 0, 0), (0, 0, 0)), ((206, .getfield 71, 3, 3, 9, 1190, 0), (0, 44, 0)), ((209, .iaload, 1, 0, 0, 0, 0), (0, 33, 0))] (by decide +kernel) rfl ?_
        exact hx_reti (by decide +kernel) (h6 c1 c2 c3 c4 c5 c6 c7)
      refine hsw_c (fun c8 => ?_) (fun c8 => ?_)
      · have c8 : x2 = 101 := c8
        refine hx_blk (npc := 295) (L' := [(0, .inr (.inl 44)), (1, .inr (.inl 31)), (2, .inl x2)]) (st' := [.inl (m 44 10), .inr (.inl 31), .inr (.inl 31), .inl (m 35 (m 44 9).toNat)]) (m' := m) [((280, .aload_n 1, 1, 0, 0, 0, 0), (0, 0, 0)), ((281, .getfield 118, 3, 2, 8, 1103, 0), (1, 31, 35)), ((284, .aload_n 0, 1, 0, 0, 0, 0), (0, 0, 0)), ((285, .getfield 71, 3, 3, 9, 1190, 0), (0, 44, 0)), ((288, .iaload, 1, 0, 0, 0, 0), (0, 35, 0)), ((289, .aload_n 1, 1, 0, 0, 0, 0), (0, 0, 0)), ((290, .aload_n 1, 1, 0, 0, 0, 0), (0, 0, 0)), ((291, .aload_n 0, 1, 0, 0, 0, 0), (0, 0, 0)), ((292, .getfield 74, 3, 3, 10, 1191, 0), (0, 44, 0))] (by decide +kernel) rfl ?_
        exact hx_call (E := (295, .invokevirtual 96, 3, 60, 0, 3140, 0)) (M' := yp_m60) [.inr (.inl 31), .inl (m 44 10)] [.inr (.inl 31), .inl (m 35 (m 44 9).toNat)] rfl (by decide +kernel) rfl ⟨rfl, rfl⟩ rfl rfl (hx_mono (h7 c1 c2 c3 c4 c5 c6 c7 c8) (fun r m' h' => hx_pick [0] h'))
      refine hsw_c (fun c9 => ?_) (fun c9 => ?_)
      · have c9 : x2 = 102 := c9
        refine hx_blk (npc := 321) (L' := [(0, .inr (.inl 44)), (1, .inr (.inl 31)), (2, .inl x2)]) (st' := [.inl (m 44 11)]) (m' := m) [((317, .aload_n 0, 1, 0, 0, 0, 0), (0, 0, 0)), ((318, .getfield 77, 3, 3, 11, 1192, 0), (0, 44, 0))] (by decide +kernel) rfl ?_
        exact hx_reti (by decide +kernel) (h8 c1 c2 c3 c4 c5 c6 c7 c8 c9)
      refine hsw_c (fun c10 => ?_) (fun c10 => ?_)
      · have c10 : x2 = 103 := c10
        refine hx_blk (npc := 321) (L' := [(0, .inr (.inl 44)), (1, .inr (.inl 31)), (2, .inl x2)]) (st' := [.inl (m 44 11)]) (m' := m) [((317, .aload_n 0, 1, 0, 0, 0, 0), (0, 0, 0)), ((318, .getfield 77, 3, 3, 11, 1192, 0), (0, 44, 0))] (by decide +kernel) rfl ?_
        exact hx_reti (by decide +kernel) (h9 c1 c2 c3 c4 c5 c6 c7 c8 c9 c10)
      refine hsw_c (fun c11 => ?_) (fun c11 => ?_)
      · have c11 : x2 = 104 := c11
        refine hx_blk (npc := 279) (L' := [(0, .inr (.inl 44)), (1, .inr (.inl 31)), (2, .inl x2)]) (st' := [.inl (m 42 (m 44 9).toNat)]) (m' := m) [((270, .aload_n 1, 1, 0, 0, 0, 0), (0, 0, 0)), ((271, .getfield 132, 3, 2, 15, 1135, 0), (1, 31, 42)), ((274, .aload_n 0, 1, 0, 0, 0, 0), (0, 0, 0)), ((275, .getfield 71, 3, 3, 9, 1190, 0), (0, 44, 0)), ((278, .iaload, 1, 0, 0, 0, 0), (0, 42, 0))] (by decide +kernel) rfl ?_
        exact hx_reti (by decide +kernel) (h10 c1 c2 c3 c4 c5 c6 c7 c8 c9 c10 c11)
      refine hsw_c (fun c12 => ?_) (fun c12 => ?_)
      · have c12 : x2 = 105 := c12
        refine hx_blk (npc := 321) (L' := [(0, .inr (.inl 44)), (1, .inr (.inl 31)), (2, .inl x2)]) (st' := [.inl (m 44 11)]) (m' := m) [((317, .aload_n 0, 1, 0, 0, 0, 0), (0, 0, 0)), ((318, .getfield 77, 3, 3, 11, 1192, 0), (0, 44, 0))] (by decide +kernel) rfl ?_
        exact hx_reti (by decide +kernel) (h11 c1 c2 c3 c4 c5 c6 c7 c8 c9 c10 c11 c12)
      refine hsw_c (fun c13 => ?_) (fun c13 => ?_)
      · have c13 : x2 = 106 := c13
        refine hx_blk (npc := 321) (L' := [(0, .inr (.inl 44)), (1, .inr (.inl 31)), (2, .inl x2)]) (st' := [.inl (m 44 11)]) (m' := m) [((317, .aload_n 0, 1, 0, 0, 0, 0), (0, 0, 0)), ((318, .getfield 77, 3, 3, 11, 1192, 0), (0, 44, 0))] (by decide +kernel) rfl ?_
        exact hx_reti (by decide +kernel) (h12 c1 c2 c3 c4 c5 c6 c7 c8 c9 c10 c11 c12 c13)
      refine hsw_c (fun c14 => ?_) (fun c14 => ?_)
      · have c14 : x2 = 107 := c14
        refine hx_blk (npc := 269) (L' := [(0, .inr (.inl 44)), (1, .inr (.inl 31)), (2, .inl x2)]) (st' := [.inl (gx_w (hland (hlushr (m 31 2) (m 44 9)) 1))]) (m' := m) [((257, .aload_n 1, 1, 0, 0, 0, 0), (0, 0, 0)), ((258, .getfield 128, 3, 2, 2, 1081, 0), (2, 31, 0)), ((261, .aload_n 0, 1, 0, 0, 0, 0), (0, 0, 0)), ((262, .getfield 71, 3, 3, 9, 1190, 0), (0, 44, 0)), ((265, .lushr, 1, 0, 0, 0, 0), (0, 0, 0)), ((266, .lconst 1, 1, 0, 0, 0, 0), (0, 0, 0)), ((267, .land, 1, 0, 0, 0, 0), (0, 0, 0)), ((268, .l2i, 1, 0, 0, 0, 0), (0, 0, 0))] (by decide +kernel) rfl ?_
        exact hx_reti (by decide +kernel) (h13 c1 c2 c3 c4 c5 c6 c7 c8 c9 c10 c11 c12 c13 c14)
      refine hsw_c (fun c15 => ?_) (fun c15 => ?_)
      · have c15 : x2 = 108 := c15
        refine hx_blk (npc := 220) (L' := [(0, .inr (.inl 44)), (1, .inr (.inl 31)), (2, .inl x2)]) (st' := [.inl (m 34 (m 44 9).toNat)]) (m' := m) [((211, .aload_n 1, 1, 0, 0, 0, 0), (0, 0, 0)), ((212, .getfield 112, 3, 2, 7, 1099, 0), (1, 31, 34)), ((215, .aload_n 0, 1, 0, 0, 0, 0), (0, 0, 0)), ((216, .getfield 71, 3, 3, 9, 1190, 0), (0, 44, 0)), ((219, .iaload, 1, 0, 0, 0, 0), (0, 34, 0))] (by decide +kernel) rfl ?_
        exact hx_reti (by decide +kernel) (h14 c1 c2 c3 c4 c5 c6 c7 c8 c9 c10 c11 c12 c13 c14 c15)
      refine hsw_c (fun c16 => ?_) (fun c16 => ?_)
      · have c16 : x2 = 109 := c16
        refine hx_blk (npc := 253) (L' := [(0, .inr (.inl 44)), (1, .inr (.inl 31)), (2, .inl x2)]) (st' := [.inl (m 36 (m 44 9).toNat)]) (m' := m) [((244, .aload_n 1, 1, 0, 0, 0, 0), (0, 0, 0)), ((245, .getfield 125, 3, 2, 9, 1107, 0), (1, 31, 36)), ((248, .aload_n 0, 1, 0, 0, 0, 0), (0, 0, 0)), ((249, .getfield 71, 3, 3, 9, 1190, 0), (0, 44, 0)), ((252, .iaload, 1, 0, 0, 0, 0), (0, 36, 0))] (by decide +kernel) rfl ?_
        exact hx_call (E := (253, .invokestatic 121, 3, 63, 0, 3154, 0)) (M' := yp_m63) [.inl (m 36 (m 44 9).toNat)] [] rfl (by decide +kernel) rfl ⟨rfl, rfl⟩ rfl rfl (hx_mono (h15 c1 c2 c3 c4 c5 c6 c7 c8 c9 c10 c11 c12 c13 c14 c15 c16) (fun r m' h' => hx_pick [] h'))
      refine hsw_c (fun c17 => ?_) (fun c17 => ?_)
      · have c17 : x2 = 110 := c17
        refine hx_blk (npc := 321) (L' := [(0, .inr (.inl 44)), (1, .inr (.inl 31)), (2, .inl x2)]) (st' := [.inl (m 44 11)]) (m' := m) [((317, .aload_n 0, 1, 0, 0, 0, 0), (0, 0, 0)), ((318, .getfield 77, 3, 3, 11, 1192, 0), (0, 44, 0))] (by decide +kernel) rfl ?_
        exact hx_reti (by decide +kernel) (h16 c1 c2 c3 c4 c5 c6 c7 c8 c9 c10 c11 c12 c13 c14 c15 c16 c17)
      refine hsw_c (fun c18 => ?_) (fun c18 => ?_)
      · have c18 : x2 = 111 := c18
        refine hx_blk (npc := 230) (L' := [(0, .inr (.inl 44)), (1, .inr (.inl 31)), (2, .inl x2)]) (st' := [.inl (m 38 (m 44 9).toNat)]) (m' := m) [((221, .aload_n 1, 1, 0, 0, 0, 0), (0, 0, 0)), ((222, .getfield 115, 3, 2, 11, 1118, 0), (1, 31, 38)), ((225, .aload_n 0, 1, 0, 0, 0, 0), (0, 0, 0)), ((226, .getfield 71, 3, 3, 9, 1190, 0), (0, 44, 0)), ((229, .iaload, 1, 0, 0, 0, 0), (0, 38, 0))] (by decide +kernel) rfl ?_
        exact hx_reti (by decide +kernel) (h17 c1 c2 c3 c4 c5 c6 c7 c8 c9 c10 c11 c12 c13 c14 c15 c16 c17 c18)
      refine hsw_c (fun c19 => ?_) (fun c19 => ?_)
      · have c19 : x2 = 112 := c19
        refine hx_blk (npc := 321) (L' := [(0, .inr (.inl 44)), (1, .inr (.inl 31)), (2, .inl x2)]) (st' := [.inl (m 44 11)]) (m' := m) [((317, .aload_n 0, 1, 0, 0, 0, 0), (0, 0, 0)), ((318, .getfield 77, 3, 3, 11, 1192, 0), (0, 44, 0))] (by decide +kernel) rfl ?_
        exact hx_reti (by decide +kernel) (h18 c1 c2 c3 c4 c5 c6 c7 c8 c9 c10 c11 c12 c13 c14 c15 c16 c17 c18 c19)
      refine hsw_c (fun c20 => ?_) (fun c20 => ?_)
      · have c20 : x2 = 113 := c20
        refine hx_blk (npc := 321) (L' := [(0, .inr (.inl 44)), (1, .inr (.inl 31)), (2, .inl x2)]) (st' := [.inl (m 44 11)]) (m' := m) [((317, .aload_n 0, 1, 0, 0, 0, 0), (0, 0, 0)), ((318, .getfield 77, 3, 3, 11, 1192, 0), (0, 44, 0))] (by decide +kernel) rfl ?_
        exact hx_reti (by decide +kernel) (h19 c1 c2 c3 c4 c5 c6 c7 c8 c9 c10 c11 c12 c13 c14 c15 c16 c17 c18 c19 c20)
      refine hsw_c (fun c21 => ?_) (fun c21 => ?_)
      · have c21 : x2 = 114 := c21
        refine hx_blk (npc := 321) (L' := [(0, .inr (.inl 44)), (1, .inr (.inl 31)), (2, .inl x2)]) (st' := [.inl (m 44 11)]) (m' := m) [((317, .aload_n 0, 1, 0, 0, 0, 0), (0, 0, 0)), ((318, .getfield 77, 3, 3, 11, 1192, 0), (0, 44, 0))] (by decide +kernel) rfl ?_
        exact hx_reti (by decide +kernel) (h20 c1 c2 c3 c4 c5 c6 c7 c8 c9 c10 c11 c12 c13 c14 c15 c16 c17 c18 c19 c20 c21)
      refine hsw_c (fun c22 => ?_) (fun c22 => ?_)
      · have c22 : x2 = 115 := c22
        refine hx_blk (npc := 240) (L' := [(0, .inr (.inl 44)), (1, .inr (.inl 31)), (2, .inl x2)]) (st' := [.inl (m 35 (m 44 9).toNat)]) (m' := m) [((231, .aload_n 1, 1, 0, 0, 0, 0), (0, 0, 0)), ((232, .getfield 118, 3, 2, 8, 1103, 0), (1, 31, 35)), ((235, .aload_n 0, 1, 0, 0, 0, 0), (0, 0, 0)), ((236, .getfield 71, 3, 3, 9, 1190, 0), (0, 44, 0)), ((239, .iaload, 1, 0, 0, 0, 0), (0, 35, 0))] (by decide +kernel) rfl ?_
        exact hx_call (E := (240, .invokestatic 121, 3, 63, 0, 3154, 0)) (M' := yp_m63) [.inl (m 35 (m 44 9).toNat)] [] rfl (by decide +kernel) rfl ⟨rfl, rfl⟩ rfl rfl (hx_mono (h21 c1 c2 c3 c4 c5 c6 c7 c8 c9 c10 c11 c12 c13 c14 c15 c16 c17 c18 c19 c20 c21 c22) (fun r m' h' => hx_pick [] h'))
      refine hsw_c (fun c23 => ?_) (fun c23 => ?_)
      · have c23 : x2 = 116 := c23
        refine hx_blk (npc := 321) (L' := [(0, .inr (.inl 44)), (1, .inr (.inl 31)), (2, .inl x2)]) (st' := [.inl (m 44 11)]) (m' := m) [((317, .aload_n 0, 1, 0, 0, 0, 0), (0, 0, 0)), ((318, .getfield 77, 3, 3, 11, 1192, 0), (0, 44, 0))] (by decide +kernel) rfl ?_
        exact hx_reti (by decide +kernel) (h22 c1 c2 c3 c4 c5 c6 c7 c8 c9 c10 c11 c12 c13 c14 c15 c16 c17 c18 c19 c20 c21 c22 c23)
      refine hsw_c (fun c24 => ?_) (fun c24 => ?_)
      · have c24 : x2 = 117 := c24
        refine hx_blk (npc := 321) (L' := [(0, .inr (.inl 44)), (1, .inr (.inl 31)), (2, .inl x2)]) (st' := [.inl (m 44 11)]) (m' := m) [((317, .aload_n 0, 1, 0, 0, 0, 0), (0, 0, 0)), ((318, .getfield 77, 3, 3, 11, 1192, 0), (0, 44, 0))] (by decide +kernel) rfl ?_
        exact hx_reti (by decide +kernel) (h23 c1 c2 c3 c4 c5 c6 c7 c8 c9 c10 c11 c12 c13 c14 c15 c16 c17 c18 c19 c20 c21 c22 c23 c24)
      refine hsw_c (fun c25 => ?_) (fun c25 => ?_)
      · have c25 : x2 = 118 := c25
        refine hx_blk (npc := 321) (L' := [(0, .inr (.inl 44)), (1, .inr (.inl 31)), (2, .inl x2)]) (st' := [.inl (m 44 11)]) (m' := m) [((317, .aload_n 0, 1, 0, 0, 0, 0), (0, 0, 0)), ((318, .getfield 77, 3, 3, 11, 1192, 0), (0, 44, 0))] (by decide +kernel) rfl ?_
        exact hx_reti (by decide +kernel) (h24 c1 c2 c3 c4 c5 c6 c7 c8 c9 c10 c11 c12 c13 c14 c15 c16 c17 c18 c19 c20 c21 c22 c23 c24 c25)
      refine hsw_c (fun c26 => ?_) (fun c26 => ?_)
      · have c26 : x2 = 119 := c26
        refine hx_blk (npc := 321) (L' := [(0, .inr (.inl 44)), (1, .inr (.inl 31)), (2, .inl x2)]) (st' := [.inl (m 44 11)]) (m' := m) [((317, .aload_n 0, 1, 0, 0, 0, 0), (0, 0, 0)), ((318, .getfield 77, 3, 3, 11, 1192, 0), (0, 44, 0))] (by decide +kernel) rfl ?_
        exact hx_reti (by decide +kernel) (h25 c1 c2 c3 c4 c5 c6 c7 c8 c9 c10 c11 c12 c13 c14 c15 c16 c17 c18 c19 c20 c21 c22 c23 c24 c25 c26)
      refine hsw_c (fun c27 => ?_) (fun c27 => ?_)
      · have c27 : x2 = 120 := c27
        refine hx_blk (npc := 321) (L' := [(0, .inr (.inl 44)), (1, .inr (.inl 31)), (2, .inl x2)]) (st' := [.inl (m 44 11)]) (m' := m) [((317, .aload_n 0, 1, 0, 0, 0, 0), (0, 0, 0)), ((318, .getfield 77, 3, 3, 11, 1192, 0), (0, 44, 0))] (by decide +kernel) rfl ?_
        exact hx_reti (by decide +kernel) (h26 c1 c2 c3 c4 c5 c6 c7 c8 c9 c10 c11 c12 c13 c14 c15 c16 c17 c18 c19 c20 c21 c22 c23 c24 c25 c26 c27)
      refine hsw_c (fun c28 => ?_) (fun c28 => ?_)
      · have c28 : x2 = 121 := c28
        refine hx_blk (npc := 200) (L' := [(0, .inr (.inl 44)), (1, .inr (.inl 31)), (2, .inl x2)]) (st' := [.inl (m 44 9)]) (m' := m) [((196, .aload_n 0, 1, 0, 0, 0, 0), (0, 0, 0)), ((197, .getfield 71, 3, 3, 9, 1190, 0), (0, 44, 0))] (by decide +kernel) rfl ?_
        exact hx_reti (by decide +kernel) (h27 c1 c2 c3 c4 c5 c6 c7 c8 c9 c10 c11 c12 c13 c14 c15 c16 c17 c18 c19 c20 c21 c22 c23 c24 c25 c26 c27 c28)
      refine hsw_n ?_
      refine hx_blk (npc := 321) (L' := [(0, .inr (.inl 44)), (1, .inr (.inl 31)), (2, .inl x2)]) (st' := [.inl (m 44 11)]) (m' := m) [((317, .aload_n 0, 1, 0, 0, 0, 0), (0, 0, 0)), ((318, .getfield 77, 3, 3, 11, 1192, 0), (0, 44, 0))] (by decide +kernel) rfl ?_
      exact hx_reti (by decide +kernel) (h28 c1 c2 c3 c4 c5 c6 c7 c8 c9 c10 c11 c12 c13 c14 c15 c16 c17 c18 c19 c20 c21 c22 c23 c24 c25 c26 c27 c28)
    · have c6 : 40 ≤ (m 44 9) := by have h : ¬ ((m 44 9) < 40) := c6; omega
      refine hx_blk (npc := 92) (L' := [(0, .inr (.inl 44)), (1, .inr (.inl 31)), (2, .inl x2)]) (st' := [.inl 0]) (m' := m) [((91, .iconst 0, 1, 0, 0, 0, 0), (0, 0, 0))] (by decide +kernel) rfl ?_
      exact hx_reti (by decide +kernel) (h29 c1 c2 c3 c4 c5 c6)

/-- letterIs from 62 on -/
theorem hr31_59_62 {xs : List Int32} {n : Nat} {Q : hQ} {m : gx_M} {s0 : Int}
    (h1 : hxn xs n yp_m61 0 [(0, .inr (.inr s0))] [] m (fun r m' => hxn xs n yp_m59 65 [] (hrs r ++ []) m' Q)) : hxn xs (n + 1) yp_m59 62 [] [.inr (.inr s0)] m Q := by
  exact hx_calls (E := (62, .invokestatic 100, 3, 61, 0, 3144, 0)) (M' := yp_m61) [.inr (.inr s0)] [] rfl (by decide +kernel) rfl ⟨rfl, rfl⟩ rfl rfl (hx_mono h1 (fun r m' h' => hx_pick [] h'))

/-- letterIs from 65 on -/
theorem hr31_59_65 {xs : List Int32} {n : Nat} {Q : hQ} {m : gx_M} {s0 : Int}
    (h1 : Q (some (.inl s0)) m) : hxn xs (n + 1) yp_m59 65 [] [.inl s0] m Q := by
  exact hx_reti (by decide +kernel) h1

/-- letterIs from 74 on -/
theorem hr31_59_74 {xs : List Int32} {n : Nat} {Q : hQ} {m : gx_M} {s0 : Int}
    (h1 : Q (some (.inl s0)) m) : hxn xs (n + 1) yp_m59 74 [] [.inl s0] m Q := by
  exact hx_reti (by decide +kernel) h1

/-- letterIs from 243 on -/
theorem hr31_59_243 {xs : List Int32} {n : Nat} {Q : hQ} {m : gx_M} {s0 : Int}
    (h1 : Q (some (.inl s0)) m) : hxn xs (n + 1) yp_m59 243 [] [.inl s0] m Q := by
  exact hx_reti (by decide +kernel) h1

/-- letterIs from 256 on -/
theorem hr31_59_256 {xs : List Int32} {n : Nat} {Q : hQ} {m : gx_M} {s0 : Int}
    (h1 : Q (some (.inl s0)) m) : hxn xs (n + 1) yp_m59 256 [] [.inl s0] m Q := by
  exact hx_reti (by decide +kernel) h1

/-- letterIs from 298 on -/
theorem hr31_59_298 {xs : List Int32} {n : Nat} {Q : hQ} {m : gx_M} {s0 s2 : Int}
    (h1 : hxn xs n yp_m64 0 [(0, .inr (.inl 31)), (1, .inr (.inr (hland s2 (hlxor (hlshl 1 (m 44 9)) (-1)))))] [] m (fun r m' => hxn xs n yp_m59 312 [] (hrs r ++ [.inl s0]) m' Q)) : hxn xs (n + 1) yp_m59 298 [(0, .inr (.inl 44))] [.inr (.inr s2), .inr (.inl 31), .inl s0] m Q := by
  refine hx_blks (npc := 309) (L' := [(0, .inr (.inl 44))]) (st' := [.inr (.inr (hland s2 (hlxor (hlshl 1 (m 44 9)) (-1)))), .inr (.inl 31), .inl s0]) (m' := m) ((298, .lconst 1, 1, 0, 0, 0, 0), (0, 0, 0)) [((299, .aload_n 0, 1, 0, 0, 0, 0), (0, 0, 0)), ((300, .getfield 71, 3, 3, 9, 1190, 0), (0, 44, 0)), ((303, .lshl, 1, 0, 0, 0, 0), (0, 0, 0)), ((304, .ldc2_w 135, 3, 0, 0, 3160, (-1)), (0, 0, 0)), ((307, .lxor, 1, 0, 0, 0, 0), (0, 0, 0)), ((308, .land, 1, 0, 0, 0, 0), (0, 0, 0))] (by decide +kernel) rfl ?_
  exact hx_call (E := (309, .invokevirtual 137, 3, 64, 0, 3161, 0)) (M' := yp_m64) [.inr (.inl 31), .inr (.inr (hland s2 (hlxor (hlshl 1 (m 44 9)) (-1))))] [.inl s0] rfl (by decide +kernel) rfl ⟨rfl, rfl⟩ rfl rfl (hx_mono h1 (fun r m' h' => hx_pick [] h'))

/-- letterIs from 312 on -/
theorem hr31_59_312 {xs : List Int32} {n : Nat} {Q : hQ} {m : gx_M} {s0 s1 : Int}
    (h1 : hxn xs n yp_m63 0 [(0, .inl (gx_and s0 s1))] [] m (fun r m' => hxn xs n yp_m59 316 [] (hrs r ++ []) m' Q)) : hxn xs (n + 1) yp_m59 312 [] [.inl s1, .inl s0] m Q := by
  refine hx_blks (npc := 313) (L' := []) (st' := [.inl (gx_and s0 s1)]) (m' := m) ((312, .iand, 1, 0, 0, 0, 0), (0, 0, 0)) [] (by decide +kernel) rfl ?_
  exact hx_call (E := (313, .invokestatic 121, 3, 63, 0, 3154, 0)) (M' := yp_m63) [.inl (gx_and s0 s1)] [] rfl (by decide +kernel) rfl ⟨rfl, rfl⟩ rfl rfl (hx_mono h1 (fun r m' h' => hx_pick [] h'))

/-- letterIs from 316 on -/
theorem hr31_59_316 {xs : List Int32} {n : Nat} {Q : hQ} {m : gx_M} {s0 : Int}
    (h1 : Q (some (.inl s0)) m) : hxn xs (n + 1) yp_m59 316 [] [.inl s0] m Q := by
  exact hx_reti (by decide +kernel) h1

/-- clauseThatHolds from 0 on -/
theorem hr57_0 {xs : List Int32} {n : Nat} {Q : hQ} {m : gx_M} {b : Nat} {x2 : Int}
    (h1 : hxn xs n yp_m57 2 [(0, .inr (.inl 44)), (1, .inr (.inl b)), (2, .inl x2), (3, .inl 0)] [] m Q) : hxn xs (n + 1) yp_m57 0 [(0, .inr (.inl 44)), (1, .inr (.inl b)), (2, .inl x2)] [] m Q := by
  refine hx_blks (npc := 2) (L' := [(0, .inr (.inl 44)), (1, .inr (.inl b)), (2, .inl x2), (3, .inl 0)]) (st' := []) (m' := m) ((0, .iconst 0, 1, 0, 0, 0, 0), (0, 0, 0)) [((1, .istore_n 3, 1, 0, 0, 0, 0), (0, 0, 0))] (by decide +kernel) rfl ?_
  exact hx_pick [0, 1, 2, 3] h1

/-- clauseThatHolds from 2 on -/
theorem hr57_2 {xs : List Int32} {n : Nat} {Q : hQ} {m : gx_M} {b : Nat} {x2 x3 : Int}
    (h1 : ((m 44 7) ≤ x3) → Q (some (.inl (-1))) m)
    (h2 : (x3 < (m 44 7)) → (16 ≤ x3) → Q (some (.inl (-1))) m)
    (h3 : (x3 < (m 44 7)) → (x3 < 16) → ((m 47 (x3).toNat) ≠ x2) → hxn xs n yp_m57 2 [(0, .inr (.inl 44)), (1, .inr (.inl b)), (2, .inl x2), (3, .inl (gx_w (x3 + 1)))] [] m Q)
    (h4 : (x3 < (m 44 7)) → (x3 < 16) → ((m 47 (x3).toNat) = x2) → hxn xs n yp_m58 0 [(0, .inr (.inl 44)), (1, .inr (.inl b)), (2, .inl (m 49 (x3).toNat)), (3, .inl (m 50 (x3).toNat))] [] m (fun r m' => hxn xs n yp_m57 43 [(0, .inr (.inl 44)), (1, .inr (.inl b)), (2, .inl x2), (3, .inl x3)] (hrs r ++ []) m' Q)) : hxn xs (n + 1) yp_m57 2 [(0, .inr (.inl 44)), (1, .inr (.inl b)), (2, .inl x2), (3, .inl x3)] [] m Q := by
  refine hx_blks (npc := 7) (L' := [(0, .inr (.inl 44)), (1, .inr (.inl b)), (2, .inl x2), (3, .inl x3)]) (st' := [.inl (m 44 7), .inl x3]) (m' := m) ((2, .iload_n 3, 1, 0, 0, 0, 0), (0, 0, 0)) [((3, .aload_n 0, 1, 0, 0, 0, 0), (0, 0, 0)), ((4, .getfield 39, 3, 3, 7, 1187, 0), (0, 44, 0))] (by decide +kernel) rfl ?_
  refine hx_cmp .ge 54 (by decide +kernel) (fun c1 => ?_) (fun c1 => ?_)
  · have c1 : (m 44 7) ≤ x3 := c1
    refine hx_blk (npc := 55) (L' := [(0, .inr (.inl 44)), (1, .inr (.inl b)), (2, .inl x2), (3, .inl x3)]) (st' := [.inl (-1)]) (m' := m) [((54, .iconst (-1), 1, 0, 0, 0, 0), (0, 0, 0))] (by decide +kernel) rfl ?_
    exact hx_reti (by decide +kernel) (h1 c1)
  · have c1 : x3 < (m 44 7) := by have h : ¬ ((m 44 7) ≤ x3) := c1; omega
    refine hx_blk (npc := 13) (L' := [(0, .inr (.inl 44)), (1, .inr (.inl b)), (2, .inl x2), (3, .inl x3)]) (st' := [.inl 16, .inl x3]) (m' := m) [((10, .iload_n 3, 1, 0, 0, 0, 0), (0, 0, 0)), ((11, .bipush 16, 2, 0, 0, 0, 0), (0, 0, 0))] (by decide +kernel) rfl ?_
    refine hx_cmp .ge 54 (by decide +kernel) (fun c2 => ?_) (fun c2 => ?_)
    · have c2 : 16 ≤ x3 := c2
      refine hx_blk (npc := 55) (L' := [(0, .inr (.inl 44)), (1, .inr (.inl b)), (2, .inl x2), (3, .inl x3)]) (st' := [.inl (-1)]) (m' := m) [((54, .iconst (-1), 1, 0, 0, 0, 0), (0, 0, 0))] (by decide +kernel) rfl ?_
      exact hx_reti (by decide +kernel) (h2 c1 c2)
    · have c2 : x3 < 16 := by have h : ¬ (16 ≤ x3) := c2; omega
      refine hx_blk (npc := 23) (L' := [(0, .inr (.inl 44)), (1, .inr (.inl b)), (2, .inl x2), (3, .inl x3)]) (st' := [.inl x2, .inl (m 47 (x3).toNat)]) (m' := m) [((16, .aload_n 0, 1, 0, 0, 0, 0), (0, 0, 0)), ((17, .getfield 18, 3, 3, 3, 1182, 0), (1, 44, 47)), ((20, .iload_n 3, 1, 0, 0, 0, 0), (0, 0, 0)), ((21, .iaload, 1, 0, 0, 0, 0), (0, 47, 0)), ((22, .iload_n 2, 1, 0, 0, 0, 0), (0, 0, 0))] (by decide +kernel) rfl ?_
      refine hx_cmp .ne 48 (by decide +kernel) (fun c3 => ?_) (fun c3 => ?_)
      · have c3 : (m 47 (x3).toNat) ≠ x2 := c3
        refine hx_blk (npc := 2) (L' := [(0, .inr (.inl 44)), (1, .inr (.inl b)), (2, .inl x2), (3, .inl (gx_w (x3 + 1)))]) (st' := []) (m' := m) [((48, .iinc 3 1, 3, 0, 0, 0, 0), (0, 0, 0)), ((51, .goto (-49), 3, 0, 0, 0, 0), (0, 0, 0))] (by decide +kernel) rfl ?_
        exact hx_pick [0, 1, 2, 3] (h3 c1 c2 c3)
      · have c3 : (m 47 (x3).toNat) = x2 := by have h : ¬ ((m 47 (x3).toNat) ≠ x2) := c3; omega
        refine hx_blk (npc := 40) (L' := [(0, .inr (.inl 44)), (1, .inr (.inl b)), (2, .inl x2), (3, .inl x3)]) (st' := [.inl (m 50 (x3).toNat), .inl (m 49 (x3).toNat), .inr (.inl b), .inr (.inl 44)]) (m' := m) [((26, .aload_n 0, 1, 0, 0, 0, 0), (0, 0, 0)), ((27, .aload_n 1, 1, 0, 0, 0, 0), (0, 0, 0)), ((28, .aload_n 0, 1, 0, 0, 0, 0), (0, 0, 0)), ((29, .getfield 24, 3, 3, 5, 1184, 0), (1, 44, 49)), ((32, .iload_n 3, 1, 0, 0, 0, 0), (0, 0, 0)), ((33, .iaload, 1, 0, 0, 0, 0), (0, 49, 0)), ((34, .aload_n 0, 1, 0, 0, 0, 0), (0, 0, 0)), ((35, .getfield 27, 3, 3, 6, 1185, 0), (1, 44, 50)), ((38, .iload_n 3, 1, 0, 0, 0, 0), (0, 0, 0)), ((39, .iaload, 1, 0, 0, 0, 0), (0, 50, 0))] (by decide +kernel) rfl ?_
        exact hx_call (E := (40, .invokevirtual 58, 3, 58, 0, 3131, 0)) (M' := yp_m58) [.inr (.inl 44), .inr (.inl b), .inl (m 49 (x3).toNat), .inl (m 50 (x3).toNat)] [] rfl (by decide +kernel) rfl ⟨rfl, rfl⟩ rfl rfl (hx_mono (h4 c1 c2 c3) (fun r m' h' => hx_pick [0, 1, 2, 3] h'))

/-- clauseThatHolds from 43 on -/
theorem hr57_43 {xs : List Int32} {n : Nat} {Q : hQ} {m : gx_M} {b : Nat} {x2 x3 s0 : Int}
    (h1 : (s0 = 0) → hxn xs n yp_m57 2 [(0, .inr (.inl 44)), (1, .inr (.inl b)), (2, .inl x2), (3, .inl (gx_w (x3 + 1)))] [] m Q)
    (h2 : (s0 ≠ 0) → Q (some (.inl x3)) m) : hxn xs (n + 1) yp_m57 43 [(0, .inr (.inl 44)), (1, .inr (.inl b)), (2, .inl x2), (3, .inl x3)] [.inl s0] m Q := by
  refine hx_ifs .eq 48 (by decide +kernel) (fun c1 => ?_) (fun c1 => ?_)
  · have c1 : s0 = 0 := c1
    refine hx_blk (npc := 2) (L' := [(0, .inr (.inl 44)), (1, .inr (.inl b)), (2, .inl x2), (3, .inl (gx_w (x3 + 1)))]) (st' := []) (m' := m) [((48, .iinc 3 1, 3, 0, 0, 0, 0), (0, 0, 0)), ((51, .goto (-49), 3, 0, 0, 0, 0), (0, 0, 0))] (by decide +kernel) rfl ?_
    exact hx_pick [0, 1, 2, 3] (h1 c1)
  · have c1 : s0 ≠ 0 := c1
    refine hx_blk (npc := 47) (L' := [(0, .inr (.inl 44)), (1, .inr (.inl b)), (2, .inl x2), (3, .inl x3)]) (st' := [.inl x3]) (m' := m) [((46, .iload_n 3, 1, 0, 0, 0, 0), (0, 0, 0))] (by decide +kernel) rfl ?_
    exact hx_reti (by decide +kernel) (h2 c1)

/-- forbids from 0 on -/
theorem hr55_0 {xs : List Int32} {n : Nat} {Q : hQ} {m : gx_M} {b : Nat} {x2 x3 x4 : Int}
    (h1 : hxn xs n yp_m56 0 [(0, .inr (.inl 44)), (1, .inl x2), (2, .inl x3), (3, .inl x4)] [] m (fun r m' => hxn xs n yp_m55 8 [(0, .inr (.inl 44)), (1, .inr (.inl b))] (hrs r ++ []) m' Q)) : hxn xs (n + 1) yp_m55 0 [(0, .inr (.inl 44)), (1, .inr (.inl b)), (2, .inl x2), (3, .inl x3), (4, .inl x4)] [] m Q := by
  refine hx_blks (npc := 5) (L' := [(0, .inr (.inl 44)), (1, .inr (.inl b)), (2, .inl x2), (3, .inl x3), (4, .inl x4)]) (st' := [.inl x4, .inl x3, .inl x2, .inr (.inl 44)]) (m' := m) ((0, .aload_n 0, 1, 0, 0, 0, 0), (0, 0, 0)) [((1, .iload_n 2, 1, 0, 0, 0, 0), (0, 0, 0)), ((2, .iload_n 3, 1, 0, 0, 0, 0), (0, 0, 0)), ((3, .iload 4, 2, 0, 0, 0, 0), (0, 0, 0))] (by decide +kernel) rfl ?_
  exact hx_call (E := (5, .invokevirtual 46, 3, 56, 0, 3123, 0)) (M' := yp_m56) [.inr (.inl 44), .inl x2, .inl x3, .inl x4] [] rfl (by decide +kernel) rfl ⟨rfl, rfl⟩ rfl rfl (hx_mono h1 (fun r m' h' => hx_pick [0, 1] h'))

/-- forbids from 8 on -/
theorem hr55_8 {xs : List Int32} {n : Nat} {Q : hQ} {m : gx_M} {b : Nat}
    (h1 : hxn xs n yp_m57 0 [(0, .inr (.inl 44)), (1, .inr (.inl b)), (2, .inl 110)] [] m (fun r m' => hxn xs n yp_m55 15 [] (hrs r ++ []) m' Q)) : hxn xs (n + 1) yp_m55 8 [(0, .inr (.inl 44)), (1, .inr (.inl b))] [] m Q := by
  refine hx_blks (npc := 12) (L' := [(0, .inr (.inl 44)), (1, .inr (.inl b))]) (st' := [.inl 110, .inr (.inl b), .inr (.inl 44)]) (m' := m) ((8, .aload_n 0, 1, 0, 0, 0, 0), (0, 0, 0)) [((9, .aload_n 1, 1, 0, 0, 0, 0), (0, 0, 0)), ((10, .bipush 110, 2, 0, 0, 0, 0), (0, 0, 0))] (by decide +kernel) rfl ?_
  exact hx_call (E := (12, .invokevirtual 50, 3, 57, 0, 3127, 0)) (M' := yp_m57) [.inr (.inl 44), .inr (.inl b), .inl 110] [] rfl (by decide +kernel) rfl ⟨rfl, rfl⟩ rfl rfl (hx_mono h1 (fun r m' h' => hx_pick [] h'))

/-- forbids from 15 on -/
theorem hr55_15 {xs : List Int32} {n : Nat} {Q : hQ} {m : gx_M} {b : Nat} {s0 : Int}
    (h1 : (s0 = (-1)) → Q (some (.inl 0)) m)
    (h2 : (s0 ≠ (-1)) → Q (some (.inl 1)) m) : hxn xs (n + 1) yp_m55 15 [] [.inl s0] m Q := by
  refine hx_blks (npc := 16) (L' := []) (st' := [.inl (-1), .inl s0]) (m' := m) ((15, .iconst (-1), 1, 0, 0, 0, 0), (0, 0, 0)) [] (by decide +kernel) rfl ?_
  refine hx_cmp .eq 23 (by decide +kernel) (fun c1 => ?_) (fun c1 => ?_)
  · have c1 : s0 = (-1) := c1
    refine hx_blk (npc := 24) (L' := []) (st' := [.inl 0]) (m' := m) [((23, .iconst 0, 1, 0, 0, 0, 0), (0, 0, 0))] (by decide +kernel) rfl ?_
    exact hx_reti (by decide +kernel) (h1 c1)
  · have c1 : s0 ≠ (-1) := c1
    refine hx_blk (npc := 24) (L' := []) (st' := [.inl 1]) (m' := m) [((19, .iconst 1, 1, 0, 0, 0, 0), (0, 0, 0)), ((20, .goto 4, 3, 0, 0, 0, 0), (0, 0, 0))] (by decide +kernel) rfl ?_
    exact hx_reti (by decide +kernel) (h2 c1)

/-- amount from 0 on -/
theorem hr82_0 {xs : List Int32} {n : Nat} {Q : hQ} {m : gx_M} {b : Nat} {x2 x3 x4 x5 : Int}
    (h1 : hxn xs n yp_m56 0 [(0, .inr (.inl 44)), (1, .inl x3), (2, .inl x4), (3, .inl x5)] [] m (fun r m' => hxn xs n yp_m82 9 [(0, .inr (.inl 44)), (1, .inr (.inl b)), (2, .inl x2)] (hrs r ++ []) m' Q)) : hxn xs (n + 1) yp_m82 0 [(0, .inr (.inl 44)), (1, .inr (.inl b)), (2, .inl x2), (3, .inl x3), (4, .inl x4), (5, .inl x5)] [] m Q := by
  refine hx_blks (npc := 6) (L' := [(0, .inr (.inl 44)), (1, .inr (.inl b)), (2, .inl x2), (3, .inl x3), (4, .inl x4), (5, .inl x5)]) (st' := [.inl x5, .inl x4, .inl x3, .inr (.inl 44)]) (m' := m) ((0, .aload_n 0, 1, 0, 0, 0, 0), (0, 0, 0)) [((1, .iload_n 3, 1, 0, 0, 0, 0), (0, 0, 0)), ((2, .iload 4, 2, 0, 0, 0, 0), (0, 0, 0)), ((4, .iload 5, 2, 0, 0, 0, 0), (0, 0, 0))] (by decide +kernel) rfl ?_
  exact hx_call (E := (6, .invokevirtual 46, 3, 56, 0, 3123, 0)) (M' := yp_m56) [.inr (.inl 44), .inl x3, .inl x4, .inl x5] [] rfl (by decide +kernel) rfl ⟨rfl, rfl⟩ rfl rfl (hx_mono h1 (fun r m' h' => hx_pick [0, 1, 2] h'))

/-- amount from 9 on -/
theorem hr82_9 {xs : List Int32} {n : Nat} {Q : hQ} {m : gx_M} {b : Nat} {x2 : Int}
    (h1 : hxn xs n yp_m57 0 [(0, .inr (.inl 44)), (1, .inr (.inl b)), (2, .inl x2)] [] m (fun r m' => hxn xs n yp_m82 15 [(0, .inr (.inl 44)), (1, .inr (.inl b)), (2, .inl x2)] (hrs r ++ []) m' Q)) : hxn xs (n + 1) yp_m82 9 [(0, .inr (.inl 44)), (1, .inr (.inl b)), (2, .inl x2)] [] m Q := by
  refine hx_blks (npc := 12) (L' := [(0, .inr (.inl 44)), (1, .inr (.inl b)), (2, .inl x2)]) (st' := [.inl x2, .inr (.inl b), .inr (.inl 44)]) (m' := m) ((9, .aload_n 0, 1, 0, 0, 0, 0), (0, 0, 0)) [((10, .aload_n 1, 1, 0, 0, 0, 0), (0, 0, 0)), ((11, .iload_n 2, 1, 0, 0, 0, 0), (0, 0, 0))] (by decide +kernel) rfl ?_
  exact hx_call (E := (12, .invokevirtual 50, 3, 57, 0, 3127, 0)) (M' := yp_m57) [.inr (.inl 44), .inr (.inl b), .inl x2] [] rfl (by decide +kernel) rfl ⟨rfl, rfl⟩ rfl rfl (hx_mono h1 (fun r m' h' => hx_pick [0, 1, 2] h'))

/-- amount from 15 on -/
theorem hr82_15 {xs : List Int32} {n : Nat} {Q : hQ} {m : gx_M} {b : Nat} {x2 s0 : Int}
    (h1 : (s0 < 0) → Q (some (.inl 0)) m)
    (h2 : (0 ≤ s0) → (s0 < 16) → hxn xs n yp_m83 0 [(0, .inl x2)] [] m (fun r m' => hxn xs n yp_m82 36 [(0, .inr (.inl 44)), (1, .inr (.inl b)), (6, .inl s0)] (hrs r ++ [.inl 0]) m' Q))
    (h3 : (0 ≤ s0) → (16 ≤ s0) → Q (some (.inl 0)) m) : hxn xs (n + 1) yp_m82 15 [(0, .inr (.inl 44)), (1, .inr (.inl b)), (2, .inl x2)] [.inl s0] m Q := by
  refine hx_blks (npc := 19) (L' := [(0, .inr (.inl 44)), (1, .inr (.inl b)), (2, .inl x2), (6, .inl s0)]) (st' := [.inl s0]) (m' := m) ((15, .istore 6, 2, 0, 0, 0, 0), (0, 0, 0)) [((17, .iload 6, 2, 0, 0, 0, 0), (0, 0, 0))] (by decide +kernel) rfl ?_
  refine hx_if .lt 29 (by decide +kernel) (fun c1 => ?_) (fun c1 => ?_)
  · have c1 : s0 < 0 := c1
    refine hx_blk (npc := 30) (L' := [(0, .inr (.inl 44)), (1, .inr (.inl b)), (2, .inl x2), (6, .inl s0)]) (st' := [.inl 0]) (m' := m) [((29, .iconst 0, 1, 0, 0, 0, 0), (0, 0, 0))] (by decide +kernel) rfl ?_
    exact hx_reti (by decide +kernel) (h1 c1)
  · have c1 : 0 ≤ s0 := by have h : ¬ (s0 < 0) := c1; omega
    refine hx_blk (npc := 26) (L' := [(0, .inr (.inl 44)), (1, .inr (.inl b)), (2, .inl x2), (6, .inl s0)]) (st' := [.inl 16, .inl s0]) (m' := m) [((22, .iload 6, 2, 0, 0, 0, 0), (0, 0, 0)), ((24, .bipush 16, 2, 0, 0, 0, 0), (0, 0, 0))] (by decide +kernel) rfl ?_
    refine hx_cmp .lt 31 (by decide +kernel) (fun c2 => ?_) (fun c2 => ?_)
    · have c2 : s0 < 16 := c2
      refine hx_blk (npc := 33) (L' := [(0, .inr (.inl 44)), (1, .inr (.inl b)), (2, .inl x2), (6, .inl s0)]) (st' := [.inl x2, .inl 0]) (m' := m) [((31, .iconst 0, 1, 0, 0, 0, 0), (0, 0, 0)), ((32, .iload_n 2, 1, 0, 0, 0, 0), (0, 0, 0))] (by decide +kernel) rfl ?_
      exact hx_call (E := (33, .invokestatic 54, 3, 83, 0, 4007, 0)) (M' := yp_m83) [.inl x2] [.inl 0] rfl (by decide +kernel) rfl ⟨rfl, rfl⟩ rfl rfl (hx_mono (h2 c1 c2) (fun r m' h' => hx_pick [0, 1, 6] h'))
    · have c2 : 16 ≤ s0 := by have h : ¬ (s0 < 16) := c2; omega
      refine hx_blk (npc := 30) (L' := [(0, .inr (.inl 44)), (1, .inr (.inl b)), (2, .inl x2), (6, .inl s0)]) (st' := [.inl 0]) (m' := m) [((29, .iconst 0, 1, 0, 0, 0, 0), (0, 0, 0))] (by decide +kernel) rfl ?_
      exact hx_reti (by decide +kernel) (h3 c1 c2)

/-- amount from 36 on -/
theorem hr82_36 {xs : List Int32} {n : Nat} {Q : hQ} {m : gx_M} {b : Nat} {x6 s0 s1 : Int}
    (h1 : hxn xs n yp_m58 0 [(0, .inr (.inl 44)), (1, .inr (.inl b)), (2, .inl (m 48 (x6).toNat)), (3, .inl (m 49 (x6).toNat))] [] m (fun r m' => hxn xs n yp_m82 55 [] (hrs r ++ [.inl s1, .inl s0]) m' Q)) : hxn xs (n + 1) yp_m82 36 [(0, .inr (.inl 44)), (1, .inr (.inl b)), (6, .inl x6)] [.inl s1, .inl s0] m Q := by
  refine hx_blks (npc := 52) (L' := [(0, .inr (.inl 44)), (1, .inr (.inl b)), (6, .inl x6)]) (st' := [.inl (m 49 (x6).toNat), .inl (m 48 (x6).toNat), .inr (.inl b), .inr (.inl 44), .inl s1, .inl s0]) (m' := m) ((36, .aload_n 0, 1, 0, 0, 0, 0), (0, 0, 0)) [((37, .aload_n 1, 1, 0, 0, 0, 0), (0, 0, 0)), ((38, .aload_n 0, 1, 0, 0, 0, 0), (0, 0, 0)), ((39, .getfield 21, 3, 3, 4, 1183, 0), (1, 44, 48)), ((42, .iload 6, 2, 0, 0, 0, 0), (0, 0, 0)), ((44, .iaload, 1, 0, 0, 0, 0), (0, 48, 0)), ((45, .aload_n 0, 1, 0, 0, 0, 0), (0, 0, 0)), ((46, .getfield 24, 3, 3, 5, 1184, 0), (1, 44, 49)), ((49, .iload 6, 2, 0, 0, 0, 0), (0, 0, 0)), ((51, .iaload, 1, 0, 0, 0, 0), (0, 49, 0))] (by decide +kernel) rfl ?_
  exact hx_call (E := (52, .invokevirtual 58, 3, 58, 0, 3131, 0)) (M' := yp_m58) [.inr (.inl 44), .inr (.inl b), .inl (m 48 (x6).toNat), .inl (m 49 (x6).toNat)] [.inl s1, .inl s0] rfl (by decide +kernel) rfl ⟨rfl, rfl⟩ rfl rfl (hx_mono h1 (fun r m' h' => hx_pick [] h'))

/-- amount from 55 on -/
theorem hr82_55 {xs : List Int32} {n : Nat} {Q : hQ} {m : gx_M} {b : Nat} {s0 s1 s2 : Int}
    (h1 : Q (some (.inl (if s0 < (if s2 < s1 then s2 else s1) then (if s2 < s1 then s2 else s1) else s0))) m) : hxn xs (n + 1) yp_m82 55 [] [.inl s2, .inl s1, .inl s0] m Q := by
  refine hx_blks (npc := 61) (L' := []) (st' := [.inl (if s0 < (if s2 < s1 then s2 else s1) then (if s2 < s1 then s2 else s1) else s0)]) (m' := m) ((55, .invokestatic 62, 3, 1003, 2221, 4010, 1013002222), (0, 0, 0)) [((58, .invokestatic 68, 3, 1002, 2224, 3135, 1013002225), (0, 0, 0))] (by decide +kernel) rfl ?_
  exact hx_reti (by decide +kernel) h1

/-- ask from 0 on -/
theorem hr56_0 {xs : List Int32} {n : Nat} {Q : hQ} {m : gx_M} {x1 x2 x3 : Int}
    (h1 : Q none (gx_u (gx_u (gx_u m 44 9 x1) 44 10 x2) 44 11 x3)) : hxn xs (n + 1) yp_m56 0 [(0, .inr (.inl 44)), (1, .inl x1), (2, .inl x2), (3, .inl x3)] [] m Q := by
  refine hx_blks (npc := 15) (L' := [(0, .inr (.inl 44)), (1, .inl x1), (2, .inl x2), (3, .inl x3)]) (st' := []) (m' := (gx_u (gx_u (gx_u m 44 9 x1) 44 10 x2) 44 11 x3)) ((0, .aload_n 0, 1, 0, 0, 0, 0), (0, 0, 0)) [((1, .iload_n 1, 1, 0, 0, 0, 0), (0, 0, 0)), ((2, .putfield 71, 3, 3, 9, 1190, 0), (0, 44, 0)), ((5, .aload_n 0, 1, 0, 0, 0, 0), (0, 0, 0)), ((6, .iload_n 2, 1, 0, 0, 0, 0), (0, 0, 0)), ((7, .putfield 74, 3, 3, 10, 1191, 0), (0, 44, 0)), ((10, .aload_n 0, 1, 0, 0, 0, 0), (0, 0, 0)), ((11, .iload_n 3, 1, 0, 0, 0, 0), (0, 0, 0)), ((12, .putfield 77, 3, 3, 11, 1192, 0), (0, 44, 0))] (by decide +kernel) rfl ?_
  exact hx_ret0 (by decide +kernel) h1

/-- most from 0 on -/
theorem hr83_0 {xs : List Int32} {n : Nat} {Q : hQ} {m : gx_M} {x0 : Int}
    (h1 : (x0 = 102) → Q (some (.inl 10)) m)
    (h2 : (x0 ≠ 102) → (x0 = 105) → Q (some (.inl 99)) m)
    (h3 : (x0 ≠ 102) → (x0 ≠ 105) → Q (some (.inl 999)) m) : hxn xs (n + 1) yp_m83 0 [(0, .inl x0)] [] m Q := by
  refine hx_blks (npc := 1) (L' := [(0, .inl x0)]) (st' := [.inl x0]) (m' := m) ((0, .iload_n 0, 1, 0, 0, 0, 0), (0, 0, 0)) [] (by decide +kernel) rfl ?_
  refine hx_lsw 34 [(102, 31), (105, 28)] (by decide +kernel) ?_
  refine hsw_c (fun c1 => ?_) (fun c1 => ?_)
  · have c1 : x0 = 102 := c1
    refine hx_blk (npc := 33) (L' := [(0, .inl x0)]) (st' := [.inl 10]) (m' := m) [((31, .bipush 10, 2, 0, 0, 0, 0), (0, 0, 0))] (by decide +kernel) rfl ?_
    exact hx_reti (by decide +kernel) (h1 c1)
  refine hsw_c (fun c2 => ?_) (fun c2 => ?_)
  · have c2 : x0 = 105 := c2
    refine hx_blk (npc := 30) (L' := [(0, .inl x0)]) (st' := [.inl 99]) (m' := m) [((28, .bipush 99, 2, 0, 0, 0, 0), (0, 0, 0))] (by decide +kernel) rfl ?_
    exact hx_reti (by decide +kernel) (h2 c1 c2)
  refine hsw_n ?_
  refine hx_blk (npc := 37) (L' := [(0, .inl x0)]) (st' := [.inl 999]) (m' := m) [((34, .sipush 999, 3, 0, 0, 0, 0), (0, 0, 0))] (by decide +kernel) rfl ?_
  exact hx_reti (by decide +kernel) (h3 c1 c2)
end
section
/-! what a letter stands for, clauses that hold: roads of the reference -/
/-- isOwned from 0 on -/
theorem hr205_0 {xs : List Int32} {n : Nat} {Q : hQ} {m : gx_M} {x1 x2 : Int}
    (h1 : ((m 87 (gx_w (440 + x1)).toNat) ≠ 0) → ((m 87 (gx_w (240 + x1)).toNat) ≠ x2) → Q (some (.inl 0)) m)
    (h2 : ((m 87 (gx_w (440 + x1)).toNat) ≠ 0) → ((m 87 (gx_w (240 + x1)).toNat) = x2) → Q (some (.inl 1)) m)
    (h3 : ((m 87 (gx_w (440 + x1)).toNat) = 0) → Q (some (.inl 0)) m) : hxn xs (n + 1) yp_m205 0 [(0, .inr (.inl 86)), (1, .inl x1), (2, .inl x2)] [] m Q := by
  refine hx_blks (npc := 10) (L' := [(0, .inr (.inl 86)), (1, .inl x1), (2, .inl x2)]) (st' := [.inl (m 87 (gx_w (440 + x1)).toNat)]) (m' := m) ((0, .aload_n 0, 1, 0, 0, 0, 0), (0, 0, 0)) [((1, .getfield 7, 3, 10, 0, 5113, 0), (1, 86, 87)), ((4, .sipush 440, 3, 0, 0, 0, 0), (0, 0, 0)), ((7, .iload_n 1, 1, 0, 0, 0, 0), (0, 0, 0)), ((8, .iadd, 1, 0, 0, 0, 0), (0, 0, 0)), ((9, .iaload, 1, 0, 0, 0, 0), (0, 87, 0))] (by decide +kernel) rfl ?_
  refine hx_if .ne 15 (by decide +kernel) (fun c1 => ?_) (fun c1 => ?_)
  · have c1 : (m 87 (gx_w (440 + x1)).toNat) ≠ 0 := c1
    refine hx_blk (npc := 26) (L' := [(0, .inr (.inl 86)), (1, .inl x1), (2, .inl x2)]) (st' := [.inl x2, .inl (m 87 (gx_w (240 + x1)).toNat)]) (m' := m) [((15, .aload_n 0, 1, 0, 0, 0, 0), (0, 0, 0)), ((16, .getfield 7, 3, 10, 0, 5113, 0), (1, 86, 87)), ((19, .sipush 240, 3, 0, 0, 0, 0), (0, 0, 0)), ((22, .iload_n 1, 1, 0, 0, 0, 0), (0, 0, 0)), ((23, .iadd, 1, 0, 0, 0, 0), (0, 0, 0)), ((24, .iaload, 1, 0, 0, 0, 0), (0, 87, 0)), ((25, .iload_n 2, 1, 0, 0, 0, 0), (0, 0, 0))] (by decide +kernel) rfl ?_
    refine hx_cmp .ne 33 (by decide +kernel) (fun c2 => ?_) (fun c2 => ?_)
    · have c2 : (m 87 (gx_w (240 + x1)).toNat) ≠ x2 := c2
      refine hx_blk (npc := 34) (L' := [(0, .inr (.inl 86)), (1, .inl x1), (2, .inl x2)]) (st' := [.inl 0]) (m' := m) [((33, .iconst 0, 1, 0, 0, 0, 0), (0, 0, 0))] (by decide +kernel) rfl ?_
      exact hx_reti (by decide +kernel) (h1 c1 c2)
    · have c2 : (m 87 (gx_w (240 + x1)).toNat) = x2 := by have h : ¬ ((m 87 (gx_w (240 + x1)).toNat) ≠ x2) := c2; omega
      refine hx_blk (npc := 34) (L' := [(0, .inr (.inl 86)), (1, .inl x1), (2, .inl x2)]) (st' := [.inl 1]) (m' := m) [((29, .iconst 1, 1, 0, 0, 0, 0), (0, 0, 0)), ((30, .goto 4, 3, 0, 0, 0, 0), (0, 0, 0))] (by decide +kernel) rfl ?_
      exact hx_reti (by decide +kernel) (h2 c1 c2)
  · have c1 : (m 87 (gx_w (440 + x1)).toNat) = 0 := by have h : ¬ ((m 87 (gx_w (440 + x1)).toNat) ≠ 0) := c1; omega
    refine hx_blk (npc := 14) (L' := [(0, .inr (.inl 86)), (1, .inl x1), (2, .inl x2)]) (st' := [.inl 0]) (m' := m) [((13, .iconst 0, 1, 0, 0, 0, 0), (0, 0, 0))] (by decide +kernel) rfl ?_
    exact hx_reti (by decide +kernel) (h3 c1)

/-- bits from 0 on -/
theorem hr206_0 {xs : List Int32} {n : Nat} {Q : hQ} {m : gx_M} {x0 : Int}
    (h1 : hxn xs n yp_m206 4 [(0, .inl x0), (1, .inl 0), (2, .inl 0)] [] m Q) : hxn xs (n + 1) yp_m206 0 [(0, .inl x0)] [] m Q := by
  refine hx_blks (npc := 4) (L' := [(0, .inl x0), (1, .inl 0), (2, .inl 0)]) (st' := []) (m' := m) ((0, .iconst 0, 1, 0, 0, 0, 0), (0, 0, 0)) [((1, .istore_n 1, 1, 0, 0, 0, 0), (0, 0, 0)), ((2, .iconst 0, 1, 0, 0, 0, 0), (0, 0, 0)), ((3, .istore_n 2, 1, 0, 0, 0, 0), (0, 0, 0))] (by decide +kernel) rfl ?_
  exact hx_pick [0, 1, 2] h1

/-- bits from 4 on -/
theorem hr206_4 {xs : List Int32} {n : Nat} {Q : hQ} {m : gx_M} {x0 x1 x2 : Int}
    (h1 : (20 ≤ x2) → Q (some (.inl x1)) m)
    (h2 : (x2 < 20) → hxn xs n yp_m206 4 [(0, .inl x0), (1, .inl (gx_w (x1 + (gx_and (gx_shr x0 x2) 1)))), (2, .inl (gx_w (x2 + 1)))] [] m Q) : hxn xs (n + 1) yp_m206 4 [(0, .inl x0), (1, .inl x1), (2, .inl x2)] [] m Q := by
  refine hx_blks (npc := 7) (L' := [(0, .inl x0), (1, .inl x1), (2, .inl x2)]) (st' := [.inl 20, .inl x2]) (m' := m) ((4, .iload_n 2, 1, 0, 0, 0, 0), (0, 0, 0)) [((5, .bipush 20, 2, 0, 0, 0, 0), (0, 0, 0))] (by decide +kernel) rfl ?_
  refine hx_cmp .ge 24 (by decide +kernel) (fun c1 => ?_) (fun c1 => ?_)
  · have c1 : 20 ≤ x2 := c1
    refine hx_blk (npc := 25) (L' := [(0, .inl x0), (1, .inl x1), (2, .inl x2)]) (st' := [.inl x1]) (m' := m) [((24, .iload_n 1, 1, 0, 0, 0, 0), (0, 0, 0))] (by decide +kernel) rfl ?_
    exact hx_reti (by decide +kernel) (h1 c1)
  · have c1 : x2 < 20 := by have h : ¬ (20 ≤ x2) := c1; omega
    have f1 := gx_and_bd (gx_shr x0 x2) 1 (by decide)
    refine hx_blk (npc := 4) (L' := [(0, .inl x0), (1, .inl (gx_w (x1 + (gx_and (gx_shr x0 x2) 1)))), (2, .inl (gx_w (x2 + 1)))]) (st' := []) (m' := m) [((10, .iload_n 1, 1, 0, 0, 0, 0), (0, 0, 0)), ((11, .iload_n 0, 1, 0, 0, 0, 0), (0, 0, 0)), ((12, .iload_n 2, 1, 0, 0, 0, 0), (0, 0, 0)), ((13, .ishr, 1, 0, 0, 0, 0), (0, 0, 0)), ((14, .iconst 1, 1, 0, 0, 0, 0), (0, 0, 0)), ((15, .iand, 1, 0, 0, 0, 0), (0, 0, 0)), ((16, .iadd, 1, 0, 0, 0, 0), (0, 0, 0)), ((17, .istore_n 1, 1, 0, 0, 0, 0), (0, 0, 0)), ((18, .iinc 2 1, 3, 0, 0, 0, 0), (0, 0, 0)), ((21, .goto (-17), 3, 0, 0, 0, 0), (0, 0, 0))] (by decide +kernel) rfl ?_
    exact hx_pick [0, 1, 2] (h2 c1)

/-- ageOf from 0 on -/
theorem hr204_0 {xs : List Int32} {n : Nat} {Q : hQ} {m : gx_M} {x1 : Int}
    (h1 : hxn xs n yp_m204 4 [(0, .inr (.inl 86)), (1, .inl x1), (2, .inl 0), (3, .inl 0)] [] m Q) : hxn xs (n + 1) yp_m204 0 [(0, .inr (.inl 86)), (1, .inl x1)] [] m Q := by
  refine hx_blks (npc := 4) (L' := [(0, .inr (.inl 86)), (1, .inl x1), (2, .inl 0), (3, .inl 0)]) (st' := []) (m' := m) ((0, .iconst 0, 1, 0, 0, 0, 0), (0, 0, 0)) [((1, .istore_n 2, 1, 0, 0, 0, 0), (0, 0, 0)), ((2, .iconst 0, 1, 0, 0, 0, 0), (0, 0, 0)), ((3, .istore_n 3, 1, 0, 0, 0, 0), (0, 0, 0))] (by decide +kernel) rfl ?_
  exact hx_pick [0, 1, 2, 3] h1

/-- ageOf from 4 on -/
theorem hr204_4 {xs : List Int32} {n : Nat} {Q : hQ} {m : gx_M} {x1 x2 x3 : Int}
    (h1 : (40 ≤ x3) → Q (some (.inl x2)) m)
    (h2 : (x3 < 40) → hxn xs n yp_m205 0 [(0, .inr (.inl 86)), (1, .inl x3), (2, .inl x1)] [] m (fun r m' => hxn xs n yp_m204 17 [(0, .inr (.inl 86)), (1, .inl x1), (3, .inl x3)] (hrs r ++ [.inl x2]) m' Q)) : hxn xs (n + 1) yp_m204 4 [(0, .inr (.inl 86)), (1, .inl x1), (2, .inl x2), (3, .inl x3)] [] m Q := by
  refine hx_blks (npc := 7) (L' := [(0, .inr (.inl 86)), (1, .inl x1), (2, .inl x2), (3, .inl x3)]) (st' := [.inl 40, .inl x3]) (m' := m) ((4, .iload_n 3, 1, 0, 0, 0, 0), (0, 0, 0)) [((5, .bipush 40, 2, 0, 0, 0, 0), (0, 0, 0))] (by decide +kernel) rfl ?_
  refine hx_cmp .ge 33 (by decide +kernel) (fun c1 => ?_) (fun c1 => ?_)
  · have c1 : 40 ≤ x3 := c1
    refine hx_blk (npc := 34) (L' := [(0, .inr (.inl 86)), (1, .inl x1), (2, .inl x2), (3, .inl x3)]) (st' := [.inl x2]) (m' := m) [((33, .iload_n 2, 1, 0, 0, 0, 0), (0, 0, 0))] (by decide +kernel) rfl ?_
    exact hx_reti (by decide +kernel) (h1 c1)
  · have c1 : x3 < 40 := by have h : ¬ (40 ≤ x3) := c1; omega
    refine hx_blk (npc := 14) (L' := [(0, .inr (.inl 86)), (1, .inl x1), (2, .inl x2), (3, .inl x3)]) (st' := [.inl x1, .inl x3, .inr (.inl 86), .inl x2]) (m' := m) [((10, .iload_n 2, 1, 0, 0, 0, 0), (0, 0, 0)), ((11, .aload_n 0, 1, 0, 0, 0, 0), (0, 0, 0)), ((12, .iload_n 3, 1, 0, 0, 0, 0), (0, 0, 0)), ((13, .iload_n 1, 1, 0, 0, 0, 0), (0, 0, 0))] (by decide +kernel) rfl ?_
    exact hx_call (E := (14, .invokevirtual 117, 3, 205, 0, 6191, 0)) (M' := yp_m205) [.inr (.inl 86), .inl x3, .inl x1] [.inl x2] rfl (by decide +kernel) rfl ⟨rfl, rfl⟩ rfl rfl (hx_mono (h2 c1) (fun r m' h' => hx_pick [0, 1, 3] h'))

/-- ageOf from 17 on -/
theorem hr204_17 {xs : List Int32} {n : Nat} {Q : hQ} {m : gx_M} {x1 x3 s0 s1 : Int}
    (h1 : (s1 = 0) → hxn xs n yp_m204 4 [(0, .inr (.inl 86)), (1, .inl x1), (2, .inl (gx_w (s0 + 0))), (3, .inl (gx_w (x3 + 1)))] [] m Q)
    (h2 : (s1 ≠ 0) → hxn xs n yp_m204 4 [(0, .inr (.inl 86)), (1, .inl x1), (2, .inl (gx_w (s0 + 1))), (3, .inl (gx_w (x3 + 1)))] [] m Q) : hxn xs (n + 1) yp_m204 17 [(0, .inr (.inl 86)), (1, .inl x1), (3, .inl x3)] [.inl s1, .inl s0] m Q := by
  refine hx_ifs .eq 24 (by decide +kernel) (fun c1 => ?_) (fun c1 => ?_)
  · have c1 : s1 = 0 := c1
    refine hx_blk (npc := 4) (L' := [(0, .inr (.inl 86)), (1, .inl x1), (3, .inl (gx_w (x3 + 1))), (2, .inl (gx_w (s0 + 0)))]) (st' := []) (m' := m) [((24, .iconst 0, 1, 0, 0, 0, 0), (0, 0, 0)), ((25, .iadd, 1, 0, 0, 0, 0), (0, 0, 0)), ((26, .istore_n 2, 1, 0, 0, 0, 0), (0, 0, 0)), ((27, .iinc 3 1, 3, 0, 0, 0, 0), (0, 0, 0)), ((30, .goto (-26), 3, 0, 0, 0, 0), (0, 0, 0))] (by decide +kernel) rfl ?_
    exact hx_pick [0, 1, 2, 3] (h1 c1)
  · have c1 : s1 ≠ 0 := c1
    refine hx_blk (npc := 4) (L' := [(0, .inr (.inl 86)), (1, .inl x1), (3, .inl (gx_w (x3 + 1))), (2, .inl (gx_w (s0 + 1)))]) (st' := []) (m' := m) [((20, .iconst 1, 1, 0, 0, 0, 0), (0, 0, 0)), ((21, .goto 4, 3, 0, 0, 0, 0), (0, 0, 0)), ((25, .iadd, 1, 0, 0, 0, 0), (0, 0, 0)), ((26, .istore_n 2, 1, 0, 0, 0, 0), (0, 0, 0)), ((27, .iinc 3 1, 3, 0, 0, 0, 0), (0, 0, 0)), ((30, .goto (-26), 3, 0, 0, 0, 0), (0, 0, 0))] (by decide +kernel) rfl ?_
    exact hx_pick [0, 1, 2, 3] (h2 c1)

/-- knownBut from 0 on -/
theorem hr207_0 {xs : List Int32} {n : Nat} {Q : hQ} {m : gx_M} {x1 x2 : Int}
    (h1 : hxn xs n yp_m207 5 [(0, .inr (.inl 86)), (1, .inl x1), (2, .inl x2), (3, .inl 0), (4, .inl 0)] [] m Q) : hxn xs (n + 1) yp_m207 0 [(0, .inr (.inl 86)), (1, .inl x1), (2, .inl x2)] [] m Q := by
  refine hx_blks (npc := 5) (L' := [(0, .inr (.inl 86)), (1, .inl x1), (2, .inl x2), (3, .inl 0), (4, .inl 0)]) (st' := []) (m' := m) ((0, .iconst 0, 1, 0, 0, 0, 0), (0, 0, 0)) [((1, .istore_n 3, 1, 0, 0, 0, 0), (0, 0, 0)), ((2, .iconst 0, 1, 0, 0, 0, 0), (0, 0, 0)), ((3, .istore 4, 2, 0, 0, 0, 0), (0, 0, 0))] (by decide +kernel) rfl ?_
  exact hx_pick [0, 1, 2, 3, 4] h1

/-- knownBut from 5 on -/
theorem hr207_5 {xs : List Int32} {n : Nat} {Q : hQ} {m : gx_M} {x1 x2 x3 x4 : Int}
    (h1 : (40 ≤ x4) → Q (some (.inl x3)) m)
    (h2 : (x4 < 40) → (x4 = x2) → hxn xs n yp_m207 5 [(0, .inr (.inl 86)), (1, .inl x1), (2, .inl x2), (3, .inl x3), (4, .inl (gx_w (x4 + 1)))] [] m Q)
    (h3 : (x4 < 40) → (x4 ≠ x2) → hxn xs n yp_m205 0 [(0, .inr (.inl 86)), (1, .inl x4), (2, .inl x1)] [] m (fun r m' => hxn xs n yp_m207 25 [(0, .inr (.inl 86)), (1, .inl x1), (2, .inl x2), (3, .inl x3), (4, .inl x4)] (hrs r ++ []) m' Q)) : hxn xs (n + 1) yp_m207 5 [(0, .inr (.inl 86)), (1, .inl x1), (2, .inl x2), (3, .inl x3), (4, .inl x4)] [] m Q := by
  refine hx_blks (npc := 9) (L' := [(0, .inr (.inl 86)), (1, .inl x1), (2, .inl x2), (3, .inl x3), (4, .inl x4)]) (st' := [.inl 40, .inl x4]) (m' := m) ((5, .iload 4, 2, 0, 0, 0, 0), (0, 0, 0)) [((7, .bipush 40, 2, 0, 0, 0, 0), (0, 0, 0))] (by decide +kernel) rfl ?_
  refine hx_cmp .ge 47 (by decide +kernel) (fun c1 => ?_) (fun c1 => ?_)
  · have c1 : 40 ≤ x4 := c1
    refine hx_blk (npc := 48) (L' := [(0, .inr (.inl 86)), (1, .inl x1), (2, .inl x2), (3, .inl x3), (4, .inl x4)]) (st' := [.inl x3]) (m' := m) [((47, .iload_n 3, 1, 0, 0, 0, 0), (0, 0, 0))] (by decide +kernel) rfl ?_
    exact hx_reti (by decide +kernel) (h1 c1)
  · have c1 : x4 < 40 := by have h : ¬ (40 ≤ x4) := c1; omega
    refine hx_blk (npc := 15) (L' := [(0, .inr (.inl 86)), (1, .inl x1), (2, .inl x2), (3, .inl x3), (4, .inl x4)]) (st' := [.inl x2, .inl x4]) (m' := m) [((12, .iload 4, 2, 0, 0, 0, 0), (0, 0, 0)), ((14, .iload_n 2, 1, 0, 0, 0, 0), (0, 0, 0))] (by decide +kernel) rfl ?_
    refine hx_cmp .eq 41 (by decide +kernel) (fun c2 => ?_) (fun c2 => ?_)
    · have c2 : x4 = x2 := c2
      refine hx_blk (npc := 5) (L' := [(0, .inr (.inl 86)), (1, .inl x1), (2, .inl x2), (3, .inl x3), (4, .inl (gx_w (x4 + 1)))]) (st' := []) (m' := m) [((41, .iinc 4 1, 3, 0, 0, 0, 0), (0, 0, 0)), ((44, .goto (-39), 3, 0, 0, 0, 0), (0, 0, 0))] (by decide +kernel) rfl ?_
      exact hx_pick [0, 1, 2, 3, 4] (h2 c1 c2)
    · have c2 : x4 ≠ x2 := c2
      refine hx_blk (npc := 22) (L' := [(0, .inr (.inl 86)), (1, .inl x1), (2, .inl x2), (3, .inl x3), (4, .inl x4)]) (st' := [.inl x1, .inl x4, .inr (.inl 86)]) (m' := m) [((18, .aload_n 0, 1, 0, 0, 0, 0), (0, 0, 0)), ((19, .iload 4, 2, 0, 0, 0, 0), (0, 0, 0)), ((21, .iload_n 1, 1, 0, 0, 0, 0), (0, 0, 0))] (by decide +kernel) rfl ?_
      exact hx_call (E := (22, .invokevirtual 117, 3, 205, 0, 6191, 0)) (M' := yp_m205) [.inr (.inl 86), .inl x4, .inl x1] [] rfl (by decide +kernel) rfl ⟨rfl, rfl⟩ rfl rfl (hx_mono (h3 c1 c2) (fun r m' h' => hx_pick [0, 1, 2, 3, 4] h'))

/-- knownBut from 25 on -/
theorem hr207_25 {xs : List Int32} {n : Nat} {Q : hQ} {m : gx_M} {x1 x2 x3 x4 s0 : Int}
    (h1 : (s0 = 0) → hxn xs n yp_m207 5 [(0, .inr (.inl 86)), (1, .inl x1), (2, .inl x2), (3, .inl x3), (4, .inl (gx_w (x4 + 1)))] [] m Q)
    (h2 : (s0 ≠ 0) → hxn xs n yp_m207 5 [(0, .inr (.inl 86)), (1, .inl x1), (2, .inl x2), (3, .inl (gx_or x3 (m 87 (gx_w (80 + x4)).toNat))), (4, .inl (gx_w (x4 + 1)))] [] m Q) : hxn xs (n + 1) yp_m207 25 [(0, .inr (.inl 86)), (1, .inl x1), (2, .inl x2), (3, .inl x3), (4, .inl x4)] [.inl s0] m Q := by
  refine hx_ifs .eq 41 (by decide +kernel) (fun c1 => ?_) (fun c1 => ?_)
  · have c1 : s0 = 0 := c1
    refine hx_blk (npc := 5) (L' := [(0, .inr (.inl 86)), (1, .inl x1), (2, .inl x2), (3, .inl x3), (4, .inl (gx_w (x4 + 1)))]) (st' := []) (m' := m) [((41, .iinc 4 1, 3, 0, 0, 0, 0), (0, 0, 0)), ((44, .goto (-39), 3, 0, 0, 0, 0), (0, 0, 0))] (by decide +kernel) rfl ?_
    exact hx_pick [0, 1, 2, 3, 4] (h1 c1)
  · have c1 : s0 ≠ 0 := c1
    refine hx_blk (npc := 5) (L' := [(0, .inr (.inl 86)), (1, .inl x1), (2, .inl x2), (3, .inl (gx_or x3 (m 87 (gx_w (80 + x4)).toNat))), (4, .inl (gx_w (x4 + 1)))]) (st' := []) (m' := m) [((28, .iload_n 3, 1, 0, 0, 0, 0), (0, 0, 0)), ((29, .aload_n 0, 1, 0, 0, 0, 0), (0, 0, 0)), ((30, .getfield 7, 3, 10, 0, 5113, 0), (1, 86, 87)), ((33, .bipush 80, 2, 0, 0, 0, 0), (0, 0, 0)), ((35, .iload 4, 2, 0, 0, 0, 0), (0, 0, 0)), ((37, .iadd, 1, 0, 0, 0, 0), (0, 0, 0)), ((38, .iaload, 1, 0, 0, 0, 0), (0, 87, 0)), ((39, .ior, 1, 0, 0, 0, 0), (0, 0, 0)), ((40, .istore_n 3, 1, 0, 0, 0, 0), (0, 0, 0)), ((41, .iinc 4 1, 3, 0, 0, 0, 0), (0, 0, 0)), ((44, .goto (-39), 3, 0, 0, 0, 0), (0, 0, 0))] (by decide +kernel) rfl ?_
    exact hx_pick [0, 1, 2, 3, 4] (h2 c1)

/-- feelsPerson from 0 on -/
theorem hr203_0 {xs : List Int32} {n : Nat} {Q : hQ} {m : gx_M} {x1 : Int}
    (h1 : hxn xs n yp_m203 2 [(0, .inr (.inl 86)), (1, .inl x1), (2, .inl 0)] [] m Q) : hxn xs (n + 1) yp_m203 0 [(0, .inr (.inl 86)), (1, .inl x1)] [] m Q := by
  refine hx_blks (npc := 2) (L' := [(0, .inr (.inl 86)), (1, .inl x1), (2, .inl 0)]) (st' := []) (m' := m) ((0, .iconst 0, 1, 0, 0, 0, 0), (0, 0, 0)) [((1, .istore_n 2, 1, 0, 0, 0, 0), (0, 0, 0))] (by decide +kernel) rfl ?_
  exact hx_pick [0, 1, 2] h1

/-- feelsPerson from 2 on -/
theorem hr203_2 {xs : List Int32} {n : Nat} {Q : hQ} {m : gx_M} {x1 x2 : Int}
    (h1 : (14 ≤ x2) → hxn xs n yp_m204 0 [(0, .inr (.inl 86)), (1, .inl x1)] [] (gx_u (gx_u m 103 0 (m 87 1129)) 103 9 x1) (fun r m' => hxn xs n yp_m203 54 [(0, .inr (.inl 86)), (1, .inl x1)] (hrs r ++ [.inl 10, .inr (.inl 103)]) m' Q))
    (h2 : (x2 < 14) → hxn xs n yp_m203 2 [(0, .inr (.inl 86)), (1, .inl x1), (2, .inl (gx_w (x2 + 1)))] [] (gx_u m 103 (x2).toNat 0) Q) : hxn xs (n + 1) yp_m203 2 [(0, .inr (.inl 86)), (1, .inl x1), (2, .inl x2)] [] m Q := by
  refine hx_blks (npc := 5) (L' := [(0, .inr (.inl 86)), (1, .inl x1), (2, .inl x2)]) (st' := [.inl 14, .inl x2]) (m' := m) ((2, .iload_n 2, 1, 0, 0, 0, 0), (0, 0, 0)) [((3, .bipush 14, 2, 0, 0, 0, 0), (0, 0, 0))] (by decide +kernel) rfl ?_
  refine hx_cmp .ge 21 (by decide +kernel) (fun c1 => ?_) (fun c1 => ?_)
  · have c1 : 14 ≤ x2 := c1
    refine hx_blk (npc := 51) (L' := [(0, .inr (.inl 86)), (1, .inl x1), (2, .inl x2)]) (st' := [.inl x1, .inr (.inl 86), .inl 10, .inr (.inl 103)]) (m' := (gx_u (gx_u m 103 0 (m 87 1129)) 103 9 x1)) [((21, .aload_n 0, 1, 0, 0, 0, 0), (0, 0, 0)), ((22, .getfield 59, 3, 10, 26, 5139, 0), (1, 86, 103)), ((25, .iconst 0, 1, 0, 0, 0, 0), (0, 0, 0)), ((26, .aload_n 0, 1, 0, 0, 0, 0), (0, 0, 0)), ((27, .getfield 7, 3, 10, 0, 5113, 0), (1, 86, 87)), ((30, .sipush 1129, 3, 0, 0, 0, 0), (0, 0, 0)), ((33, .iaload, 1, 0, 0, 0, 0), (0, 87, 0)), ((34, .iastore, 1, 0, 0, 0, 0), (0, 103, 0)), ((35, .aload_n 0, 1, 0, 0, 0, 0), (0, 0, 0)), ((36, .getfield 59, 3, 10, 26, 5139, 0), (1, 86, 103)), ((39, .bipush 9, 2, 0, 0, 0, 0), (0, 0, 0)), ((41, .iload_n 1, 1, 0, 0, 0, 0), (0, 0, 0)), ((42, .iastore, 1, 0, 0, 0, 0), (0, 103, 0)), ((43, .aload_n 0, 1, 0, 0, 0, 0), (0, 0, 0)), ((44, .getfield 59, 3, 10, 26, 5139, 0), (1, 86, 103)), ((47, .bipush 10, 2, 0, 0, 0, 0), (0, 0, 0)), ((49, .aload_n 0, 1, 0, 0, 0, 0), (0, 0, 0)), ((50, .iload_n 1, 1, 0, 0, 0, 0), (0, 0, 0))] (by decide +kernel) rfl ?_
    exact hx_call (E := (51, .invokevirtual 235, 3, 204, 0, 6187, 0)) (M' := yp_m204) [.inr (.inl 86), .inl x1] [.inl 10, .inr (.inl 103)] rfl (by decide +kernel) rfl ⟨rfl, rfl⟩ rfl rfl (hx_mono (h1 c1) (fun r m' h' => hx_pick [0, 1] h'))
  · have c1 : x2 < 14 := by have h : ¬ (14 ≤ x2) := c1; omega
    refine hx_blk (npc := 2) (L' := [(0, .inr (.inl 86)), (1, .inl x1), (2, .inl (gx_w (x2 + 1)))]) (st' := []) (m' := (gx_u m 103 (x2).toNat 0)) [((8, .aload_n 0, 1, 0, 0, 0, 0), (0, 0, 0)), ((9, .getfield 59, 3, 10, 26, 5139, 0), (1, 86, 103)), ((12, .iload_n 2, 1, 0, 0, 0, 0), (0, 0, 0)), ((13, .iconst 0, 1, 0, 0, 0, 0), (0, 0, 0)), ((14, .iastore, 1, 0, 0, 0, 0), (0, 103, 0)), ((15, .iinc 2 1, 3, 0, 0, 0, 0), (0, 0, 0)), ((18, .goto (-16), 3, 0, 0, 0, 0), (0, 0, 0))] (by decide +kernel) rfl ?_
    exact hx_pick [0, 1, 2] (h2 c1)

/-- feelsPerson from 54 on -/
theorem hr203_54 {xs : List Int32} {n : Nat} {Q : hQ} {m : gx_M} {x1 s1 s2 : Int}
    (h1 : Q none (gx_u (gx_u m 103 (s1).toNat s2) 103 11 (m 87 (gx_w (1120 + x1)).toNat))) : hxn xs (n + 1) yp_m203 54 [(0, .inr (.inl 86)), (1, .inl x1)] [.inl s2, .inl s1, .inr (.inl 103)] m Q := by
  refine hx_blks (npc := 72) (L' := [(0, .inr (.inl 86)), (1, .inl x1)]) (st' := []) (m' := (gx_u (gx_u m 103 (s1).toNat s2) 103 11 (m 87 (gx_w (1120 + x1)).toNat))) ((54, .iastore, 1, 0, 0, 0, 0), (0, 103, 0)) [((55, .aload_n 0, 1, 0, 0, 0, 0), (0, 0, 0)), ((56, .getfield 59, 3, 10, 26, 5139, 0), (1, 86, 103)), ((59, .bipush 11, 2, 0, 0, 0, 0), (0, 0, 0)), ((61, .aload_n 0, 1, 0, 0, 0, 0), (0, 0, 0)), ((62, .getfield 7, 3, 10, 0, 5113, 0), (1, 86, 87)), ((65, .sipush 1120, 3, 0, 0, 0, 0), (0, 0, 0)), ((68, .iload_n 1, 1, 0, 0, 0, 0), (0, 0, 0)), ((69, .iadd, 1, 0, 0, 0, 0), (0, 0, 0)), ((70, .iaload, 1, 0, 0, 0, 0), (0, 87, 0)), ((71, .iastore, 1, 0, 0, 0, 0), (0, 103, 0))] (by decide +kernel) rfl ?_
  exact hx_ret0 (by decide +kernel) h1

/-- feels from 0 on -/
theorem hr202_0 {xs : List Int32} {n : Nat} {Q : hQ} {m : gx_M} {x1 x2 x3 : Int}
    (h1 : hxn xs n yp_m203 0 [(0, .inr (.inl 86)), (1, .inl x2)] [] m (fun r m' => hxn xs n yp_m202 5 [(0, .inr (.inl 86)), (1, .inl x1), (2, .inl x2), (3, .inl x3)] (hrs r ++ []) m' Q)) : hxn xs (n + 1) yp_m202 0 [(0, .inr (.inl 86)), (1, .inl x1), (2, .inl x2), (3, .inl x3)] [] m Q := by
  refine hx_blks (npc := 2) (L' := [(0, .inr (.inl 86)), (1, .inl x1), (2, .inl x2), (3, .inl x3)]) (st' := [.inl x2, .inr (.inl 86)]) (m' := m) ((0, .aload_n 0, 1, 0, 0, 0, 0), (0, 0, 0)) [((1, .iload_n 2, 1, 0, 0, 0, 0), (0, 0, 0))] (by decide +kernel) rfl ?_
  exact hx_call (E := (2, .invokevirtual 238, 3, 203, 0, 6183, 0)) (M' := yp_m203) [.inr (.inl 86), .inl x2] [] rfl (by decide +kernel) rfl ⟨rfl, rfl⟩ rfl rfl (hx_mono h1 (fun r m' h' => hx_pick [0, 1, 2, 3] h'))

/-- feels from 5 on -/
theorem hr202_5 {xs : List Int32} {n : Nat} {Q : hQ} {m : gx_M} {x1 x2 x3 : Int}
    (h1 : hxn xs n yp_m206 0 [(0, .inl (m 87 (gx_w (80 + x1)).toNat))] [] (gx_u (gx_u (gx_u (gx_u m 103 1 x1) 103 2 (m 87 (gx_w (0 + x1)).toNat)) 103 3 (m 87 (gx_w (40 + x1)).toNat)) 103 4 (m 87 (gx_w (240 + x1)).toNat)) (fun r m' => hxn xs n yp_m202 74 [(0, .inr (.inl 86)), (1, .inl x1), (2, .inl x2), (3, .inl x3)] (hrs r ++ [.inl 5, .inr (.inl 103)]) m' Q)) : hxn xs (n + 1) yp_m202 5 [(0, .inr (.inl 86)), (1, .inl x1), (2, .inl x2), (3, .inl x3)] [] m Q := by
  refine hx_blks (npc := 71) (L' := [(0, .inr (.inl 86)), (1, .inl x1), (2, .inl x2), (3, .inl x3)]) (st' := [.inl (m 87 (gx_w (80 + x1)).toNat), .inl 5, .inr (.inl 103)]) (m' := (gx_u (gx_u (gx_u (gx_u m 103 1 x1) 103 2 (m 87 (gx_w (0 + x1)).toNat)) 103 3 (m 87 (gx_w (40 + x1)).toNat)) 103 4 (m 87 (gx_w (240 + x1)).toNat))) ((5, .aload_n 0, 1, 0, 0, 0, 0), (0, 0, 0)) [((6, .getfield 59, 3, 10, 26, 5139, 0), (1, 86, 103)), ((9, .iconst 1, 1, 0, 0, 0, 0), (0, 0, 0)), ((10, .iload_n 1, 1, 0, 0, 0, 0), (0, 0, 0)), ((11, .iastore, 1, 0, 0, 0, 0), (0, 103, 0)), ((12, .aload_n 0, 1, 0, 0, 0, 0), (0, 0, 0)), ((13, .getfield 59, 3, 10, 26, 5139, 0), (1, 86, 103)), ((16, .iconst 2, 1, 0, 0, 0, 0), (0, 0, 0)), ((17, .aload_n 0, 1, 0, 0, 0, 0), (0, 0, 0)), ((18, .getfield 7, 3, 10, 0, 5113, 0), (1, 86, 87)), ((21, .iconst 0, 1, 0, 0, 0, 0), (0, 0, 0)), ((22, .iload_n 1, 1, 0, 0, 0, 0), (0, 0, 0)), ((23, .iadd, 1, 0, 0, 0, 0), (0, 0, 0)), ((24, .iaload, 1, 0, 0, 0, 0), (0, 87, 0)), ((25, .iastore, 1, 0, 0, 0, 0), (0, 103, 0)), ((26, .aload_n 0, 1, 0, 0, 0, 0), (0, 0, 0)), ((27, .getfield 59, 3, 10, 26, 5139, 0), (1, 86, 103)), ((30, .iconst 3, 1, 0, 0, 0, 0), (0, 0, 0)), ((31, .aload_n 0, 1, 0, 0, 0, 0), (0, 0, 0)), ((32, .getfield 7, 3, 10, 0, 5113, 0), (1, 86, 87)), ((35, .bipush 40, 2, 0, 0, 0, 0), (0, 0, 0)), ((37, .iload_n 1, 1, 0, 0, 0, 0), (0, 0, 0)), ((38, .iadd, 1, 0, 0, 0, 0), (0, 0, 0)), ((39, .iaload, 1, 0, 0, 0, 0), (0, 87, 0)), ((40, .iastore, 1, 0, 0, 0, 0), (0, 103, 0)), ((41, .aload_n 0, 1, 0, 0, 0, 0), (0, 0, 0)), ((42, .getfield 59, 3, 10, 26, 5139, 0), (1, 86, 103)), ((45, .iconst 4, 1, 0, 0, 0, 0), (0, 0, 0)), ((46, .aload_n 0, 1, 0, 0, 0, 0), (0, 0, 0)), ((47, .getfield 7, 3, 10, 0, 5113, 0), (1, 86, 87)), ((50, .sipush 240, 3, 0, 0, 0, 0), (0, 0, 0)), ((53, .iload_n 1, 1, 0, 0, 0, 0), (0, 0, 0)), ((54, .iadd, 1, 0, 0, 0, 0), (0, 0, 0)), ((55, .iaload, 1, 0, 0, 0, 0), (0, 87, 0)), ((56, .iastore, 1, 0, 0, 0, 0), (0, 103, 0)), ((57, .aload_n 0, 1, 0, 0, 0, 0), (0, 0, 0)), ((58, .getfield 59, 3, 10, 26, 5139, 0), (1, 86, 103)), ((61, .iconst 5, 1, 0, 0, 0, 0), (0, 0, 0)), ((62, .aload_n 0, 1, 0, 0, 0, 0), (0, 0, 0)), ((63, .getfield 7, 3, 10, 0, 5113, 0), (1, 86, 87)), ((66, .bipush 80, 2, 0, 0, 0, 0), (0, 0, 0)), ((68, .iload_n 1, 1, 0, 0, 0, 0), (0, 0, 0)), ((69, .iadd, 1, 0, 0, 0, 0), (0, 0, 0)), ((70, .iaload, 1, 0, 0, 0, 0), (0, 87, 0))] (by decide +kernel) rfl ?_
  exact hx_call (E := (71, .invokestatic 241, 3, 206, 0, 6195, 0)) (M' := yp_m206) [.inl (m 87 (gx_w (80 + x1)).toNat)] [.inl 5, .inr (.inl 103)] rfl (by decide +kernel) rfl ⟨rfl, rfl⟩ rfl rfl (hx_mono h1 (fun r m' h' => hx_pick [0, 1, 2, 3] h'))

/-- feels from 74 on -/
theorem hr202_74 {xs : List Int32} {n : Nat} {Q : hQ} {m : gx_M} {x1 x2 x3 s1 s2 : Int}
    (h1 : hxn xs n yp_m206 0 [(0, .inl (m 87 (gx_w (120 + x1)).toNat))] [] (gx_u m 103 (s1).toNat s2) (fun r m' => hxn xs n yp_m202 93 [(0, .inr (.inl 86)), (1, .inl x1), (2, .inl x2), (3, .inl x3)] (hrs r ++ [.inl 6, .inr (.inl 103)]) m' Q)) : hxn xs (n + 1) yp_m202 74 [(0, .inr (.inl 86)), (1, .inl x1), (2, .inl x2), (3, .inl x3)] [.inl s2, .inl s1, .inr (.inl 103)] m Q := by
  refine hx_blks (npc := 90) (L' := [(0, .inr (.inl 86)), (1, .inl x1), (2, .inl x2), (3, .inl x3)]) (st' := [.inl (m 87 (gx_w (120 + x1)).toNat), .inl 6, .inr (.inl 103)]) (m' := (gx_u m 103 (s1).toNat s2)) ((74, .iastore, 1, 0, 0, 0, 0), (0, 103, 0)) [((75, .aload_n 0, 1, 0, 0, 0, 0), (0, 0, 0)), ((76, .getfield 59, 3, 10, 26, 5139, 0), (1, 86, 103)), ((79, .bipush 6, 2, 0, 0, 0, 0), (0, 0, 0)), ((81, .aload_n 0, 1, 0, 0, 0, 0), (0, 0, 0)), ((82, .getfield 7, 3, 10, 0, 5113, 0), (1, 86, 87)), ((85, .bipush 120, 2, 0, 0, 0, 0), (0, 0, 0)), ((87, .iload_n 1, 1, 0, 0, 0, 0), (0, 0, 0)), ((88, .iadd, 1, 0, 0, 0, 0), (0, 0, 0)), ((89, .iaload, 1, 0, 0, 0, 0), (0, 87, 0))] (by decide +kernel) rfl ?_
  exact hx_call (E := (90, .invokestatic 241, 3, 206, 0, 6195, 0)) (M' := yp_m206) [.inl (m 87 (gx_w (120 + x1)).toNat)] [.inl 6, .inr (.inl 103)] rfl (by decide +kernel) rfl ⟨rfl, rfl⟩ rfl rfl (hx_mono h1 (fun r m' h' => hx_pick [0, 1, 2, 3] h'))

/-- feels from 93 on -/
theorem hr202_93 {xs : List Int32} {n : Nat} {Q : hQ} {m : gx_M} {x1 x2 x3 s1 s2 : Int}
    (h1 : hxn xs n yp_m207 0 [(0, .inr (.inl 86)), (1, .inl x2), (2, .inl x1)] [] (gx_u (gx_u (gx_u m 103 (s1).toNat s2) 103 7 (m 87 (gx_w (160 + x1)).toNat)) 103 8 (m 87 (gx_w (400 + x1)).toNat)) (fun r m' => hxn xs n yp_m202 149 [(0, .inr (.inl 86)), (3, .inl x3)] (hrs r ++ [.inl (m 87 (gx_w (80 + x1)).toNat), .inl 12, .inr (.inl 103)]) m' Q)) : hxn xs (n + 1) yp_m202 93 [(0, .inr (.inl 86)), (1, .inl x1), (2, .inl x2), (3, .inl x3)] [.inl s2, .inl s1, .inr (.inl 103)] m Q := by
  refine hx_blks (npc := 146) (L' := [(0, .inr (.inl 86)), (1, .inl x1), (2, .inl x2), (3, .inl x3)]) (st' := [.inl x1, .inl x2, .inr (.inl 86), .inl (m 87 (gx_w (80 + x1)).toNat), .inl 12, .inr (.inl 103)]) (m' := (gx_u (gx_u (gx_u m 103 (s1).toNat s2) 103 7 (m 87 (gx_w (160 + x1)).toNat)) 103 8 (m 87 (gx_w (400 + x1)).toNat))) ((93, .iastore, 1, 0, 0, 0, 0), (0, 103, 0)) [((94, .aload_n 0, 1, 0, 0, 0, 0), (0, 0, 0)), ((95, .getfield 59, 3, 10, 26, 5139, 0), (1, 86, 103)), ((98, .bipush 7, 2, 0, 0, 0, 0), (0, 0, 0)), ((100, .aload_n 0, 1, 0, 0, 0, 0), (0, 0, 0)), ((101, .getfield 7, 3, 10, 0, 5113, 0), (1, 86, 87)), ((104, .sipush 160, 3, 0, 0, 0, 0), (0, 0, 0)), ((107, .iload_n 1, 1, 0, 0, 0, 0), (0, 0, 0)), ((108, .iadd, 1, 0, 0, 0, 0), (0, 0, 0)), ((109, .iaload, 1, 0, 0, 0, 0), (0, 87, 0)), ((110, .iastore, 1, 0, 0, 0, 0), (0, 103, 0)), ((111, .aload_n 0, 1, 0, 0, 0, 0), (0, 0, 0)), ((112, .getfield 59, 3, 10, 26, 5139, 0), (1, 86, 103)), ((115, .bipush 8, 2, 0, 0, 0, 0), (0, 0, 0)), ((117, .aload_n 0, 1, 0, 0, 0, 0), (0, 0, 0)), ((118, .getfield 7, 3, 10, 0, 5113, 0), (1, 86, 87)), ((121, .sipush 400, 3, 0, 0, 0, 0), (0, 0, 0)), ((124, .iload_n 1, 1, 0, 0, 0, 0), (0, 0, 0)), ((125, .iadd, 1, 0, 0, 0, 0), (0, 0, 0)), ((126, .iaload, 1, 0, 0, 0, 0), (0, 87, 0)), ((127, .iastore, 1, 0, 0, 0, 0), (0, 103, 0)), ((128, .aload_n 0, 1, 0, 0, 0, 0), (0, 0, 0)), ((129, .getfield 59, 3, 10, 26, 5139, 0), (1, 86, 103)), ((132, .bipush 12, 2, 0, 0, 0, 0), (0, 0, 0)), ((134, .aload_n 0, 1, 0, 0, 0, 0), (0, 0, 0)), ((135, .getfield 7, 3, 10, 0, 5113, 0), (1, 86, 87)), ((138, .bipush 80, 2, 0, 0, 0, 0), (0, 0, 0)), ((140, .iload_n 1, 1, 0, 0, 0, 0), (0, 0, 0)), ((141, .iadd, 1, 0, 0, 0, 0), (0, 0, 0)), ((142, .iaload, 1, 0, 0, 0, 0), (0, 87, 0)), ((143, .aload_n 0, 1, 0, 0, 0, 0), (0, 0, 0)), ((144, .iload_n 2, 1, 0, 0, 0, 0), (0, 0, 0)), ((145, .iload_n 1, 1, 0, 0, 0, 0), (0, 0, 0))] (by decide +kernel) rfl ?_
  exact hx_call (E := (146, .invokevirtual 244, 3, 207, 0, 6198, 0)) (M' := yp_m207) [.inr (.inl 86), .inl x2, .inl x1] [.inl (m 87 (gx_w (80 + x1)).toNat), .inl 12, .inr (.inl 103)] rfl (by decide +kernel) rfl ⟨rfl, rfl⟩ rfl rfl (hx_mono h1 (fun r m' h' => hx_pick [0, 3] h'))

/-- feels from 149 on -/
theorem hr202_149 {xs : List Int32} {n : Nat} {Q : hQ} {m : gx_M} {x3 s1 s2 s3 : Int}
    (h1 : hxn xs n yp_m206 0 [(0, .inl (gx_and s2 s3))] [] m (fun r m' => hxn xs n yp_m202 153 [(0, .inr (.inl 86)), (3, .inl x3)] (hrs r ++ [.inl s1, .inr (.inl 103)]) m' Q)) : hxn xs (n + 1) yp_m202 149 [(0, .inr (.inl 86)), (3, .inl x3)] [.inl s3, .inl s2, .inl s1, .inr (.inl 103)] m Q := by
  refine hx_blks (npc := 150) (L' := [(0, .inr (.inl 86)), (3, .inl x3)]) (st' := [.inl (gx_and s2 s3), .inl s1, .inr (.inl 103)]) (m' := m) ((149, .iand, 1, 0, 0, 0, 0), (0, 0, 0)) [] (by decide +kernel) rfl ?_
  exact hx_call (E := (150, .invokestatic 241, 3, 206, 0, 6195, 0)) (M' := yp_m206) [.inl (gx_and s2 s3)] [.inl s1, .inr (.inl 103)] rfl (by decide +kernel) rfl ⟨rfl, rfl⟩ rfl rfl (hx_mono h1 (fun r m' h' => hx_pick [0, 3] h'))

/-- feels from 153 on -/
theorem hr202_153 {xs : List Int32} {n : Nat} {Q : hQ} {m : gx_M} {x3 s1 s2 : Int}
    (h1 : Q none (gx_u (gx_u m 103 (s1).toNat s2) 103 13 x3)) : hxn xs (n + 1) yp_m202 153 [(0, .inr (.inl 86)), (3, .inl x3)] [.inl s2, .inl s1, .inr (.inl 103)] m Q := by
  refine hx_blks (npc := 162) (L' := [(0, .inr (.inl 86)), (3, .inl x3)]) (st' := []) (m' := (gx_u (gx_u m 103 (s1).toNat s2) 103 13 x3)) ((153, .iastore, 1, 0, 0, 0, 0), (0, 103, 0)) [((154, .aload_n 0, 1, 0, 0, 0, 0), (0, 0, 0)), ((155, .getfield 59, 3, 10, 26, 5139, 0), (1, 86, 103)), ((158, .bipush 13, 2, 0, 0, 0, 0), (0, 0, 0)), ((160, .iload_n 3, 1, 0, 0, 0, 0), (0, 0, 0)), ((161, .iastore, 1, 0, 0, 0, 0), (0, 103, 0))] (by decide +kernel) rfl ?_
  exact hx_ret0 (by decide +kernel) h1

/-- byLaw from 0 on -/
theorem hr225_0 {xs : List Int32} {n : Nat} {Q : hQ} {m : gx_M} {x1 x2 : Int}
    (h1 : hxn xs n yp_m225 2 [(0, .inr (.inl 86)), (1, .inl x1), (2, .inl x2), (3, .inl 0)] [] m Q) : hxn xs (n + 1) yp_m225 0 [(0, .inr (.inl 86)), (1, .inl x1), (2, .inl x2)] [] m Q := by
  refine hx_blks (npc := 2) (L' := [(0, .inr (.inl 86)), (1, .inl x1), (2, .inl x2), (3, .inl 0)]) (st' := []) (m' := m) ((0, .iconst 0, 1, 0, 0, 0, 0), (0, 0, 0)) [((1, .istore_n 3, 1, 0, 0, 0, 0), (0, 0, 0))] (by decide +kernel) rfl ?_
  exact hx_pick [0, 1, 2, 3] h1

/-- byLaw from 2 on -/
theorem hr225_2 {xs : List Int32} {n : Nat} {Q : hQ} {m : gx_M} {x1 x2 x3 : Int}
    (h1 : ((m 86 13) ≤ x3) → Q (some (.inl 0)) m)
    (h2 : (x3 < (m 86 13)) → ((m 98 (x3).toNat) ≠ x1) → hxn xs n yp_m225 2 [(0, .inr (.inl 86)), (1, .inl x1), (2, .inl x2), (3, .inl (gx_w (x3 + 1)))] [] m Q)
    (h3 : (x3 < (m 86 13)) → ((m 98 (x3).toNat) = x1) → hxn xs n yp_m208 0 [(0, .inr (.inl 86)), (1, .inl (m 100 (x3).toNat)), (2, .inl (m 101 (x3).toNat))] [] m (fun r m' => hxn xs n yp_m225 36 [(0, .inr (.inl 86)), (1, .inl x1), (2, .inl x2), (3, .inl x3)] (hrs r ++ []) m' Q)) : hxn xs (n + 1) yp_m225 2 [(0, .inr (.inl 86)), (1, .inl x1), (2, .inl x2), (3, .inl x3)] [] m Q := by
  refine hx_blks (npc := 7) (L' := [(0, .inr (.inl 86)), (1, .inl x1), (2, .inl x2), (3, .inl x3)]) (st' := [.inl (m 86 13), .inl x3]) (m' := m) ((2, .iload_n 3, 1, 0, 0, 0, 0), (0, 0, 0)) [((3, .aload_n 0, 1, 0, 0, 0, 0), (0, 0, 0)), ((4, .getfield 225, 3, 10, 13, 5126, 0), (0, 86, 0))] (by decide +kernel) rfl ?_
  refine hx_cmp .ge 89 (by decide +kernel) (fun c1 => ?_) (fun c1 => ?_)
  · have c1 : (m 86 13) ≤ x3 := c1
    refine hx_blk (npc := 90) (L' := [(0, .inr (.inl 86)), (1, .inl x1), (2, .inl x2), (3, .inl x3)]) (st' := [.inl 0]) (m' := m) [((89, .iconst 0, 1, 0, 0, 0, 0), (0, 0, 0))] (by decide +kernel) rfl ?_
    exact hx_reti (by decide +kernel) (h1 c1)
  · have c1 : x3 < (m 86 13) := by have h : ¬ ((m 86 13) ≤ x3) := c1; omega
    refine hx_blk (npc := 17) (L' := [(0, .inr (.inl 86)), (1, .inl x1), (2, .inl x2), (3, .inl x3)]) (st' := [.inl x1, .inl (m 98 (x3).toNat)]) (m' := m) [((10, .aload_n 0, 1, 0, 0, 0, 0), (0, 0, 0)), ((11, .getfield 44, 3, 10, 21, 5134, 0), (1, 86, 98)), ((14, .iload_n 3, 1, 0, 0, 0, 0), (0, 0, 0)), ((15, .iaload, 1, 0, 0, 0, 0), (0, 98, 0)), ((16, .iload_n 1, 1, 0, 0, 0, 0), (0, 0, 0))] (by decide +kernel) rfl ?_
    refine hx_cmp .ne 83 (by decide +kernel) (fun c2 => ?_) (fun c2 => ?_)
    · have c2 : (m 98 (x3).toNat) ≠ x1 := c2
      refine hx_blk (npc := 2) (L' := [(0, .inr (.inl 86)), (1, .inl x1), (2, .inl x2), (3, .inl (gx_w (x3 + 1)))]) (st' := []) (m' := m) [((83, .iinc 3 1, 3, 0, 0, 0, 0), (0, 0, 0)), ((86, .goto (-84), 3, 0, 0, 0, 0), (0, 0, 0))] (by decide +kernel) rfl ?_
      exact hx_pick [0, 1, 2, 3] (h2 c1 c2)
    · have c2 : (m 98 (x3).toNat) = x1 := by have h : ¬ ((m 98 (x3).toNat) ≠ x1) := c2; omega
      refine hx_blk (npc := 33) (L' := [(0, .inr (.inl 86)), (1, .inl x1), (2, .inl x2), (3, .inl x3)]) (st' := [.inl (m 101 (x3).toNat), .inl (m 100 (x3).toNat), .inr (.inl 86)]) (m' := m) [((20, .aload_n 0, 1, 0, 0, 0, 0), (0, 0, 0)), ((21, .aload_n 0, 1, 0, 0, 0, 0), (0, 0, 0)), ((22, .getfield 50, 3, 10, 23, 5136, 0), (1, 86, 100)), ((25, .iload_n 3, 1, 0, 0, 0, 0), (0, 0, 0)), ((26, .iaload, 1, 0, 0, 0, 0), (0, 100, 0)), ((27, .aload_n 0, 1, 0, 0, 0, 0), (0, 0, 0)), ((28, .getfield 53, 3, 10, 24, 5137, 0), (1, 86, 101)), ((31, .iload_n 3, 1, 0, 0, 0, 0), (0, 0, 0)), ((32, .iaload, 1, 0, 0, 0, 0), (0, 101, 0))] (by decide +kernel) rfl ?_
      exact hx_call (E := (33, .invokevirtual 232, 3, 208, 0, 6202, 0)) (M' := yp_m208) [.inr (.inl 86), .inl (m 100 (x3).toNat), .inl (m 101 (x3).toNat)] [] rfl (by decide +kernel) rfl ⟨rfl, rfl⟩ rfl rfl (hx_mono (h3 c1 c2) (fun r m' h' => hx_pick [0, 1, 2, 3] h'))

/-- byLaw from 36 on -/
theorem hr225_36 {xs : List Int32} {n : Nat} {Q : hQ} {m : gx_M} {x1 x2 x3 s0 : Int}
    (h1 : (s0 = 1) → hxn xs n yp_m208 0 [(0, .inr (.inl 86)), (1, .inl (m 99 (x3).toNat)), (2, .inl (m 100 (x3).toNat))] [] m (fun r m' => hxn xs n yp_m225 59 [(2, .inl x2)] (hrs r ++ []) m' Q))
    (h2 : (s0 ≠ 1) → hxn xs n yp_m225 2 [(0, .inr (.inl 86)), (1, .inl x1), (2, .inl x2), (3, .inl (gx_w (x3 + 1)))] [] m Q) : hxn xs (n + 1) yp_m225 36 [(0, .inr (.inl 86)), (1, .inl x1), (2, .inl x2), (3, .inl x3)] [.inl s0] m Q := by
  refine hx_blks (npc := 37) (L' := [(0, .inr (.inl 86)), (1, .inl x1), (2, .inl x2), (3, .inl x3)]) (st' := [.inl 1, .inl s0]) (m' := m) ((36, .iconst 1, 1, 0, 0, 0, 0), (0, 0, 0)) [] (by decide +kernel) rfl ?_
  refine hx_cmp .eq 43 (by decide +kernel) (fun c1 => ?_) (fun c1 => ?_)
  · have c1 : s0 = 1 := c1
    refine hx_blk (npc := 56) (L' := [(0, .inr (.inl 86)), (1, .inl x1), (2, .inl x2), (3, .inl x3)]) (st' := [.inl (m 100 (x3).toNat), .inl (m 99 (x3).toNat), .inr (.inl 86)]) (m' := m) [((43, .aload_n 0, 1, 0, 0, 0, 0), (0, 0, 0)), ((44, .aload_n 0, 1, 0, 0, 0, 0), (0, 0, 0)), ((45, .getfield 47, 3, 10, 22, 5135, 0), (1, 86, 99)), ((48, .iload_n 3, 1, 0, 0, 0, 0), (0, 0, 0)), ((49, .iaload, 1, 0, 0, 0, 0), (0, 99, 0)), ((50, .aload_n 0, 1, 0, 0, 0, 0), (0, 0, 0)), ((51, .getfield 50, 3, 10, 23, 5136, 0), (1, 86, 100)), ((54, .iload_n 3, 1, 0, 0, 0, 0), (0, 0, 0)), ((55, .iaload, 1, 0, 0, 0, 0), (0, 100, 0))] (by decide +kernel) rfl ?_
    exact hx_call (E := (56, .invokevirtual 232, 3, 208, 0, 6202, 0)) (M' := yp_m208) [.inr (.inl 86), .inl (m 99 (x3).toNat), .inl (m 100 (x3).toNat)] [] rfl (by decide +kernel) rfl ⟨rfl, rfl⟩ rfl rfl (hx_mono (h1 c1) (fun r m' h' => hx_pick [2] h'))
  · have c1 : s0 ≠ 1 := c1
    refine hx_blk (npc := 2) (L' := [(0, .inr (.inl 86)), (1, .inl x1), (2, .inl x2), (3, .inl (gx_w (x3 + 1)))]) (st' := []) (m' := m) [((40, .goto 43, 3, 0, 0, 0, 0), (0, 0, 0)), ((83, .iinc 3 1, 3, 0, 0, 0, 0), (0, 0, 0)), ((86, .goto (-84), 3, 0, 0, 0, 0), (0, 0, 0))] (by decide +kernel) rfl ?_
    exact hx_pick [0, 1, 2, 3] (h2 c1)

/-- byLaw from 59 on -/
theorem hr225_59 {xs : List Int32} {n : Nat} {Q : hQ} {m : gx_M} {x2 s0 : Int}
    (h1 : (0 ≤ s0) → (s0 ≤ x2) → Q (some (.inl s0)) m)
    (h2 : (0 ≤ s0) → (x2 < s0) → Q (some (.inl x2)) m)
    (h3 : (s0 < 0) → Q (some (.inl 0)) m) : hxn xs (n + 1) yp_m225 59 [(2, .inl x2)] [.inl s0] m Q := by
  refine hx_blks (npc := 63) (L' := [(2, .inl x2), (4, .inl s0)]) (st' := [.inl s0]) (m' := m) ((59, .istore 4, 2, 0, 0, 0, 0), (0, 0, 0)) [((61, .iload 4, 2, 0, 0, 0, 0), (0, 0, 0))] (by decide +kernel) rfl ?_
  refine hx_if .ge 70 (by decide +kernel) (fun c1 => ?_) (fun c1 => ?_)
  · have c1 : 0 ≤ s0 := c1
    refine hx_blk (npc := 73) (L' := [(2, .inl x2), (4, .inl s0)]) (st' := [.inl x2, .inl s0]) (m' := m) [((70, .iload 4, 2, 0, 0, 0, 0), (0, 0, 0)), ((72, .iload_n 2, 1, 0, 0, 0, 0), (0, 0, 0))] (by decide +kernel) rfl ?_
    refine hx_cmp .le 80 (by decide +kernel) (fun c2 => ?_) (fun c2 => ?_)
    · have c2 : s0 ≤ x2 := c2
      refine hx_blk (npc := 82) (L' := [(2, .inl x2), (4, .inl s0)]) (st' := [.inl s0]) (m' := m) [((80, .iload 4, 2, 0, 0, 0, 0), (0, 0, 0))] (by decide +kernel) rfl ?_
      exact hx_reti (by decide +kernel) (h1 c1 c2)
    · have c2 : x2 < s0 := by have h : ¬ (s0 ≤ x2) := c2; omega
      refine hx_blk (npc := 82) (L' := [(2, .inl x2), (4, .inl s0)]) (st' := [.inl x2]) (m' := m) [((76, .iload_n 2, 1, 0, 0, 0, 0), (0, 0, 0)), ((77, .goto 5, 3, 0, 0, 0, 0), (0, 0, 0))] (by decide +kernel) rfl ?_
      exact hx_reti (by decide +kernel) (h2 c1 c2)
  · have c1 : s0 < 0 := by have h : ¬ (0 ≤ s0) := c1; omega
    refine hx_blk (npc := 82) (L' := [(2, .inl x2), (4, .inl s0)]) (st' := [.inl 0]) (m' := m) [((66, .iconst 0, 1, 0, 0, 0, 0), (0, 0, 0)), ((67, .goto 15, 3, 0, 0, 0, 0), (0, 0, 0))] (by decide +kernel) rfl ?_
    exact hx_reti (by decide +kernel) (h3 c1)

/-- isBarred from 0 on -/
theorem hr201_0 {xs : List Int32} {n : Nat} {Q : hQ} {m : gx_M} {x1 x2 x3 : Int}
    (h1 : hxn xs n yp_m202 0 [(0, .inr (.inl 86)), (1, .inl x1), (2, .inl x2), (3, .inl x3)] [] m (fun r m' => hxn xs n yp_m201 7 [(0, .inr (.inl 86))] (hrs r ++ []) m' Q)) : hxn xs (n + 1) yp_m201 0 [(0, .inr (.inl 86)), (1, .inl x1), (2, .inl x2), (3, .inl x3)] [] m Q := by
  refine hx_blks (npc := 4) (L' := [(0, .inr (.inl 86)), (1, .inl x1), (2, .inl x2), (3, .inl x3)]) (st' := [.inl x3, .inl x2, .inl x1, .inr (.inl 86)]) (m' := m) ((0, .aload_n 0, 1, 0, 0, 0, 0), (0, 0, 0)) [((1, .iload_n 1, 1, 0, 0, 0, 0), (0, 0, 0)), ((2, .iload_n 2, 1, 0, 0, 0, 0), (0, 0, 0)), ((3, .iload_n 3, 1, 0, 0, 0, 0), (0, 0, 0))] (by decide +kernel) rfl ?_
  exact hx_call (E := (4, .invokevirtual 247, 3, 202, 0, 6179, 0)) (M' := yp_m202) [.inr (.inl 86), .inl x1, .inl x2, .inl x3] [] rfl (by decide +kernel) rfl ⟨rfl, rfl⟩ rfl rfl (hx_mono h1 (fun r m' h' => hx_pick [0] h'))

/-- isBarred from 7 on -/
theorem hr201_7 {xs : List Int32} {n : Nat} {Q : hQ} {m : gx_M}
    (h1 : hxn xs n yp_m201 10 [(0, .inr (.inl 86)), (4, .inl 0)] [] m Q) : hxn xs (n + 1) yp_m201 7 [(0, .inr (.inl 86))] [] m Q := by
  refine hx_blks (npc := 10) (L' := [(0, .inr (.inl 86)), (4, .inl 0)]) (st' := []) (m' := m) ((7, .iconst 0, 1, 0, 0, 0, 0), (0, 0, 0)) [((8, .istore 4, 2, 0, 0, 0, 0), (0, 0, 0))] (by decide +kernel) rfl ?_
  exact hx_pick [0, 4] h1

/-- isBarred from 10 on -/
theorem hr201_10 {xs : List Int32} {n : Nat} {Q : hQ} {m : gx_M} {x4 : Int}
    (h1 : ((m 86 13) ≤ x4) → Q (some (.inl 0)) m)
    (h2 : (x4 < (m 86 13)) → ((m 98 (x4).toNat) ≠ 110) → hxn xs n yp_m201 10 [(0, .inr (.inl 86)), (4, .inl (gx_w (x4 + 1)))] [] m Q)
    (h3 : (x4 < (m 86 13)) → ((m 98 (x4).toNat) = 110) → hxn xs n yp_m208 0 [(0, .inr (.inl 86)), (1, .inl (m 100 (x4).toNat)), (2, .inl (m 101 (x4).toNat))] [] m (fun r m' => hxn xs n yp_m201 49 [(0, .inr (.inl 86)), (4, .inl x4)] (hrs r ++ []) m' Q)) : hxn xs (n + 1) yp_m201 10 [(0, .inr (.inl 86)), (4, .inl x4)] [] m Q := by
  refine hx_blks (npc := 16) (L' := [(0, .inr (.inl 86)), (4, .inl x4)]) (st' := [.inl (m 86 13), .inl x4]) (m' := m) ((10, .iload 4, 2, 0, 0, 0, 0), (0, 0, 0)) [((12, .aload_n 0, 1, 0, 0, 0, 0), (0, 0, 0)), ((13, .getfield 225, 3, 10, 13, 5126, 0), (0, 86, 0))] (by decide +kernel) rfl ?_
  refine hx_cmp .ge 61 (by decide +kernel) (fun c1 => ?_) (fun c1 => ?_)
  · have c1 : (m 86 13) ≤ x4 := c1
    refine hx_blk (npc := 62) (L' := [(0, .inr (.inl 86)), (4, .inl x4)]) (st' := [.inl 0]) (m' := m) [((61, .iconst 0, 1, 0, 0, 0, 0), (0, 0, 0))] (by decide +kernel) rfl ?_
    exact hx_reti (by decide +kernel) (h1 c1)
  · have c1 : x4 < (m 86 13) := by have h : ¬ ((m 86 13) ≤ x4) := c1; omega
    refine hx_blk (npc := 28) (L' := [(0, .inr (.inl 86)), (4, .inl x4)]) (st' := [.inl 110, .inl (m 98 (x4).toNat)]) (m' := m) [((19, .aload_n 0, 1, 0, 0, 0, 0), (0, 0, 0)), ((20, .getfield 44, 3, 10, 21, 5134, 0), (1, 86, 98)), ((23, .iload 4, 2, 0, 0, 0, 0), (0, 0, 0)), ((25, .iaload, 1, 0, 0, 0, 0), (0, 98, 0)), ((26, .bipush 110, 2, 0, 0, 0, 0), (0, 0, 0))] (by decide +kernel) rfl ?_
    refine hx_cmp .ne 55 (by decide +kernel) (fun c2 => ?_) (fun c2 => ?_)
    · have c2 : (m 98 (x4).toNat) ≠ 110 := c2
      refine hx_blk (npc := 10) (L' := [(0, .inr (.inl 86)), (4, .inl (gx_w (x4 + 1)))]) (st' := []) (m' := m) [((55, .iinc 4 1, 3, 0, 0, 0, 0), (0, 0, 0)), ((58, .goto (-48), 3, 0, 0, 0, 0), (0, 0, 0))] (by decide +kernel) rfl ?_
      exact hx_pick [0, 4] (h2 c1 c2)
    · have c2 : (m 98 (x4).toNat) = 110 := by have h : ¬ ((m 98 (x4).toNat) ≠ 110) := c2; omega
      refine hx_blk (npc := 46) (L' := [(0, .inr (.inl 86)), (4, .inl x4)]) (st' := [.inl (m 101 (x4).toNat), .inl (m 100 (x4).toNat), .inr (.inl 86)]) (m' := m) [((31, .aload_n 0, 1, 0, 0, 0, 0), (0, 0, 0)), ((32, .aload_n 0, 1, 0, 0, 0, 0), (0, 0, 0)), ((33, .getfield 50, 3, 10, 23, 5136, 0), (1, 86, 100)), ((36, .iload 4, 2, 0, 0, 0, 0), (0, 0, 0)), ((38, .iaload, 1, 0, 0, 0, 0), (0, 100, 0)), ((39, .aload_n 0, 1, 0, 0, 0, 0), (0, 0, 0)), ((40, .getfield 53, 3, 10, 24, 5137, 0), (1, 86, 101)), ((43, .iload 4, 2, 0, 0, 0, 0), (0, 0, 0)), ((45, .iaload, 1, 0, 0, 0, 0), (0, 101, 0))] (by decide +kernel) rfl ?_
      exact hx_call (E := (46, .invokevirtual 232, 3, 208, 0, 6202, 0)) (M' := yp_m208) [.inr (.inl 86), .inl (m 100 (x4).toNat), .inl (m 101 (x4).toNat)] [] rfl (by decide +kernel) rfl ⟨rfl, rfl⟩ rfl rfl (hx_mono (h3 c1 c2) (fun r m' h' => hx_pick [0, 4] h'))

/-- isBarred from 49 on -/
theorem hr201_49 {xs : List Int32} {n : Nat} {Q : hQ} {m : gx_M} {x4 s0 : Int}
    (h1 : (s0 ≠ 1) → hxn xs n yp_m201 10 [(0, .inr (.inl 86)), (4, .inl (gx_w (x4 + 1)))] [] m Q)
    (h2 : (s0 = 1) → Q (some (.inl 1)) m) : hxn xs (n + 1) yp_m201 49 [(0, .inr (.inl 86)), (4, .inl x4)] [.inl s0] m Q := by
  refine hx_blks (npc := 50) (L' := [(0, .inr (.inl 86)), (4, .inl x4)]) (st' := [.inl 1, .inl s0]) (m' := m) ((49, .iconst 1, 1, 0, 0, 0, 0), (0, 0, 0)) [] (by decide +kernel) rfl ?_
  refine hx_cmp .ne 55 (by decide +kernel) (fun c1 => ?_) (fun c1 => ?_)
  · have c1 : s0 ≠ 1 := c1
    refine hx_blk (npc := 10) (L' := [(0, .inr (.inl 86)), (4, .inl (gx_w (x4 + 1)))]) (st' := []) (m' := m) [((55, .iinc 4 1, 3, 0, 0, 0, 0), (0, 0, 0)), ((58, .goto (-48), 3, 0, 0, 0, 0), (0, 0, 0))] (by decide +kernel) rfl ?_
    exact hx_pick [0, 4] (h1 c1)
  · have c1 : s0 = 1 := by have h : ¬ (s0 ≠ 1) := c1; omega
    refine hx_blk (npc := 54) (L' := [(0, .inr (.inl 86)), (4, .inl x4)]) (st' := [.inl 1]) (m' := m) [((53, .iconst 1, 1, 0, 0, 0, 0), (0, 0, 0))] (by decide +kernel) rfl ?_
    exact hx_reti (by decide +kernel) (h2 c1)

/-- worthOf from 0 on -/
theorem hr224_0 {xs : List Int32} {n : Nat} {Q : hQ} {m : gx_M} {x1 x2 : Int}
    (h1 : hxn xs n yp_m202 0 [(0, .inr (.inl 86)), (1, .inl x1), (2, .inl x2), (3, .inl 0)] [] m (fun r m' => hxn xs n yp_m224 7 [(0, .inr (.inl 86))] (hrs r ++ []) m' Q)) : hxn xs (n + 1) yp_m224 0 [(0, .inr (.inl 86)), (1, .inl x1), (2, .inl x2)] [] m Q := by
  refine hx_blks (npc := 4) (L' := [(0, .inr (.inl 86)), (1, .inl x1), (2, .inl x2)]) (st' := [.inl 0, .inl x2, .inl x1, .inr (.inl 86)]) (m' := m) ((0, .aload_n 0, 1, 0, 0, 0, 0), (0, 0, 0)) [((1, .iload_n 1, 1, 0, 0, 0, 0), (0, 0, 0)), ((2, .iload_n 2, 1, 0, 0, 0, 0), (0, 0, 0)), ((3, .iconst 0, 1, 0, 0, 0, 0), (0, 0, 0))] (by decide +kernel) rfl ?_
  exact hx_call (E := (4, .invokevirtual 247, 3, 202, 0, 6179, 0)) (M' := yp_m202) [.inr (.inl 86), .inl x1, .inl x2, .inl 0] [] rfl (by decide +kernel) rfl ⟨rfl, rfl⟩ rfl rfl (hx_mono h1 (fun r m' h' => hx_pick [0] h'))

/-- worthOf from 7 on -/
theorem hr224_7 {xs : List Int32} {n : Nat} {Q : hQ} {m : gx_M}
    (h1 : hxn xs n yp_m225 0 [(0, .inr (.inl 86)), (1, .inl 118), (2, .inl 999)] [] m (fun r m' => hxn xs n yp_m224 16 [] (hrs r ++ []) m' Q)) : hxn xs (n + 1) yp_m224 7 [(0, .inr (.inl 86))] [] m Q := by
  refine hx_blks (npc := 13) (L' := [(0, .inr (.inl 86))]) (st' := [.inl 999, .inl 118, .inr (.inl 86)]) (m' := m) ((7, .aload_n 0, 1, 0, 0, 0, 0), (0, 0, 0)) [((8, .bipush 118, 2, 0, 0, 0, 0), (0, 0, 0)), ((10, .sipush 999, 3, 0, 0, 0, 0), (0, 0, 0))] (by decide +kernel) rfl ?_
  exact hx_call (E := (13, .invokevirtual 251, 3, 225, 0, 7028, 0)) (M' := yp_m225) [.inr (.inl 86), .inl 118, .inl 999] [] rfl (by decide +kernel) rfl ⟨rfl, rfl⟩ rfl rfl (hx_mono h1 (fun r m' h' => hx_pick [] h'))

/-- worthOf from 16 on -/
theorem hr224_16 {xs : List Int32} {n : Nat} {Q : hQ} {m : gx_M} {s0 : Int}
    (h1 : Q (some (.inl s0)) m) : hxn xs (n + 1) yp_m224 16 [] [.inl s0] m Q := by
  exact hx_reti (by decide +kernel) h1
end
section
/-! counting: one more place -/
theorem hcnt_t {f : Nat → Bool} {k : Nat} (h : f k = true) : ((hcnt f (k + 1) : Nat) : Int) = ((hcnt f k : Nat) : Int) + 1 := by
  show ((hcnt f k + (if f k = true then 1 else 0) : Nat) : Int) = _
  rw [if_pos h]
  omega
theorem hcnt_f {f : Nat → Bool} {k : Nat} (h : f k = false) : ((hcnt f (k + 1) : Nat) : Int) = ((hcnt f k : Nat) : Int) + 0 := by
  show ((hcnt f k + (if f k = true then 1 else 0) : Nat) : Int) = _
  rw [if_neg (by rw [h]; decide)]
  omega
theorem hcnt_f0 {f : Nat → Bool} {k : Nat} (h : f k = false) : ((hcnt f (k + 1) : Nat) : Int) = ((hcnt f k : Nat) : Int) := by
  have := hcnt_f h
  omega
end
section
/-! what a letter stands for -/
def aOwn (s : Nat → Int) (p : Int) (y : Nat) : Bool := decide (s (440 + y) = 1) && decide (s (240 + y) = p)
def aKn (s : Nat → Int) (p w : Int) (y : Nat) : Bool := aOwn s p y && !(decide ((y : Int) = w))
def hOr (f : Nat → Bool) (v : Nat → Int) : Nat → Int
  | 0 => 0
  | k + 1 => if f k = true then gx_or (hOr f v k) (v k) else hOr f v k
theorem hOr_t {f : Nat → Bool} {v : Nat → Int} {k : Nat} (h : f k = true) : hOr f v (k + 1) = gx_or (hOr f v k) (v k) := if_pos h
theorem hOr_f {f : Nat → Bool} {v : Nat → Int} {k : Nat} (h : f k = false) : hOr f v (k + 1) = hOr f v k := if_neg (by rw [h]; decide)
theorem hOr_ext {f g : Nat → Bool} {v w : Nat → Int} : ∀ k, (∀ j, j < k → f j = g j) → (∀ j, j < k → v j = w j) → hOr f v k = hOr g w k
  | 0, _, _ => rfl
  | k + 1, h1, h2 => by
    show (if f k = true then gx_or (hOr f v k) (v k) else hOr f v k) = (if g k = true then gx_or (hOr g w k) (w k) else hOr g w k)
    rw [h1 k (by omega), h2 k (by omega), hOr_ext k (fun j hj => h1 j (by omega)) (fun j hj => h2 j (by omega))]
theorem hmask_t {f : Nat → Bool} {k : Nat} (h : f k = true) : hmask f (k + 1) = hmask f k + 2 ^ k := by
  show hmask f k + (if f k = true then 2 ^ k else 0) = _
  rw [if_pos h]
theorem hmask_f {f : Nat → Bool} {k : Nat} (h : f k = false) : hmask f (k + 1) = hmask f k := by
  show hmask f k + (if f k = true then 2 ^ k else 0) = _
  rw [if_neg (by rw [h]; decide)]
  rfl
theorem hOr_bd {f : Nat → Bool} {v : Nat → Int} : ∀ k, (∀ j, j < k → 0 ≤ v j ∧ v j ≤ 4095) → ∃ X : Nat, hOr f v k = (X : Int) ∧ X < 4096
  | 0, _ => ⟨0, rfl, by decide⟩
  | k + 1, h => by
    obtain ⟨X, e, hX⟩ := hOr_bd (f := f) k (fun j hj => h j (by omega))
    have hv := h k (by omega)
    by_cases c : f k = true
    · obtain ⟨Y, hY⟩ : ∃ Y : Nat, v k = (Y : Int) := ⟨(v k).toNat, by omega⟩
      rw [hOr_t c, e, hY, hor_nat (by omega) (by omega)]
      exact ⟨_, rfl, Nat.or_lt_two_pow (n := 12) hX (by omega)⟩
    · rw [hOr_f (by simpa using c), e]
      exact ⟨X, rfl, hX⟩
section FB5
variable {xs : List Int32} {n : Nat} {Q : hQ} {m : gx_M} {p : Int}
theorem hs60 {s : Nat → Int} (h1 : m 5 1 = ((hmask (fun y => decide (s (440 + y) = 1)) 40 : Nat) : Int)) (h2 : ∀ y, y < 40 → m 12 y = s (240 + y)) (h : Q (some (.inr (.inr ((hmask (aOwn s p) 40 : Nat) : Int)))) m) : hxn xs n yp_m60 0 [(0, .inr (.inl 5)), (1, .inl p)] [] m Q := by
  have hl : ∀ d k : Nat, k + d = 40 → hxn xs n yp_m60 5 [(0, .inr (.inl 5)), (1, .inl p), (2, .inr (.inr ((hmask (aOwn s p) k : Nat) : Int))), (4, .inl (k : Int))] [] m Q := by
    intro d
    induction d with
    | zero =>
      intro k hk
      have e : k = 40 := by omega
      subst e
      exact hx_dn (hr60_5 (fun _ => h) (fun c => absurd c (by omega)) (fun c => absurd c (by omega)) (fun c => absurd c (by omega)))
    | succ d ih =>
      intro k hk
      have hi := ih (k + 1) (by omega)
      have hb : hlcmp (hland (hlushr (m 5 1) (k : Int)) 1) 0 = if decide (s (440 + k) = 1) = true then 1 else 0 := by
        rw [h1]
        exact hmask_test (by omega)
      have ho := h2 k (by omega)
      refine hx_dn (hr60_5 (fun c => absurd c (by omega)) (fun _ c => ?_) (fun _ c1 c2 => ?_) (fun _ c1 c2 => ?_))
      · rw [ew_u (by omega)]
        rw [hb] at c
        have hf : aOwn s p k = false := by
          unfold aOwn
          split at c
          · cases c
          · rename_i g
            rw [Bool.eq_false_iff.mpr g, Bool.false_and]
        rw [hmask_f hf] at hi
        exact hi
      · rw [ew_u (by omega)]
        rw [Int.toNat_natCast, ho] at c2
        have hf : aOwn s p k = false := by
          unfold aOwn
          rw [decide_eq_false c2, Bool.and_false]
        rw [hmask_f hf] at hi
        exact hi
      · rw [ew_u (by omega), hmask_grow (by omega)]
        rw [Int.toNat_natCast, ho] at c2
        rw [hb] at c1
        have hf : aOwn s p k = true := by
          unfold aOwn
          split at c1
          · rename_i g
            rw [g, decide_eq_true c2]
            rfl
          · exact absurd rfl c1
        rw [hmask_t hf] at hi
        exact hi
  exact hx_dn (hr60_0 (hl 40 0 rfl))
theorem hs64 {f : Nat → Bool} {v : Nat → Int} (h2 : ∀ y, y < 40 → m 9 y = v y) (h : Q (some (.inl (hOr f v 40))) m) : hxn xs n yp_m64 0 [(0, .inr (.inl 5)), (1, .inr (.inr ((hmask f 40 : Nat) : Int)))] [] m Q := by
  have hl : ∀ d k : Nat, k + d = 40 → hxn xs n yp_m64 5 [(0, .inr (.inl 5)), (1, .inr (.inr ((hmask f 40 : Nat) : Int))), (3, .inl (hOr f v k)), (4, .inl (k : Int))] [] m Q := by
    intro d
    induction d with
    | zero =>
      intro k hk
      have e : k = 40 := by omega
      subst e
      exact hx_dn (hr64_5 (fun _ => h) (fun c => absurd c (by omega)) (fun c => absurd c (by omega)))
    | succ d ih =>
      intro k hk
      have hi := ih (k + 1) (by omega)
      have hb : hlcmp (hland (hlushr ((hmask f 40 : Nat) : Int) (k : Int)) 1) 0 = if f k = true then 1 else 0 := hmask_test (by omega)
      refine hx_dn (hr64_5 (fun c => absurd c (by omega)) (fun _ c => ?_) (fun _ c => ?_))
      · rw [ew_u (by omega)]
        rw [hb] at c
        have hf : f k = false := by
          split at c
          · cases c
          · rename_i g
            exact Bool.eq_false_iff.mpr g
        rw [hOr_f hf] at hi
        exact hi
      · rw [ew_u (by omega), Int.toNat_natCast, h2 k (by omega)]
        rw [hb] at c
        have hf : f k = true := by
          split at c
          · assumption
          · exact absurd rfl c
        rw [hOr_t hf] at hi
        exact hi
  exact hx_dn (hr64_0 (hl 40 0 rfl))
end FB5
section FB31
variable {xs : List Int32} {n : Nat} {Q : hQ} {m : gx_M} {p : Int}
theorem hs31_60 {s : Nat → Int} (h1 : m 31 1 = ((hmask (fun y => decide (s (440 + y) = 1)) 40 : Nat) : Int)) (h2 : ∀ y, y < 40 → m 38 y = s (240 + y)) (h : Q (some (.inr (.inr ((hmask (aOwn s p) 40 : Nat) : Int)))) m) : hxn xs n yp_m60 0 [(0, .inr (.inl 31)), (1, .inl p)] [] m Q := by
  have hl : ∀ d k : Nat, k + d = 40 → hxn xs n yp_m60 5 [(0, .inr (.inl 31)), (1, .inl p), (2, .inr (.inr ((hmask (aOwn s p) k : Nat) : Int))), (4, .inl (k : Int))] [] m Q := by
    intro d
    induction d with
    | zero =>
      intro k hk
      have e : k = 40 := by omega
      subst e
      exact hx_dn (hr31_60_5 (fun _ => h) (fun c => absurd c (by omega)) (fun c => absurd c (by omega)) (fun c => absurd c (by omega)))
    | succ d ih =>
      intro k hk
      have hi := ih (k + 1) (by omega)
      have hb : hlcmp (hland (hlushr (m 31 1) (k : Int)) 1) 0 = if decide (s (440 + k) = 1) = true then 1 else 0 := by
        rw [h1]
        exact hmask_test (by omega)
      have ho := h2 k (by omega)
      refine hx_dn (hr31_60_5 (fun c => absurd c (by omega)) (fun _ c => ?_) (fun _ c1 c2 => ?_) (fun _ c1 c2 => ?_))
      · rw [ew_u (by omega)]
        rw [hb] at c
        have hf : aOwn s p k = false := by
          unfold aOwn
          split at c
          · cases c
          · rename_i g
            rw [Bool.eq_false_iff.mpr g, Bool.false_and]
        rw [hmask_f hf] at hi
        exact hi
      · rw [ew_u (by omega)]
        rw [Int.toNat_natCast, ho] at c2
        have hf : aOwn s p k = false := by
          unfold aOwn
          rw [decide_eq_false c2, Bool.and_false]
        rw [hmask_f hf] at hi
        exact hi
      · rw [ew_u (by omega), hmask_grow (by omega)]
        rw [Int.toNat_natCast, ho] at c2
        rw [hb] at c1
        have hf : aOwn s p k = true := by
          unfold aOwn
          split at c1
          · rename_i g
            rw [g, decide_eq_true c2]
            rfl
          · exact absurd rfl c1
        rw [hmask_t hf] at hi
        exact hi
  exact hx_dn (hr31_60_0 (hl 40 0 rfl))
theorem hs31_64 {f : Nat → Bool} {v : Nat → Int} (h2 : ∀ y, y < 40 → m 35 y = v y) (h : Q (some (.inl (hOr f v 40))) m) : hxn xs n yp_m64 0 [(0, .inr (.inl 31)), (1, .inr (.inr ((hmask f 40 : Nat) : Int)))] [] m Q := by
  have hl : ∀ d k : Nat, k + d = 40 → hxn xs n yp_m64 5 [(0, .inr (.inl 31)), (1, .inr (.inr ((hmask f 40 : Nat) : Int))), (3, .inl (hOr f v k)), (4, .inl (k : Int))] [] m Q := by
    intro d
    induction d with
    | zero =>
      intro k hk
      have e : k = 40 := by omega
      subst e
      exact hx_dn (hr31_64_5 (fun _ => h) (fun c => absurd c (by omega)) (fun c => absurd c (by omega)))
    | succ d ih =>
      intro k hk
      have hi := ih (k + 1) (by omega)
      have hb : hlcmp (hland (hlushr ((hmask f 40 : Nat) : Int) (k : Int)) 1) 0 = if f k = true then 1 else 0 := hmask_test (by omega)
      refine hx_dn (hr31_64_5 (fun c => absurd c (by omega)) (fun _ c => ?_) (fun _ c => ?_))
      · rw [ew_u (by omega)]
        rw [hb] at c
        have hf : f k = false := by
          split at c
          · cases c
          · rename_i g
            exact Bool.eq_false_iff.mpr g
        rw [hOr_f hf] at hi
        exact hi
      · rw [ew_u (by omega), Int.toNat_natCast, h2 k (by omega)]
        rw [hb] at c
        have hf : f k = true := by
          split at c
          · assumption
          · exact absurd rfl c
        rw [hOr_t hf] at hi
        exact hi
  exact hx_dn (hr31_64_0 (hl 40 0 rfl))
end FB31
section FR
variable {xs : List Int32} {n : Nat} {Q : hQ} {m : gx_M} {p w : Int}
theorem hs205 {k : Nat} (hk : k < 40) (hT : m 87 (440 + k) = 0 ∨ m 87 (440 + k) = 1) (h : Q (some (.inl (if aOwn (m 87) p k = true then 1 else 0))) m) : hxn xs n yp_m205 0 [(0, .inr (.inl 86)), (1, .inl (k : Int)), (2, .inl p)] [] m Q := by
  have e1 : (gx_w (440 + (k : Int))).toNat = 440 + k := by
    rw [gx_w_id (by omega) (by omega)]
    omega
  have e2 : (gx_w (240 + (k : Int))).toNat = 240 + k := by
    rw [gx_w_id (by omega) (by omega)]
    omega
  unfold aOwn at h
  refine hx_dn (hr205_0 (fun c1 c2 => ?_) (fun c1 c2 => ?_) (fun c1 => ?_))
  · rw [e2] at c2
    rw [decide_eq_false c2, Bool.and_false] at h
    exact h
  · rw [e1] at c1
    rw [e2] at c2
    rw [decide_eq_true c2, decide_eq_true (by omega : m 87 (440 + k) = 1)] at h
    exact h
  · rw [e1] at c1
    rw [decide_eq_false (by omega : ¬ m 87 (440 + k) = 1), Bool.false_and] at h
    exact h
theorem hs206 {X : Nat} (hX : X < 2 ^ 31) (h : Q (some (.inl ((hpop 20 X : Nat) : Int))) m) : hxn xs n yp_m206 0 [(0, .inl (X : Int))] [] m Q := by
  have hc : hpop 20 X = hcnt (fun j => X.testBit j) 20 := hcnt_pop _ 20 X (fun _ _ => rfl)
  rw [hc] at h
  have hl : ∀ d k : Nat, k + d = 20 → hxn xs n yp_m206 4 [(0, .inl (X : Int)), (1, .inl ((hcnt (fun j => X.testBit j) k : Nat) : Int)), (2, .inl (k : Int))] [] m Q := by
    intro d
    induction d with
    | zero =>
      intro k hk
      have e : k = 20 := by omega
      subst e
      exact hx_dn (hr206_4 (fun _ => h) (fun c => absurd c (by omega)))
    | succ d ih =>
      intro k hk
      have hi := ih (k + 1) (by omega)
      have hle := hcnt_le (fun j => X.testBit j) k
      refine hx_dn (hr206_4 (fun c => absurd c (by omega)) (fun _ => ?_))
      rw [ew_u (by omega), hibit hX (by omega)]
      by_cases c : X.testBit k = true
      · rw [if_pos c, gx_w_id (by omega) (by omega)]
        rw [hcnt_t c] at hi
        exact hi
      · rw [if_neg c, gx_w_id (by omega) (by omega)]
        rw [hcnt_f (by simpa using c)] at hi
        exact hi
  exact hx_dn (hr206_0 (hl 20 0 rfl))
theorem hs204 (hT : ∀ y, y < 40 → m 87 (440 + y) = 0 ∨ m 87 (440 + y) = 1) (h : Q (some (.inl ((hcnt (aOwn (m 87) p) 40 : Nat) : Int))) m) : hxn xs n yp_m204 0 [(0, .inr (.inl 86)), (1, .inl p)] [] m Q := by
  have hl : ∀ d k : Nat, k + d = 40 → hxn xs n yp_m204 4 [(0, .inr (.inl 86)), (1, .inl p), (2, .inl ((hcnt (aOwn (m 87) p) k : Nat) : Int)), (3, .inl (k : Int))] [] m Q := by
    intro d
    induction d with
    | zero =>
      intro k hk
      have e : k = 40 := by omega
      subst e
      exact hx_dn (hr204_4 (fun _ => h) (fun c => absurd c (by omega)))
    | succ d ih =>
      intro k hk
      have hi := ih (k + 1) (by omega)
      have hle := hcnt_le (aOwn (m 87) p) k
      refine hx_dn (hr204_4 (fun c => absurd c (by omega)) (fun _ => ?_))
      refine hs205 (by omega) (hT k (by omega)) ?_
      show hxn xs n yp_m204 17 _ [.inl (if aOwn (m 87) p k = true then 1 else 0), .inl _] m Q
      by_cases c : aOwn (m 87) p k = true
      · rw [if_pos c]
        refine hx_dn (hr204_17 (fun c => absurd c (by decide)) (fun _ => ?_))
        rw [ew_u (by omega), gx_w_id (by omega) (by omega)]
        rw [hcnt_t c] at hi
        exact hi
      · rw [if_neg c]
        refine hx_dn (hr204_17 (fun _ => ?_) (fun c => absurd rfl c))
        rw [ew_u (by omega), gx_w_id (by omega) (by omega)]
        rw [hcnt_f (by simpa using c)] at hi
        exact hi
  exact hx_dn (hr204_0 (hl 40 0 rfl))
theorem hs207 (hT : ∀ y, y < 40 → m 87 (440 + y) = 0 ∨ m 87 (440 + y) = 1) (h : Q (some (.inl (hOr (aKn (m 87) p w) (fun j => m 87 (80 + j)) 40))) m) : hxn xs n yp_m207 0 [(0, .inr (.inl 86)), (1, .inl p), (2, .inl w)] [] m Q := by
  have hl : ∀ d k : Nat, k + d = 40 → hxn xs n yp_m207 5 [(0, .inr (.inl 86)), (1, .inl p), (2, .inl w), (3, .inl (hOr (aKn (m 87) p w) (fun j => m 87 (80 + j)) k)), (4, .inl (k : Int))] [] m Q := by
    intro d
    induction d with
    | zero =>
      intro k hk
      have e : k = 40 := by omega
      subst e
      exact hx_dn (hr207_5 (fun _ => h) (fun c => absurd c (by omega)) (fun c => absurd c (by omega)))
    | succ d ih =>
      intro k hk
      have hi := ih (k + 1) (by omega)
      refine hx_dn (hr207_5 (fun c => absurd c (by omega)) (fun _ c => ?_) (fun _ c => ?_))
      · rw [ew_u (by omega)]
        have hf : aKn (m 87) p w k = false := by
          unfold aKn
          rw [decide_eq_true c, Bool.not_true, Bool.and_false]
        rw [hOr_f hf] at hi
        exact hi
      · refine hs205 (by omega) (hT k (by omega)) ?_
        show hxn xs n yp_m207 25 _ [.inl (if aOwn (m 87) p k = true then 1 else 0)] m Q
        by_cases c2 : aOwn (m 87) p k = true
        · rw [if_pos c2]
          refine hx_dn (hr207_25 (fun c => absurd c (by decide)) (fun _ => ?_))
          have e : (gx_w (80 + (k : Int))).toNat = 80 + k := by
            rw [gx_w_id (by omega) (by omega)]
            omega
          rw [ew_u (by omega), e]
          have hf : aKn (m 87) p w k = true := by
            unfold aKn
            rw [c2, decide_eq_false c]
            rfl
          rw [hOr_t hf] at hi
          exact hi
        · rw [if_neg c2]
          refine hx_dn (hr207_25 (fun _ => ?_) (fun c => absurd rfl c))
          rw [ew_u (by omega)]
          have hf : aKn (m 87) p w k = false := by
            unfold aKn
            rw [Bool.eq_false_iff.mpr c2, Bool.false_and]
          rw [hOr_f hf] at hi
          exact hi
  exact hx_dn (hr207_0 (hl 40 0 rfl))
end FR
end
section
/-! the facts laid out by the reference -/
def fct (s : Nat → Int) (y : Nat) (p z : Int) (k : Nat) : Int := if k = 0 then s 1129 else if k = 1 then (y : Int) else if k = 2 then s y else if k = 3 then s (40 + y) else if k = 4 then s (240 + y) else if k = 5 then ((hpop 20 (s (80 + y)).toNat : Nat) : Int) else if k = 6 then ((hpop 20 (s (120 + y)).toNat : Nat) : Int) else if k = 7 then s (160 + y) else if k = 8 then s (400 + y) else if k = 9 then p else if k = 10 then ((hcnt (aOwn s p) 40 : Nat) : Int) else if k = 11 then s (1120 + p.toNat) else if k = 12 then ((hpop 20 (gx_and (s (80 + y)) (hOr (aKn s p y) (fun j => s (80 + j)) 40)).toNat : Nat) : Int) else z
section FE
variable {xs : List Int32} {n : Nat} {Q : hQ} {m : gx_M} {p z : Int}
theorem hs203 (hp : 0 ≤ p ∧ p < 8) (hT : ∀ y, y < 40 → m 87 (440 + y) = 0 ∨ m 87 (440 + y) = 1) (h : ∀ m', (∀ c, c ≠ 103 → m' c = m c) → m' 103 0 = m 87 1129 → m' 103 9 = p → m' 103 10 = ((hcnt (aOwn (m 87) p) 40 : Nat) : Int) → m' 103 11 = m 87 (1120 + p.toNat) → Q none m') : hxn xs n yp_m203 0 [(0, .inr (.inl 86)), (1, .inl p)] [] m Q := by
  have hl : ∀ d k : Nat, k + d = 14 → ∀ m1 : gx_M, (∀ c, c ≠ 103 → m1 c = m c) → hxn xs n yp_m203 2 [(0, .inr (.inl 86)), (1, .inl p), (2, .inl (k : Int))] [] m1 Q := by
    intro d
    induction d with
    | zero =>
      intro k hk m1 hm
      have e : k = 14 := by omega
      subst e
      refine hx_dn (hr203_2 (fun _ => ?_) (fun c => absurd c (by omega)))
      have e87 : (gx_u (gx_u m1 103 0 (m1 87 1129)) 103 9 p) 87 = m 87 := by
        rw [gx_u_off (by decide), gx_u_off (by decide)]
        exact hm 87 (by decide)
      refine hs204 (by rw [e87]; exact hT) ?_
      rw [e87]
      show hxn xs n yp_m203 54 _ [.inl _, .inl 10, .inr (.inl 103)] _ Q
      refine hx_dn (hr203_54 ?_)
      have e2 : (gx_w (1120 + p)).toNat = 1120 + p.toNat := by
        rw [gx_w_id (by omega) (by omega)]
        omega
      rw [e87, e2]
      refine h _ (fun c hc => ?_) ?_ ?_ ?_ ?_
      · rw [gx_u_off hc, gx_u_off hc, gx_u_off hc, gx_u_off hc]
        exact hm c hc
      · rw [gx_u_ne (by decide), gx_u_ne (by decide), gx_u_ne (by decide), gx_u_self, hm 87 (by decide)]
      · rw [gx_u_ne (by decide), gx_u_ne (by decide), gx_u_self]
      · rw [gx_u_ne (by decide)]
        exact gx_u_self
      · exact gx_u_self
    | succ d ih =>
      intro k hk m1 hm
      refine hx_dn (hr203_2 (fun c => absurd c (by omega)) (fun _ => ?_))
      rw [ew_u (by omega)]
      exact ih (k + 1) (by omega) _ (fun c hc => by rw [gx_u_off hc]; exact hm c hc)
  exact hx_dn (hr203_0 (hl 14 0 rfl m (fun _ _ => rfl)))
theorem hs202 {y : Nat} (hy : y < 40) (hp : 0 ≤ p ∧ p < 8) (hT : ∀ y, y < 40 → m 87 (440 + y) = 0 ∨ m 87 (440 + y) = 1) (hs : ∀ j, j < 40 → 0 ≤ m 87 (80 + j) ∧ m 87 (80 + j) ≤ 4095) (hme : ∀ j, j < 40 → 0 ≤ m 87 (120 + j) ∧ m 87 (120 + j) ≤ 255) (h : ∀ m', (∀ c, c ≠ 103 → m' c = m c) → (∀ k, k < 14 → m' 103 k = fct (m 87) y p z k) → Q none m') : hxn xs n yp_m202 0 [(0, .inr (.inl 86)), (1, .inl (y : Int)), (2, .inl p), (3, .inl z)] [] m Q := by
  have w : ∀ k : Nat, k < 2000 → (gx_w ((k : Int) + (y : Int))).toNat = k + y := fun k hk => by
    rw [gx_w_id (by omega) (by omega)]
    omega
  have w00 : (gx_w (y : Int)).toNat = y := by
    rw [gx_w_id (by omega) (by omega), Int.toNat_natCast]
  refine hx_dn (hr202_0 ?_)
  refine hs203 hp hT (fun m1 g0 g1 g2 g3 g4 => ?_)
  have e1 : m1 87 = m 87 := g0 87 (by decide)
  show hxn xs n yp_m202 5 _ [] m1 Q
  refine hx_dn (hr202_5 ?_)
  have w80 : (gx_w (80 + (y : Int))).toNat = 80 + y := w 80 (by omega)
  have w120 : (gx_w (120 + (y : Int))).toNat = 120 + y := w 120 (by omega)
  have w0 : (gx_w (0 + (y : Int))).toNat = 0 + y := w 0 (by omega)
  have w40 : (gx_w (40 + (y : Int))).toNat = 40 + y := w 40 (by omega)
  have w240 : (gx_w (240 + (y : Int))).toNat = 240 + y := w 240 (by omega)
  have w160 : (gx_w (160 + (y : Int))).toNat = 160 + y := w 160 (by omega)
  have w400 : (gx_w (400 + (y : Int))).toNat = 400 + y := w 400 (by omega)
  have hs1 := hs y hy
  have hs2 := hme y hy
  obtain ⟨X, hX⟩ : ∃ X : Nat, m 87 (80 + y) = (X : Int) := ⟨(m 87 (80 + y)).toNat, by omega⟩
  obtain ⟨Y, hY⟩ : ∃ Y : Nat, m 87 (120 + y) = (Y : Int) := ⟨(m 87 (120 + y)).toNat, by omega⟩
  obtain ⟨O, hO, hO2⟩ := hOr_bd (f := aKn (m 87) p y) (v := fun j => m 87 (80 + j)) 40 hs
  rw [e1, w80, hX]
  refine hs206 (by omega) ?_
  show hxn xs n yp_m202 74 _ [.inl ((hpop 20 X : Nat) : Int), .inl 5, .inr (.inl 103)] _ Q
  refine hx_dn (hr202_74 ?_)
  rw [gx_u_off (by decide), gx_u_off (by decide), gx_u_off (by decide), gx_u_off (by decide), e1, w120, hY]
  refine hs206 (by omega) ?_
  show hxn xs n yp_m202 93 _ [.inl ((hpop 20 Y : Nat) : Int), .inl 6, .inr (.inl 103)] _ Q
  refine hx_dn (hr202_93 ?_)
  generalize hM : gx_u (gx_u (gx_u _ 103 _ _) 103 7 _) 103 8 _ = M
  have eM : M 87 = m 87 := by
    rw [← hM]
    rw [gx_u_off (by decide), gx_u_off (by decide), gx_u_off (by decide), gx_u_off (by decide), gx_u_off (by decide), gx_u_off (by decide), gx_u_off (by decide), gx_u_off (by decide)]
    exact e1
  refine hs207 (by rw [eM]; exact hT) ?_
  rw [eM, hO]
  show hxn xs n yp_m202 149 _ [.inl _, .inl _, .inl 12, .inr (.inl 103)] M Q
  refine hx_dn (hr202_149 ?_)
  have hlt : X &&& O < 2 ^ 31 := Nat.lt_of_le_of_lt Nat.and_le_left (by omega)
  rw [gx_u_off (by decide), gx_u_off (by decide), gx_u_off (by decide), gx_u_off (by decide), gx_u_off (by decide), e1, w80, hX, hand_nat (by omega) (by omega)]
  refine hs206 hlt ?_
  show hxn xs n yp_m202 153 _ [.inl ((hpop 20 (X &&& O) : Nat) : Int), .inl 12, .inr (.inl 103)] M Q
  refine hx_dn (hr202_153 ?_)
  refine h _ (fun c hc => ?_) (fun k hk => ?_)
  · rw [gx_u_off hc, gx_u_off hc, ← hM]
    rw [gx_u_off hc, gx_u_off hc, gx_u_off hc, gx_u_off hc, gx_u_off hc, gx_u_off hc, gx_u_off hc, gx_u_off hc]
    exact g0 c hc
  · have hz : gx_and (X : Int) (O : Int) = ((X &&& O : Nat) : Int) := hand_nat (by omega) (by omega)
    rw [← hM]
    have hk' : k = 0 ∨ k = 1 ∨ k = 2 ∨ k = 3 ∨ k = 4 ∨ k = 5 ∨ k = 6 ∨ k = 7 ∨ k = 8 ∨ k = 9 ∨ k = 10 ∨ k = 11 ∨ k = 12 ∨ k = 13 := by omega
    rcases hk' with e | e | e | e | e | e | e | e | e | e | e | e | e | e <;> subst e <;> simp [gx_u, fct, g1, g2, g3, g4, e1, w00, w0, w40, w160, w240, w400, hX, hY, hO, hz]
end FE
end
section
/-! the law as a whole: what is asked of it, as a function of what letters stand for -/
def lFst (P : Nat → Bool) : Nat → Nat → Option Nat
  | _, 0 => none
  | k, d + 1 => if P k = true then some k else lFst P (k + 1) d
noncomputable def lSem (xs : List Int32) (K : hCode) (CL : List hCl) (rc re : (Int → Int) → Nat → Option Int) : Prop := ∀ (env : Int → Int) (i : Nat) (c : hCl), CL[i]? = some c → is01 (rc env i) ∧ lEv xs K env c.2.2.1 c.2.2.2 16 (rc env i) ∧ (c.1 ≠ 110 → lEv xs K env c.2.1 c.2.2.1 16 (re env i))
def lHol (CL : List hCl) (rc : (Int → Int) → Nat → Option Int) (env : Int → Int) (kind : Int) (i : Nat) : Bool := match CL[i]? with
  | some c => decide (c.1 = kind) && decide (rc env i = some 1)
  | none => false
def lRes (CL : List hCl) (rc re : (Int → Int) → Nat → Option Int) (env : Int → Int) (kind : Int) : Option Int := match lFst (lHol CL rc env kind) 0 CL.length with
  | some i => some ((re env i).getD 0)
  | none => none
def lClip (high : Int) : Option Int → Int
  | some v => if v < 0 then 0 else if high < v then high else v
  | none => 0
def lOrd (CL : List hCl) : Prop := CL.length ≤ 16 ∧ ∀ (i : Nat) (c : hCl), CL[i]? = some c → isKd c.1 ∧ c.2.1 ≤ c.2.2.1 ∧ c.2.2.1 ≤ c.2.2.2 ∧ c.2.2.2 ≤ 240
/-- the law that stands, by both; W: what a clause of a letter that holds comes to -/
noncomputable def lawR (xs : List Int32) (W : (Int → Int) → Int → Option Int) (m : gx_M) : Prop := ∃ K CL rc re, K.length ≤ 240 ∧ lOrd CL ∧ cLw K CL m ∧ rLw K CL m ∧ lSem xs K CL rc re ∧ W = lRes CL rc re
def hPL : List (Nat × Nat × Nat) := [(44, 7, 8), (45, 0, 240), (46, 0, 240), (47, 0, 16), (48, 0, 16), (49, 0, 16), (50, 0, 16), (86, 13, 14), (97, 0, 260), (98, 0, 16), (99, 0, 16), (100, 0, 16), (101, 0, 16)]
theorem lk_240 {K : hCode} {i : Nat} {c : Int × Int} (hK : K.length ≤ 240) (h : K[i]? = some c) : i < 240 := Nat.lt_of_lt_of_le (lk_lt h) hK
theorem lg_16 {CL : List hCl} {i : Nat} {c : hCl} (hK : CL.length ≤ 16) (h : CL[i]? = some c) : i < 16 := Nat.lt_of_lt_of_le (lg_lt h) hK
theorem cLw_c {K : hCode} {CL : List hCl} {m m' : gx_M} (h : hAg hPL m m') (h1 : K.length ≤ 240) (h2 : CL.length ≤ 16) (hL : cLw K CL m) : cLw K CL m' := by
  obtain ⟨a, b, c⟩ := hL
  refine ⟨?_, fun i q hq => ?_, fun i q hq => ?_⟩
  · rw [h.at 44 7 8 (by decide) (by omega) (by omega)]
    exact a
  · have := lk_240 h1 hq
    rw [h.at 45 0 240 (by decide) (by omega) (by omega), h.at 46 0 240 (by decide) (by omega) (by omega)]
    exact b i q hq
  · have := lg_16 h2 hq
    rw [h.at 47 0 16 (by decide) (by omega) (by omega), h.at 48 0 16 (by decide) (by omega) (by omega), h.at 49 0 16 (by decide) (by omega) (by omega), h.at 50 0 16 (by decide) (by omega) (by omega)]
    exact c i q hq
theorem rLw_c {K : hCode} {CL : List hCl} {m m' : gx_M} (h : hAg hPL m m') (h1 : K.length ≤ 240) (h2 : CL.length ≤ 16) (hL : rLw K CL m) : rLw K CL m' := by
  obtain ⟨a, b, c⟩ := hL
  refine ⟨?_, fun i q hq => ?_, fun i q hq => ?_⟩
  · rw [h.at 86 13 14 (by decide) (by omega) (by omega)]
    exact a
  · have := lk_240 h1 hq
    rw [h.at 97 0 260 (by decide) (by omega) (by omega)]
    exact b i q hq
  · have := lg_16 h2 hq
    rw [h.at 98 0 16 (by decide) (by omega) (by omega), h.at 99 0 16 (by decide) (by omega) (by omega), h.at 100 0 16 (by decide) (by omega) (by omega), h.at 101 0 16 (by decide) (by omega) (by omega)]
    exact c i q hq
theorem lawR_c {xs : List Int32} {W : (Int → Int) → Int → Option Int} {m m' : gx_M} (h : hAg hPL m m') (hL : lawR xs W m) : lawR xs W m' := by
  obtain ⟨K, CL, rc, re, h1, h2, h3, h4, h5, h6⟩ := hL
  exact ⟨K, CL, rc, re, h1, h2, cLw_c h h1 h2.1 h3, rLw_c h h1 h2.1 h4, h5, h6⟩
/-! from the text to what it means -/
theorem lCl_sem {T : Nat → Int} {L p p' : Nat} {K K' Kf : hCode} {c : hCl} {xs : List Int32} {env : Int → Int} (h : lCl T L p K p' K' c) (hK : K'.length ≤ 240) (hA : ∀ i, K.length ≤ i → i < K'.length → Kf[i]? = K'[i]?) : (isKd c.1 ∧ c.2.1 ≤ c.2.2.1 ∧ c.2.2.1 ≤ c.2.2.2 ∧ c.2.2.2 ≤ 240) ∧ ∃ rc re, is01 rc ∧ lEv xs Kf env c.2.2.1 c.2.2.2 16 rc ∧ (c.1 ≠ 110 → lEv xs Kf env c.2.1 c.2.2.1 16 re) := by
  obtain ⟨hk, p1, K1, p2, hh, -, hd, -, -, rfl⟩ := h
  have g2 := lD_grow hd
  have pr := lD_pre hd
  obtain ⟨rc, z, e⟩ := lEv_of (xs := xs) (env := env) (Kf := Kf) hd (fun i ha hb => hA i (by
    rcases hh with ⟨-, -, rfl⟩ | ⟨-, hd1, -⟩
    · exact ha
    · have := lD_grow hd1
      omega) hb)
  have hle : K.length ≤ K1.length := by
    rcases hh with ⟨-, -, rfl⟩ | ⟨-, hd1, -⟩
    · exact Nat.le_refl _
    · exact (lD_grow hd1).2.2
  refine ⟨⟨hk, hle, g2.2.2, hK⟩, ?_⟩
  have e16 := lEv_up (h := 16) (by decide) e
  rcases hh with ⟨hn, -, rfl⟩ | ⟨hn, hd1, -⟩
  · exact ⟨rc, none, z (by decide), e16, fun c => absurd hn c⟩
  · obtain ⟨re, -, e1⟩ := lEv_of (xs := xs) (env := env) (Kf := Kf) hd1 (fun i ha hb => by rw [hA i ha (by have := g2.2.2; omega), pr i hb])
    exact ⟨rc, re, z (by decide), e16, fun _ => lEv_up (by decide) e1⟩
theorem lLs_sem {T : Nat → Int} {L : Nat} {xs : List Int32} {env : Int → Int} (hL : L ≤ 240) : ∀ {j p : Nat} {K : hCode} {CL : List hCl}, lLs T L j p K CL → p ≤ L → ∀ Kf : hCode, (∀ i, i < K.length → Kf[i]? = K[i]?) → ∀ (i : Nat) (c : hCl), CL[i]? = some c → (isKd c.1 ∧ c.2.1 ≤ c.2.2.1 ∧ c.2.2.1 ≤ c.2.2.2 ∧ c.2.2.2 ≤ 240) ∧ ∃ rc re, is01 rc ∧ lEv xs Kf env c.2.2.1 c.2.2.2 16 rc ∧ (c.1 ≠ 110 → lEv xs Kf env c.2.1 c.2.2.1 16 re)
  | 0, p, K, CL, h, _, Kf, _, i, c, hc => by
    rw [h.2.2] at hc
    cases hc
  | j + 1, p, K, CL, h, hp, Kf, hA, i, c, hc => by
    have hkl := lLs_kl h
    obtain ⟨p0, K0, CL0, ps, c0, h1, h2, h3, h4, rfl⟩ := h
    have g := lCl_gr h4
    have hK0 : K0.length ≤ K.length ∧ ∀ i, i < K0.length → K[i]? = K0[i]? := by
      obtain ⟨-, p1, K1, p2, hh, -, hd, -, -, -⟩ := h4
      have g2 := lD_grow hd
      have pr := lD_pre hd
      rcases hh with ⟨-, -, rfl⟩ | ⟨-, hd1, -⟩
      · exact ⟨g2.2.2, pr⟩
      · have g1 := lD_grow hd1
        have pr1 := lD_pre hd1
        exact ⟨by omega, fun i hi => by rw [pr i (by omega), pr1 i hi]⟩
    rcases lg_app hc with hc | ⟨-, rfl⟩
    · refine lLs_sem hL h1 ?_ Kf (fun i hi => ?_) i c hc
      · rcases h2 with ⟨-, rfl⟩ | ⟨-, -, rfl⟩ <;> omega
      · rw [hA i (by omega), hK0.2 i hi]
    · exact lCl_sem h4 (by omega) (fun i _ hi => hA i hi)
theorem lOk_sem {T : Nat → Int} {L : Nat} {K : hCode} {CL : List hCl} (hL : L ≤ 240) (h : lOk T L K CL) (xs : List Int32) : K.length ≤ 240 ∧ lOrd CL ∧ ∃ rc re, lSem xs K CL rc re := by
  obtain ⟨j, hj⟩ := h
  have hkl := lLs_kl hj
  refine ⟨by omega, ⟨by rw [lLs_len hj]; exact lLs_16 hj, fun i c hc => (lLs_sem (xs := []) (env := fun _ => 0) hL hj (Nat.le_refl _) K (fun _ _ => rfl) i c hc).1⟩, ?_⟩
  have H : ∀ q : (Int → Int) × Nat, ∃ r : Option Int × Option Int, ∀ c : hCl, CL[q.2]? = some c → is01 r.1 ∧ lEv xs K q.1 c.2.2.1 c.2.2.2 16 r.1 ∧ (c.1 ≠ 110 → lEv xs K q.1 c.2.1 c.2.2.1 16 r.2) := fun q => by
    cases hc : CL[q.2]? with
    | none => exact ⟨(none, none), fun c e => by cases e⟩
    | some c =>
      obtain ⟨-, rc, re, a, b, d⟩ := lLs_sem (xs := xs) (env := q.1) hL hj (Nat.le_refl _) K (fun _ _ => rfl) q.2 c hc
      exact ⟨(rc, re), fun c' e => by cases e; exact ⟨a, b, d⟩⟩
  obtain ⟨f, hf⟩ := Classical.axiomOfChoice H
  exact ⟨fun env i => (f (env, i)).1, fun env i => (f (env, i)).2, fun env i c hc => hf (env, i) c hc⟩
/-! runs of code, by both -/
section RUN
variable {xs : List Int32} {n bk a b : Nat} {Q : hQ} {m0 : gx_M} {r : Option Int}
theorem cRun (h : lEvC bk xs m0 a b 16 r) (hb : b ≤ 240) (hQ : ∀ m', (∀ c', c' ≠ 51 → m' c' = m0 c') → Q (some (.inl (r.getD 0))) m') {m : gx_M} (hm : ∀ c', c' ≠ 51 → m c' = m0 c') : hxn xs n yp_m58 0 [(0, .inr (.inl 44)), (1, .inr (.inl bk)), (2, .inl (a : Int)), (3, .inl (b : Int))] [] m Q := by
  refine hx_dn (hr58_0 ?_)
  have e : (if (0 : Int) < (a : Int) then (a : Int) else 0) = (a : Int) := by
    split <;> omega
  rw [e]
  refine h n b [] Q (Nat.le_refl _) hb (by decide) (fun c m' g => ?_) (fun v c => ?_) m ⟨hm, fun i v hv => by cases hv⟩
  · have := hQ m' g
    rw [c] at this
    exact this
  · refine ce_end (Nat.le_refl _) (fun m' g => ?_)
    have := hQ m' g
    rw [c] at this
    exact this
theorem rRun (h : lEvR xs m0 a b 16 r) (ha : a ≤ 240) (hb : b ≤ 240) (hQ : ∀ m', (∀ c', c' ≠ 102 → m' c' = m0 c') → Q (some (.inl (r.getD 0))) m') {m : gx_M} (hm : ∀ c', c' ≠ 102 → m c' = m0 c') : hxn xs n yp_m208 0 [(0, .inr (.inl 86)), (1, .inl (a : Int)), (2, .inl (b : Int))] [] m Q := by
  refine hx_dn (hr208_0 ?_)
  have e : gx_w (260 * (gx_w (Int.tdiv (a : Int) 260))) = 0 := by
    have e1 : Int.tdiv (a : Int) 260 = 0 := by
      rw [Int.tdiv_eq_ediv_of_nonneg (by omega)]
      omega
    rw [e1]
    rfl
  rw [e]
  refine h n b [] Q (Nat.le_refl _) hb (by decide) (fun c m' g => ?_) (fun v c => ?_) m ⟨hm, fun i v hv => by cases hv⟩
  · have := hQ m' g
    rw [c] at this
    exact this
  · refine re_end (Nat.le_refl _) (fun m' g => ?_)
    have := hQ m' g
    rw [c] at this
    exact this
end RUN
end
section
/-! the state: a row as the reference has it, and a book of the class -/
def sBk (b : Nat) (s : Nat → Int) (m : gx_M) : Prop :=
  (m b 0 = s 1128 ∧ m b 1 = ((hmask (fun y => decide (s (440 + y) = 1)) 40 : Nat) : Int) ∧ m b 2 = ((hmask (fun y => decide (s (160 + y) = 1)) 40 : Nat) : Int) ∧ m b 3 = s 1129 ∧ m b 4 = s 1130) ∧
  (∀ p, p < 8 → m (b + 1) p = s (1120 + p)) ∧
  (∀ y, y < 40 → (m (b + 2) y = s y ∧ m (b + 3) y = s (40 + y) ∧ m (b + 4) y = s (80 + y) ∧ m (b + 5) y = s (120 + y) ∧ m (b + 6) y = s (200 + y)) ∧ m (b + 7) y = s (240 + y) ∧ (s (440 + y) = 1 → m (b + 8) y = s (280 + y)) ∧ m (b + 9) y = s (320 + y) ∧ m (b + 10) y = s (360 + y) ∧ m (b + 11) y = s (400 + y)) ∧
  ∀ k, k < 640 → m (b + 12) k = s (480 + k)
def sYr (s : Nat → Int) (y : Nat) : Prop := (s (440 + y) = 0 ∨ s (440 + y) = 1) ∧ (s (160 + y) = 0 ∨ s (160 + y) = 1) ∧ (0 ≤ s y ∧ s y ≤ 99) ∧ (0 ≤ s (40 + y) ∧ s (40 + y) ≤ 7) ∧ (0 ≤ s (80 + y) ∧ s (80 + y) ≤ 4095) ∧ (0 ≤ s (120 + y) ∧ s (120 + y) ≤ 255) ∧ (0 ≤ s (200 + y) ∧ s (200 + y) ≤ 9) ∧ (0 ≤ s (240 + y) ∧ s (240 + y) ≤ 7) ∧ (s (280 + y) = -2 ∨ (0 ≤ s (280 + y) ∧ s (280 + y) ≤ 7)) ∧ (0 ≤ s (320 + y) ∧ s (320 + y) ≤ 99999) ∧ (0 ≤ s (360 + y) ∧ s (360 + y) ≤ 99999) ∧ (0 ≤ s (400 + y) ∧ s (400 + y) ≤ 16)
def sOK (s : Nat → Int) : Prop := (∀ y, y < 40 → sYr s y) ∧ (∀ k, k < 640 → 0 ≤ s (480 + k) ∧ s (480 + k) ≤ 7) ∧ (∀ p, p < 8 → (0 ≤ s (1120 + p) ∧ s (1120 + p) ≤ 99999) ∧ (gx_and (gx_shr (s 1128) (p : Int)) 1 = 0 → s (1120 + p) = 0)) ∧ (0 ≤ s 1128 ∧ s 1128 ≤ 255) ∧ (0 ≤ s 1130 ∧ s 1130 ≤ 65535)
theorem sBk_c {b : Nat} {s : Nat → Int} {m m' : gx_M} (h : ∀ c, b ≤ c → c ≤ b + 12 → m' c = m c) (hB : sBk b s m) : sBk b s m' := by
  unfold sBk
  rw [h b (by omega) (by omega), h (b + 1) (by omega) (by omega), h (b + 2) (by omega) (by omega), h (b + 3) (by omega) (by omega), h (b + 4) (by omega) (by omega), h (b + 5) (by omega) (by omega), h (b + 6) (by omega) (by omega), h (b + 7) (by omega) (by omega), h (b + 8) (by omega) (by omega), h (b + 9) (by omega) (by omega), h (b + 10) (by omega) (by omega), h (b + 11) (by omega) (by omega), h (b + 12) (by omega) (by omega)]
  exact hB
theorem sBk_s {b : Nat} {s s' : Nat → Int} {m : gx_M} (h : ∀ k, k < 1131 → s' k = s k) (hB : sBk b s m) : sBk b s' m := by
  obtain ⟨⟨a1, a2, a3, a4, a5⟩, h2, h3, h4⟩ := hB
  refine ⟨⟨by rw [h 1128 (by omega)]; exact a1, ?_, ?_, by rw [h 1129 (by omega)]; exact a4, by rw [h 1130 (by omega)]; exact a5⟩, fun p hp => by rw [h (1120 + p) (by omega)]; exact h2 p hp, fun y hy => ?_, fun k hk => by rw [h (480 + k) (by omega)]; exact h4 k hk⟩
  · rw [a2]
    exact congrArg (fun x : Nat => (x : Int)) (hmask_ext 40 (fun j hj => by rw [h (440 + j) (by omega)]))
  · rw [a3]
    exact congrArg (fun x : Nat => (x : Int)) (hmask_ext 40 (fun j hj => by rw [h (160 + j) (by omega)]))
  · rw [h y (by omega), h (40 + y) (by omega), h (80 + y) (by omega), h (120 + y) (by omega), h (200 + y) (by omega), h (240 + y) (by omega), h (280 + y) (by omega), h (320 + y) (by omega), h (360 + y) (by omega), h (400 + y) (by omega), h (440 + y) (by omega)]
    exact h3 y hy
theorem sYr_s {s s' : Nat → Int} {y : Nat} (hy : y < 40) (h : ∀ k, k < 480 → s' k = s k) (hB : sYr s y) : sYr s' y := by
  unfold sYr
  rw [h y (by omega), h (40 + y) (by omega), h (80 + y) (by omega), h (120 + y) (by omega), h (160 + y) (by omega), h (200 + y) (by omega), h (240 + y) (by omega), h (280 + y) (by omega), h (320 + y) (by omega), h (360 + y) (by omega), h (400 + y) (by omega), h (440 + y) (by omega)]
  exact hB
theorem sOK_s {s s' : Nat → Int} (h : ∀ k, k < 1131 → s' k = s k) (hB : sOK s) : sOK s' := by
  obtain ⟨h1, h2, h3, h4, h5⟩ := hB
  refine ⟨fun y hy => sYr_s hy (fun k hk => h k (by omega)) (h1 y hy), fun k hk => by rw [h (480 + k) (by omega)]; exact h2 k hk, fun p hp => by rw [h (1120 + p) (by omega), h 1128 (by omega)]; exact h3 p hp, by rw [h 1128 (by omega)]; exact h4, by rw [h 1130 (by omega)]; exact h5⟩
section SOK
variable {s : Nat → Int} {y : Nat}
theorem sOK.yr (h : sOK s) (hy : y < 40) : sYr s y := h.1 y hy
theorem sOK.there (h : sOK s) : ∀ y, y < 40 → s (440 + y) = 0 ∨ s (440 + y) = 1 := fun y hy => (h.1 y hy).1
theorem sOK.deed (h : sOK s) : ∀ y, y < 40 → s (160 + y) = 0 ∨ s (160 + y) = 1 := fun y hy => (h.1 y hy).2.1
theorem sOK.skl (h : sOK s) : ∀ y, y < 40 → 0 ≤ s (80 + y) ∧ s (80 + y) ≤ 4095 := fun y hy => (h.1 y hy).2.2.2.2.1
theorem sOK.met (h : sOK s) : ∀ y, y < 40 → 0 ≤ s (120 + y) ∧ s (120 + y) ≤ 255 := fun y hy => (h.1 y hy).2.2.2.2.2.1
theorem sOK.own (h : sOK s) : ∀ y, y < 40 → 0 ≤ s (240 + y) ∧ s (240 + y) ≤ 7 := fun y hy => (h.1 y hy).2.2.2.2.2.2.2.1
theorem sOK.hold (h : sOK s) : ∀ y, y < 40 → s (280 + y) = -2 ∨ (0 ≤ s (280 + y) ∧ s (280 + y) ≤ 7) := fun y hy => (h.1 y hy).2.2.2.2.2.2.2.2.1
theorem sOK.lent (h : sOK s) : ∀ y, y < 40 → 0 ≤ s (320 + y) ∧ s (320 + y) ≤ 99999 := fun y hy => (h.1 y hy).2.2.2.2.2.2.2.2.2.1
theorem sOK.due (h : sOK s) : ∀ y, y < 40 → 0 ≤ s (360 + y) ∧ s (360 + y) ≤ 99999 := fun y hy => (h.1 y hy).2.2.2.2.2.2.2.2.2.2.1
theorem sOK.many (h : sOK s) : ∀ y, y < 40 → 0 ≤ s (400 + y) ∧ s (400 + y) ≤ 16 := fun y hy => (h.1 y hy).2.2.2.2.2.2.2.2.2.2.2
theorem sOK.hand (h : sOK s) : ∀ k, k < 640 → 0 ≤ s (480 + k) ∧ s (480 + k) ≤ 7 := h.2.1
theorem sOK.coin (h : sOK s) : ∀ p, p < 8 → 0 ≤ s (1120 + p) ∧ s (1120 + p) ≤ 99999 := fun p hp => (h.2.2.1 p hp).1
end SOK
def fctP (s : Nat → Int) (p : Int) (k : Nat) : Int := if k = 0 then s 1129 else if k = 9 then p else if k = 10 then ((hcnt (aOwn s p) 40 : Nat) : Int) else if k = 11 then s (1120 + p.toNat) else 0
def env1 (s : Nat → Int) (y : Nat) (p z : Int) (c : Int) : Int := fct s y p z (lfa c).toNat
def env0 (s : Nat → Int) (p : Int) (c : Int) : Int := fctP s p (lfa c).toNat
theorem aKn_eq (s : Nat → Int) (p : Int) (y : Nat) (j : Nat) : aKn s p (y : Int) j = (aOwn s p j && !(decide (j = y))) := by
  unfold aKn
  congr 2
  exact decide_eq_decide.mpr ⟨fun e => by omega, fun e => by omega⟩
section SB5
variable {s : Nat → Int} {m : gx_M}
theorem sB5_ppl (h : sBk 5 s m) : m 5 0 = s 1128 := h.1.1
theorem sB5_yrs (h : sBk 5 s m) : m 5 1 = ((hmask (fun y => decide (s (440 + y) = 1)) 40 : Nat) : Int) := h.1.2.1
theorem sB5_dds (h : sBk 5 s m) : m 5 2 = ((hmask (fun y => decide (s (160 + y) = 1)) 40 : Nat) : Int) := h.1.2.2.1
theorem sB5_day (h : sBk 5 s m) : m 5 3 = s 1129 := h.1.2.2.2.1
theorem sB5_lot (h : sBk 5 s m) : m 5 4 = s 1130 := h.1.2.2.2.2
theorem sB5_coin (h : sBk 5 s m) : ∀ p, p < 8 → m 6 p = s (1120 + p) := h.2.1
theorem sB5_date (h : sBk 5 s m) : ∀ y, y < 40 → m 7 y = s y := fun y hy => (h.2.2.1 y hy).1.1
theorem sB5_livr (h : sBk 5 s m) : ∀ y, y < 40 → m 8 y = s (40 + y) := fun y hy => (h.2.2.1 y hy).1.2.1
theorem sB5_skl (h : sBk 5 s m) : ∀ y, y < 40 → m 9 y = s (80 + y) := fun y hy => (h.2.2.1 y hy).1.2.2.1
theorem sB5_met (h : sBk 5 s m) : ∀ y, y < 40 → m 10 y = s (120 + y) := fun y hy => (h.2.2.1 y hy).1.2.2.2.1
theorem sB5_mark (h : sBk 5 s m) : ∀ y, y < 40 → m 11 y = s (200 + y) := fun y hy => (h.2.2.1 y hy).1.2.2.2.2
theorem sB5_own (h : sBk 5 s m) : ∀ y, y < 40 → m 12 y = s (240 + y) := fun y hy => (h.2.2.1 y hy).2.1
theorem sB5_lent (h : sBk 5 s m) : ∀ y, y < 40 → m 14 y = s (320 + y) := fun y hy => (h.2.2.1 y hy).2.2.2.1
theorem sB5_due (h : sBk 5 s m) : ∀ y, y < 40 → m 15 y = s (360 + y) := fun y hy => (h.2.2.1 y hy).2.2.2.2.1
theorem sB5_many (h : sBk 5 s m) : ∀ y, y < 40 → m 16 y = s (400 + y) := fun y hy => (h.2.2.1 y hy).2.2.2.2.2
theorem sB5_hold (h : sBk 5 s m) : ∀ y, y < 40 → s (440 + y) = 1 → m 13 y = s (280 + y) := fun y hy => (h.2.2.1 y hy).2.2.1
theorem sB5_hand (h : sBk 5 s m) : ∀ k, k < 640 → m 17 k = s (480 + k) := h.2.2.2
end SB5
section SB18
variable {s : Nat → Int} {m : gx_M}
theorem sB18_ppl (h : sBk 18 s m) : m 18 0 = s 1128 := h.1.1
theorem sB18_yrs (h : sBk 18 s m) : m 18 1 = ((hmask (fun y => decide (s (440 + y) = 1)) 40 : Nat) : Int) := h.1.2.1
theorem sB18_dds (h : sBk 18 s m) : m 18 2 = ((hmask (fun y => decide (s (160 + y) = 1)) 40 : Nat) : Int) := h.1.2.2.1
theorem sB18_day (h : sBk 18 s m) : m 18 3 = s 1129 := h.1.2.2.2.1
theorem sB18_lot (h : sBk 18 s m) : m 18 4 = s 1130 := h.1.2.2.2.2
theorem sB18_coin (h : sBk 18 s m) : ∀ p, p < 8 → m 19 p = s (1120 + p) := h.2.1
theorem sB18_date (h : sBk 18 s m) : ∀ y, y < 40 → m 20 y = s y := fun y hy => (h.2.2.1 y hy).1.1
theorem sB18_livr (h : sBk 18 s m) : ∀ y, y < 40 → m 21 y = s (40 + y) := fun y hy => (h.2.2.1 y hy).1.2.1
theorem sB18_skl (h : sBk 18 s m) : ∀ y, y < 40 → m 22 y = s (80 + y) := fun y hy => (h.2.2.1 y hy).1.2.2.1
theorem sB18_met (h : sBk 18 s m) : ∀ y, y < 40 → m 23 y = s (120 + y) := fun y hy => (h.2.2.1 y hy).1.2.2.2.1
theorem sB18_mark (h : sBk 18 s m) : ∀ y, y < 40 → m 24 y = s (200 + y) := fun y hy => (h.2.2.1 y hy).1.2.2.2.2
theorem sB18_own (h : sBk 18 s m) : ∀ y, y < 40 → m 25 y = s (240 + y) := fun y hy => (h.2.2.1 y hy).2.1
theorem sB18_lent (h : sBk 18 s m) : ∀ y, y < 40 → m 27 y = s (320 + y) := fun y hy => (h.2.2.1 y hy).2.2.2.1
theorem sB18_due (h : sBk 18 s m) : ∀ y, y < 40 → m 28 y = s (360 + y) := fun y hy => (h.2.2.1 y hy).2.2.2.2.1
theorem sB18_many (h : sBk 18 s m) : ∀ y, y < 40 → m 29 y = s (400 + y) := fun y hy => (h.2.2.1 y hy).2.2.2.2.2
theorem sB18_hold (h : sBk 18 s m) : ∀ y, y < 40 → s (440 + y) = 1 → m 26 y = s (280 + y) := fun y hy => (h.2.2.1 y hy).2.2.1
theorem sB18_hand (h : sBk 18 s m) : ∀ k, k < 640 → m 30 k = s (480 + k) := h.2.2.2
end SB18
section SB31
variable {s : Nat → Int} {m : gx_M}
theorem sB31_ppl (h : sBk 31 s m) : m 31 0 = s 1128 := h.1.1
theorem sB31_yrs (h : sBk 31 s m) : m 31 1 = ((hmask (fun y => decide (s (440 + y) = 1)) 40 : Nat) : Int) := h.1.2.1
theorem sB31_dds (h : sBk 31 s m) : m 31 2 = ((hmask (fun y => decide (s (160 + y) = 1)) 40 : Nat) : Int) := h.1.2.2.1
theorem sB31_day (h : sBk 31 s m) : m 31 3 = s 1129 := h.1.2.2.2.1
theorem sB31_lot (h : sBk 31 s m) : m 31 4 = s 1130 := h.1.2.2.2.2
theorem sB31_coin (h : sBk 31 s m) : ∀ p, p < 8 → m 32 p = s (1120 + p) := h.2.1
theorem sB31_date (h : sBk 31 s m) : ∀ y, y < 40 → m 33 y = s y := fun y hy => (h.2.2.1 y hy).1.1
theorem sB31_livr (h : sBk 31 s m) : ∀ y, y < 40 → m 34 y = s (40 + y) := fun y hy => (h.2.2.1 y hy).1.2.1
theorem sB31_skl (h : sBk 31 s m) : ∀ y, y < 40 → m 35 y = s (80 + y) := fun y hy => (h.2.2.1 y hy).1.2.2.1
theorem sB31_met (h : sBk 31 s m) : ∀ y, y < 40 → m 36 y = s (120 + y) := fun y hy => (h.2.2.1 y hy).1.2.2.2.1
theorem sB31_mark (h : sBk 31 s m) : ∀ y, y < 40 → m 37 y = s (200 + y) := fun y hy => (h.2.2.1 y hy).1.2.2.2.2
theorem sB31_own (h : sBk 31 s m) : ∀ y, y < 40 → m 38 y = s (240 + y) := fun y hy => (h.2.2.1 y hy).2.1
theorem sB31_lent (h : sBk 31 s m) : ∀ y, y < 40 → m 40 y = s (320 + y) := fun y hy => (h.2.2.1 y hy).2.2.2.1
theorem sB31_due (h : sBk 31 s m) : ∀ y, y < 40 → m 41 y = s (360 + y) := fun y hy => (h.2.2.1 y hy).2.2.2.2.1
theorem sB31_many (h : sBk 31 s m) : ∀ y, y < 40 → m 42 y = s (400 + y) := fun y hy => (h.2.2.1 y hy).2.2.2.2.2
theorem sB31_hold (h : sBk 31 s m) : ∀ y, y < 40 → s (440 + y) = 1 → m 39 y = s (280 + y) := fun y hy => (h.2.2.1 y hy).2.2.1
theorem sB31_hand (h : sBk 31 s m) : ∀ k, k < 640 → m 43 k = s (480 + k) := h.2.2.2
end SB31
section LT5
variable {xs : List Int32} {s : Nat → Int} {m0 : gx_M} {y : Nat} {p z : Int}
theorem hs62 {n : Nat} {Q : hQ} {m : gx_M} (hs : sOK s) (hB : sBk 5 s m) (hp : 0 ≤ p ∧ p < 8) (h : Q (some (.inl (s (1120 + p.toNat)))) m) : hxn xs n yp_m62 0 [(0, .inr (.inl 5)), (1, .inl p)] [] m Q := by
  obtain ⟨P, rfl⟩ : ∃ P : Nat, p = (P : Int) := ⟨p.toNat, by omega⟩
  rw [Int.toNat_natCast] at h
  refine hx_dn (hr62_0 (fun c => absurd c (by omega)) (fun _ c => absurd c (by omega)) (fun _ _ c => ?_) (fun _ _ _ => ?_))
  · rw [sB5_ppl hB] at c
    rw [(hs.2.2.1 P (by omega)).2 c] at h
    exact h
  · rw [Int.toNat_natCast, sB5_coin hB P (by omega)]
    exact h
theorem lE5_1 (hs : sOK s) (hB : sBk 5 s m0) (hy : y < 40) (hp : 0 ≤ p ∧ p < 8) (h9 : m0 44 9 = (y : Int)) (h10 : m0 44 10 = p) (h11 : m0 44 11 = z) : lEnvC 5 xs m0 (env1 s y p z) := by
  intro c hc n m Q hm hQ
  have hB' : sBk 5 s m := sBk_c (fun c h1 h2 => hm c (by omega)) hB
  have k9 : m 44 9 = (y : Int) := by rw [hm 44 (by decide)]; exact h9
  have k10 : m 44 10 = p := by rw [hm 44 (by decide)]; exact h10
  have k11 : m 44 11 = z := by rw [hm 44 (by decide)]; exact h11
  have hown : ∀ n Q, Q (some (.inr (.inr ((hmask (aOwn s p) 40 : Nat) : Int)))) m → hxn xs n yp_m60 0 [(0, .inr (.inl 5)), (1, .inl p)] [] m Q := fun n Q h => hs60 (sB5_yrs hB') (sB5_own hB') h
  have hbc : ∀ (X : Int) n Q, 0 ≤ X → X < 65536 → Q (some (.inl ((hpop 20 X.toNat : Nat) : Int))) m → hxn xs n yp_m63 0 [(0, .inl X)] [] m Q := fun X n Q h1 h2 h => by
    obtain ⟨Y, rfl⟩ : ∃ Y : Nat, X = (Y : Int) := ⟨X.toNat, by omega⟩
    exact hs63 (by omega) h
  refine hx_dn (hr59_0 (fun c => ?_) (fun _ c => ?_) (fun _ _ c => ?_) (fun _ _ _ c => ?_) (fun _ _ _ _ c => absurd c (by omega)) (fun _ _ _ _ _ _ c => ?_) (fun _ _ _ _ _ _ _ c => ?_) (fun _ _ _ _ _ _ _ _ c => absurd hc (by rw [c]; unfold isLt; omega)) (fun _ _ _ _ _ _ _ _ _ c => absurd hc (by rw [c]; unfold isLt; omega)) (fun _ _ _ _ _ _ _ _ _ _ c => ?_) (fun _ _ _ _ _ _ _ _ _ _ _ c => absurd hc (by rw [c]; unfold isLt; omega)) (fun _ _ _ _ _ _ _ _ _ _ _ _ c => absurd hc (by rw [c]; unfold isLt; omega)) (fun _ _ _ _ _ _ _ _ _ _ _ _ _ c => ?_) (fun _ _ _ _ _ _ _ _ _ _ _ _ _ _ c => ?_) (fun _ _ _ _ _ _ _ _ _ _ _ _ _ _ _ c => ?_) (fun _ _ _ _ _ _ _ _ _ _ _ _ _ _ _ _ c => absurd hc (by rw [c]; unfold isLt; omega)) (fun _ _ _ _ _ _ _ _ _ _ _ _ _ _ _ _ _ c => ?_) (fun _ _ _ _ _ _ _ _ _ _ _ _ _ _ _ _ _ _ c => absurd hc (by rw [c]; unfold isLt; omega)) (fun _ _ _ _ _ _ _ _ _ _ _ _ _ _ _ _ _ _ _ c => absurd hc (by rw [c]; unfold isLt; omega)) (fun _ _ _ _ _ _ _ _ _ _ _ _ _ _ _ _ _ _ _ _ c => absurd hc (by rw [c]; unfold isLt; omega)) (fun _ _ _ _ _ _ _ _ _ _ _ _ _ _ _ _ _ _ _ _ _ c => ?_) (fun _ _ _ _ _ _ _ _ _ _ _ _ _ _ _ _ _ _ _ _ _ _ c => absurd hc (by rw [c]; unfold isLt; omega)) (fun _ _ _ _ _ _ _ _ _ _ _ _ _ _ _ _ _ _ _ _ _ _ _ c => absurd hc (by rw [c]; unfold isLt; omega)) (fun _ _ _ _ _ _ _ _ _ _ _ _ _ _ _ _ _ _ _ _ _ _ _ _ c => absurd hc (by rw [c]; unfold isLt; omega)) (fun _ _ _ _ _ _ _ _ _ _ _ _ _ _ _ _ _ _ _ _ _ _ _ _ _ c => absurd hc (by rw [c]; unfold isLt; omega)) (fun _ _ _ _ _ _ _ _ _ _ _ _ _ _ _ _ _ _ _ _ _ _ _ _ _ _ c => absurd hc (by rw [c]; unfold isLt; omega)) (fun _ _ _ _ _ _ _ _ _ _ _ _ _ _ _ _ _ _ _ _ _ _ _ _ _ _ _ c => ?_) (fun c0 c1 c2 c3 c4 c5 c6 c7 c8 c9 c10 c11 c12 c13 c14 c15 c16 c17 c18 c19 c20 c21 c22 c23 c24 c25 c26 c27 => ?_) (fun _ _ _ _ _ c => absurd c (by omega)))
  · rw [c] at hQ
    rw [k10]
    refine hown _ _ ?_
    refine hx_dn (hr59_62 (hs61 (Nat.lt_of_lt_of_le (hmask_lt _ 40) (by decide)) ?_))
    rw [hpop_hmask]
    exact hx_dn (hr59_65 hQ)
  · rw [c] at hQ
    rw [k10]
    refine hs62 hs hB' hp ?_
    exact hx_dn (hr59_74 hQ)
  · rw [c] at hQ
    rw [k10]
    exact hQ
  · rw [c] at hQ
    rw [sB5_day hB']
    exact hQ
  · rw [c] at hQ
    rw [k9, Int.toNat_natCast, sB5_date hB' y hy]
    exact hQ
  · rw [c] at hQ
    rw [k9, k10, Int.toNat_natCast, sB5_skl hB' y hy]
    refine hown _ _ ?_
    refine hx_dn (hr59_298 ?_)
    rw [k9, hmask_del hy]
    refine hs64 (v := fun j => s (80 + j)) (sB5_skl hB') ?_
    refine hx_dn (hr59_312 ?_)
    have hx : hOr (fun j => aOwn s p j && !(decide (j = y))) (fun j => s (80 + j)) 40 = hOr (aKn s p y) (fun j => s (80 + j)) 40 := hOr_ext 40 (fun j _ => (aKn_eq s p y j).symm) (fun _ _ => rfl)
    rw [hx]
    obtain ⟨O, hO, hO2⟩ := hOr_bd (f := aKn s p y) (v := fun j => s (80 + j)) 40 hs.skl
    have hsk := hs.skl y hy
    have hb : 0 ≤ gx_and (s (80 + y)) (hOr (aKn s p y) (fun j => s (80 + j)) 40) ∧ gx_and (s (80 + y)) (hOr (aKn s p y) (fun j => s (80 + j)) 40) < 65536 := by
      rw [hO]
      obtain ⟨Y, hY⟩ : ∃ Y : Nat, s (80 + y) = (Y : Int) := ⟨(s (80 + y)).toNat, by omega⟩
      rw [hY, hand_nat (by omega) (by omega)]
      have : Y &&& O ≤ Y := Nat.and_le_left
      omega
    refine hbc _ _ _ hb.1 hb.2 ?_
    exact hx_dn (hr59_316 hQ)
  · rw [c] at hQ
    rw [k9, Int.toNat_natCast, sB5_many hB' y hy]
    exact hQ
  · rw [c] at hQ
    rw [k9, sB5_dds hB', hlushr_nat (hmask_40 _) (by omega)]
    have e2 : hland (((hmask (fun y => decide (s (160 + y) = 1)) 40 / 2 ^ y : Nat)) : Int) 1 = s (160 + y) := by
      have e3 := hland_nat (X := hmask (fun y => decide (s (160 + y) = 1)) 40 / 2 ^ y) (Z := 1) (Nat.lt_of_le_of_lt (Nat.div_le_self _ _) (hmask_40 _)) (by decide)
      have e4 : (((1 : Nat) : Nat) : Int) = 1 := rfl
      rw [e4] at e3
      rw [e3, Nat.and_one_is_mod, hbit_eq, hmask_bit, decide_eq_true hy, Bool.true_and]
      have := hs.deed y hy
      split
      · rename_i q
        rw [decide_eq_true_eq] at q
        exact q.symm
      · rename_i q
        rw [decide_eq_true_eq] at q
        omega
    have := hs.deed y hy
    rw [e2, gx_w_id (by omega) (by omega)]
    exact hQ
  · rw [c] at hQ
    rw [k9, Int.toNat_natCast, sB5_livr hB' y hy]
    exact hQ
  · rw [c] at hQ
    rw [k9, Int.toNat_natCast, sB5_met hB' y hy]
    have := hs.met y hy
    refine hbc _ _ _ (by omega) (by omega) ?_
    exact hx_dn (hr59_256 hQ)
  · rw [c] at hQ
    rw [k9, Int.toNat_natCast, sB5_own hB' y hy]
    exact hQ
  · rw [c] at hQ
    rw [k9, Int.toNat_natCast, sB5_skl hB' y hy]
    have := hs.skl y hy
    refine hbc _ _ _ (by omega) (by omega) ?_
    exact hx_dn (hr59_243 hQ)
  · rw [c] at hQ
    rw [k9]
    exact hQ
  · have e : c = 122 := by
      unfold isLt at hc
      omega
    rw [e] at hQ
    rw [k11]
    exact hQ
theorem lE5_0 (hs : sOK s) (hB : sBk 5 s m0) (hp : 0 ≤ p ∧ p < 8) (h9 : m0 44 9 = -1) (h10 : m0 44 10 = p) : lEnvC 5 xs m0 (env0 s p) := by
  intro c hc n m Q hm hQ
  have hB' : sBk 5 s m := sBk_c (fun c h1 h2 => hm c (by omega)) hB
  have k9 : m 44 9 = -1 := by rw [hm 44 (by decide)]; exact h9
  have k10 : m 44 10 = p := by rw [hm 44 (by decide)]; exact h10
  refine hx_dn (hr59_0 (fun c => ?_) (fun _ c => ?_) (fun _ _ c => ?_) (fun _ _ _ c => ?_) (fun c0 c1 c2 c3 _ => ?_) (fun _ _ _ _ c _ _ => absurd c (by omega)) (fun _ _ _ _ c _ _ _ => absurd c (by omega)) (fun _ _ _ _ c _ _ _ _ => absurd c (by omega)) (fun _ _ _ _ c _ _ _ _ _ => absurd c (by omega)) (fun _ _ _ _ c _ _ _ _ _ _ => absurd c (by omega)) (fun _ _ _ _ c _ _ _ _ _ _ _ => absurd c (by omega)) (fun _ _ _ _ c _ _ _ _ _ _ _ _ => absurd c (by omega)) (fun _ _ _ _ c _ _ _ _ _ _ _ _ _ => absurd c (by omega)) (fun _ _ _ _ c _ _ _ _ _ _ _ _ _ _ => absurd c (by omega)) (fun _ _ _ _ c _ _ _ _ _ _ _ _ _ _ _ => absurd c (by omega)) (fun _ _ _ _ c _ _ _ _ _ _ _ _ _ _ _ _ => absurd c (by omega)) (fun _ _ _ _ c _ _ _ _ _ _ _ _ _ _ _ _ _ => absurd c (by omega)) (fun _ _ _ _ c _ _ _ _ _ _ _ _ _ _ _ _ _ _ => absurd c (by omega)) (fun _ _ _ _ c _ _ _ _ _ _ _ _ _ _ _ _ _ _ _ => absurd c (by omega)) (fun _ _ _ _ c _ _ _ _ _ _ _ _ _ _ _ _ _ _ _ _ => absurd c (by omega)) (fun _ _ _ _ c _ _ _ _ _ _ _ _ _ _ _ _ _ _ _ _ _ => absurd c (by omega)) (fun _ _ _ _ c _ _ _ _ _ _ _ _ _ _ _ _ _ _ _ _ _ _ => absurd c (by omega)) (fun _ _ _ _ c _ _ _ _ _ _ _ _ _ _ _ _ _ _ _ _ _ _ _ => absurd c (by omega)) (fun _ _ _ _ c _ _ _ _ _ _ _ _ _ _ _ _ _ _ _ _ _ _ _ _ => absurd c (by omega)) (fun _ _ _ _ c _ _ _ _ _ _ _ _ _ _ _ _ _ _ _ _ _ _ _ _ _ => absurd c (by omega)) (fun _ _ _ _ c _ _ _ _ _ _ _ _ _ _ _ _ _ _ _ _ _ _ _ _ _ _ => absurd c (by omega)) (fun _ _ _ _ c _ _ _ _ _ _ _ _ _ _ _ _ _ _ _ _ _ _ _ _ _ _ _ => absurd c (by omega)) (fun _ _ _ _ c _ _ _ _ _ _ _ _ _ _ _ _ _ _ _ _ _ _ _ _ _ _ _ => absurd c (by omega)) (fun _ _ _ _ _ c => absurd c (by omega)))
  · rw [c] at hQ
    rw [k10]
    refine hs60 (sB5_yrs hB') (sB5_own hB') ?_
    refine hx_dn (hr59_62 (hs61 (Nat.lt_of_lt_of_le (hmask_lt _ 40) (by decide)) ?_))
    rw [hpop_hmask]
    exact hx_dn (hr59_65 hQ)
  · rw [c] at hQ
    rw [k10]
    refine hs62 hs hB' hp ?_
    exact hx_dn (hr59_74 hQ)
  · rw [c] at hQ
    rw [k10]
    exact hQ
  · rw [c] at hQ
    rw [sB5_day hB']
    exact hQ
  · have e : env0 s p c = 0 := by
      unfold env0 fctP
      unfold isLt at hc
      rcases hc with e | e | e | e | e | e | e | e | e | e | e | e | e | e <;> first | exact absurd e (by assumption) | (rw [e]; rfl)
    rw [e] at hQ
    exact hQ
end LT5
section LT31
variable {xs : List Int32} {s : Nat → Int} {m0 : gx_M} {y : Nat} {p z : Int}
theorem hs31_62 {n : Nat} {Q : hQ} {m : gx_M} (hs : sOK s) (hB : sBk 31 s m) (hp : 0 ≤ p ∧ p < 8) (h : Q (some (.inl (s (1120 + p.toNat)))) m) : hxn xs n yp_m62 0 [(0, .inr (.inl 31)), (1, .inl p)] [] m Q := by
  obtain ⟨P, rfl⟩ : ∃ P : Nat, p = (P : Int) := ⟨p.toNat, by omega⟩
  rw [Int.toNat_natCast] at h
  refine hx_dn (hr31_62_0 (fun c => absurd c (by omega)) (fun _ c => absurd c (by omega)) (fun _ _ c => ?_) (fun _ _ _ => ?_))
  · rw [sB31_ppl hB] at c
    rw [(hs.2.2.1 P (by omega)).2 c] at h
    exact h
  · rw [Int.toNat_natCast, sB31_coin hB P (by omega)]
    exact h
theorem lE31_1 (hs : sOK s) (hB : sBk 31 s m0) (hy : y < 40) (hp : 0 ≤ p ∧ p < 8) (h9 : m0 44 9 = (y : Int)) (h10 : m0 44 10 = p) (h11 : m0 44 11 = z) : lEnvC 31 xs m0 (env1 s y p z) := by
  intro c hc n m Q hm hQ
  have hB' : sBk 31 s m := sBk_c (fun c h1 h2 => hm c (by omega)) hB
  have k9 : m 44 9 = (y : Int) := by rw [hm 44 (by decide)]; exact h9
  have k10 : m 44 10 = p := by rw [hm 44 (by decide)]; exact h10
  have k11 : m 44 11 = z := by rw [hm 44 (by decide)]; exact h11
  have hown : ∀ n Q, Q (some (.inr (.inr ((hmask (aOwn s p) 40 : Nat) : Int)))) m → hxn xs n yp_m60 0 [(0, .inr (.inl 31)), (1, .inl p)] [] m Q := fun n Q h => hs31_60 (sB31_yrs hB') (sB31_own hB') h
  have hbc : ∀ (X : Int) n Q, 0 ≤ X → X < 65536 → Q (some (.inl ((hpop 20 X.toNat : Nat) : Int))) m → hxn xs n yp_m63 0 [(0, .inl X)] [] m Q := fun X n Q h1 h2 h => by
    obtain ⟨Y, rfl⟩ : ∃ Y : Nat, X = (Y : Int) := ⟨X.toNat, by omega⟩
    exact hs63 (by omega) h
  refine hx_dn (hr31_59_0 (fun c => ?_) (fun _ c => ?_) (fun _ _ c => ?_) (fun _ _ _ c => ?_) (fun _ _ _ _ c => absurd c (by omega)) (fun _ _ _ _ _ _ c => ?_) (fun _ _ _ _ _ _ _ c => ?_) (fun _ _ _ _ _ _ _ _ c => absurd hc (by rw [c]; unfold isLt; omega)) (fun _ _ _ _ _ _ _ _ _ c => absurd hc (by rw [c]; unfold isLt; omega)) (fun _ _ _ _ _ _ _ _ _ _ c => ?_) (fun _ _ _ _ _ _ _ _ _ _ _ c => absurd hc (by rw [c]; unfold isLt; omega)) (fun _ _ _ _ _ _ _ _ _ _ _ _ c => absurd hc (by rw [c]; unfold isLt; omega)) (fun _ _ _ _ _ _ _ _ _ _ _ _ _ c => ?_) (fun _ _ _ _ _ _ _ _ _ _ _ _ _ _ c => ?_) (fun _ _ _ _ _ _ _ _ _ _ _ _ _ _ _ c => ?_) (fun _ _ _ _ _ _ _ _ _ _ _ _ _ _ _ _ c => absurd hc (by rw [c]; unfold isLt; omega)) (fun _ _ _ _ _ _ _ _ _ _ _ _ _ _ _ _ _ c => ?_) (fun _ _ _ _ _ _ _ _ _ _ _ _ _ _ _ _ _ _ c => absurd hc (by rw [c]; unfold isLt; omega)) (fun _ _ _ _ _ _ _ _ _ _ _ _ _ _ _ _ _ _ _ c => absurd hc (by rw [c]; unfold isLt; omega)) (fun _ _ _ _ _ _ _ _ _ _ _ _ _ _ _ _ _ _ _ _ c => absurd hc (by rw [c]; unfold isLt; omega)) (fun _ _ _ _ _ _ _ _ _ _ _ _ _ _ _ _ _ _ _ _ _ c => ?_) (fun _ _ _ _ _ _ _ _ _ _ _ _ _ _ _ _ _ _ _ _ _ _ c => absurd hc (by rw [c]; unfold isLt; omega)) (fun _ _ _ _ _ _ _ _ _ _ _ _ _ _ _ _ _ _ _ _ _ _ _ c => absurd hc (by rw [c]; unfold isLt; omega)) (fun _ _ _ _ _ _ _ _ _ _ _ _ _ _ _ _ _ _ _ _ _ _ _ _ c => absurd hc (by rw [c]; unfold isLt; omega)) (fun _ _ _ _ _ _ _ _ _ _ _ _ _ _ _ _ _ _ _ _ _ _ _ _ _ c => absurd hc (by rw [c]; unfold isLt; omega)) (fun _ _ _ _ _ _ _ _ _ _ _ _ _ _ _ _ _ _ _ _ _ _ _ _ _ _ c => absurd hc (by rw [c]; unfold isLt; omega)) (fun _ _ _ _ _ _ _ _ _ _ _ _ _ _ _ _ _ _ _ _ _ _ _ _ _ _ _ c => ?_) (fun c0 c1 c2 c3 c4 c5 c6 c7 c8 c9 c10 c11 c12 c13 c14 c15 c16 c17 c18 c19 c20 c21 c22 c23 c24 c25 c26 c27 => ?_) (fun _ _ _ _ _ c => absurd c (by omega)))
  · rw [c] at hQ
    rw [k10]
    refine hown _ _ ?_
    refine hx_dn (hr31_59_62 (hs61 (Nat.lt_of_lt_of_le (hmask_lt _ 40) (by decide)) ?_))
    rw [hpop_hmask]
    exact hx_dn (hr31_59_65 hQ)
  · rw [c] at hQ
    rw [k10]
    refine hs31_62 hs hB' hp ?_
    exact hx_dn (hr31_59_74 hQ)
  · rw [c] at hQ
    rw [k10]
    exact hQ
  · rw [c] at hQ
    rw [sB31_day hB']
    exact hQ
  · rw [c] at hQ
    rw [k9, Int.toNat_natCast, sB31_date hB' y hy]
    exact hQ
  · rw [c] at hQ
    rw [k9, k10, Int.toNat_natCast, sB31_skl hB' y hy]
    refine hown _ _ ?_
    refine hx_dn (hr31_59_298 ?_)
    rw [k9, hmask_del hy]
    refine hs31_64 (v := fun j => s (80 + j)) (sB31_skl hB') ?_
    refine hx_dn (hr31_59_312 ?_)
    have hx : hOr (fun j => aOwn s p j && !(decide (j = y))) (fun j => s (80 + j)) 40 = hOr (aKn s p y) (fun j => s (80 + j)) 40 := hOr_ext 40 (fun j _ => (aKn_eq s p y j).symm) (fun _ _ => rfl)
    rw [hx]
    obtain ⟨O, hO, hO2⟩ := hOr_bd (f := aKn s p y) (v := fun j => s (80 + j)) 40 hs.skl
    have hsk := hs.skl y hy
    have hb : 0 ≤ gx_and (s (80 + y)) (hOr (aKn s p y) (fun j => s (80 + j)) 40) ∧ gx_and (s (80 + y)) (hOr (aKn s p y) (fun j => s (80 + j)) 40) < 65536 := by
      rw [hO]
      obtain ⟨Y, hY⟩ : ∃ Y : Nat, s (80 + y) = (Y : Int) := ⟨(s (80 + y)).toNat, by omega⟩
      rw [hY, hand_nat (by omega) (by omega)]
      have : Y &&& O ≤ Y := Nat.and_le_left
      omega
    refine hbc _ _ _ hb.1 hb.2 ?_
    exact hx_dn (hr31_59_316 hQ)
  · rw [c] at hQ
    rw [k9, Int.toNat_natCast, sB31_many hB' y hy]
    exact hQ
  · rw [c] at hQ
    rw [k9, sB31_dds hB', hlushr_nat (hmask_40 _) (by omega)]
    have e2 : hland (((hmask (fun y => decide (s (160 + y) = 1)) 40 / 2 ^ y : Nat)) : Int) 1 = s (160 + y) := by
      have e3 := hland_nat (X := hmask (fun y => decide (s (160 + y) = 1)) 40 / 2 ^ y) (Z := 1) (Nat.lt_of_le_of_lt (Nat.div_le_self _ _) (hmask_40 _)) (by decide)
      have e4 : (((1 : Nat) : Nat) : Int) = 1 := rfl
      rw [e4] at e3
      rw [e3, Nat.and_one_is_mod, hbit_eq, hmask_bit, decide_eq_true hy, Bool.true_and]
      have := hs.deed y hy
      split
      · rename_i q
        rw [decide_eq_true_eq] at q
        exact q.symm
      · rename_i q
        rw [decide_eq_true_eq] at q
        omega
    have := hs.deed y hy
    rw [e2, gx_w_id (by omega) (by omega)]
    exact hQ
  · rw [c] at hQ
    rw [k9, Int.toNat_natCast, sB31_livr hB' y hy]
    exact hQ
  · rw [c] at hQ
    rw [k9, Int.toNat_natCast, sB31_met hB' y hy]
    have := hs.met y hy
    refine hbc _ _ _ (by omega) (by omega) ?_
    exact hx_dn (hr31_59_256 hQ)
  · rw [c] at hQ
    rw [k9, Int.toNat_natCast, sB31_own hB' y hy]
    exact hQ
  · rw [c] at hQ
    rw [k9, Int.toNat_natCast, sB31_skl hB' y hy]
    have := hs.skl y hy
    refine hbc _ _ _ (by omega) (by omega) ?_
    exact hx_dn (hr31_59_243 hQ)
  · rw [c] at hQ
    rw [k9]
    exact hQ
  · have e : c = 122 := by
      unfold isLt at hc
      omega
    rw [e] at hQ
    rw [k11]
    exact hQ
theorem lE31_0 (hs : sOK s) (hB : sBk 31 s m0) (hp : 0 ≤ p ∧ p < 8) (h9 : m0 44 9 = -1) (h10 : m0 44 10 = p) : lEnvC 31 xs m0 (env0 s p) := by
  intro c hc n m Q hm hQ
  have hB' : sBk 31 s m := sBk_c (fun c h1 h2 => hm c (by omega)) hB
  have k9 : m 44 9 = -1 := by rw [hm 44 (by decide)]; exact h9
  have k10 : m 44 10 = p := by rw [hm 44 (by decide)]; exact h10
  refine hx_dn (hr31_59_0 (fun c => ?_) (fun _ c => ?_) (fun _ _ c => ?_) (fun _ _ _ c => ?_) (fun c0 c1 c2 c3 _ => ?_) (fun _ _ _ _ c _ _ => absurd c (by omega)) (fun _ _ _ _ c _ _ _ => absurd c (by omega)) (fun _ _ _ _ c _ _ _ _ => absurd c (by omega)) (fun _ _ _ _ c _ _ _ _ _ => absurd c (by omega)) (fun _ _ _ _ c _ _ _ _ _ _ => absurd c (by omega)) (fun _ _ _ _ c _ _ _ _ _ _ _ => absurd c (by omega)) (fun _ _ _ _ c _ _ _ _ _ _ _ _ => absurd c (by omega)) (fun _ _ _ _ c _ _ _ _ _ _ _ _ _ => absurd c (by omega)) (fun _ _ _ _ c _ _ _ _ _ _ _ _ _ _ => absurd c (by omega)) (fun _ _ _ _ c _ _ _ _ _ _ _ _ _ _ _ => absurd c (by omega)) (fun _ _ _ _ c _ _ _ _ _ _ _ _ _ _ _ _ => absurd c (by omega)) (fun _ _ _ _ c _ _ _ _ _ _ _ _ _ _ _ _ _ => absurd c (by omega)) (fun _ _ _ _ c _ _ _ _ _ _ _ _ _ _ _ _ _ _ => absurd c (by omega)) (fun _ _ _ _ c _ _ _ _ _ _ _ _ _ _ _ _ _ _ _ => absurd c (by omega)) (fun _ _ _ _ c _ _ _ _ _ _ _ _ _ _ _ _ _ _ _ _ => absurd c (by omega)) (fun _ _ _ _ c _ _ _ _ _ _ _ _ _ _ _ _ _ _ _ _ _ => absurd c (by omega)) (fun _ _ _ _ c _ _ _ _ _ _ _ _ _ _ _ _ _ _ _ _ _ _ => absurd c (by omega)) (fun _ _ _ _ c _ _ _ _ _ _ _ _ _ _ _ _ _ _ _ _ _ _ _ => absurd c (by omega)) (fun _ _ _ _ c _ _ _ _ _ _ _ _ _ _ _ _ _ _ _ _ _ _ _ _ => absurd c (by omega)) (fun _ _ _ _ c _ _ _ _ _ _ _ _ _ _ _ _ _ _ _ _ _ _ _ _ _ => absurd c (by omega)) (fun _ _ _ _ c _ _ _ _ _ _ _ _ _ _ _ _ _ _ _ _ _ _ _ _ _ _ => absurd c (by omega)) (fun _ _ _ _ c _ _ _ _ _ _ _ _ _ _ _ _ _ _ _ _ _ _ _ _ _ _ _ => absurd c (by omega)) (fun _ _ _ _ c _ _ _ _ _ _ _ _ _ _ _ _ _ _ _ _ _ _ _ _ _ _ _ => absurd c (by omega)) (fun _ _ _ _ _ c => absurd c (by omega)))
  · rw [c] at hQ
    rw [k10]
    refine hs31_60 (sB31_yrs hB') (sB31_own hB') ?_
    refine hx_dn (hr31_59_62 (hs61 (Nat.lt_of_lt_of_le (hmask_lt _ 40) (by decide)) ?_))
    rw [hpop_hmask]
    exact hx_dn (hr31_59_65 hQ)
  · rw [c] at hQ
    rw [k10]
    refine hs31_62 hs hB' hp ?_
    exact hx_dn (hr31_59_74 hQ)
  · rw [c] at hQ
    rw [k10]
    exact hQ
  · rw [c] at hQ
    rw [sB31_day hB']
    exact hQ
  · have e : env0 s p c = 0 := by
      unfold env0 fctP
      unfold isLt at hc
      rcases hc with e | e | e | e | e | e | e | e | e | e | e | e | e | e <;> first | exact absurd e (by assumption) | (rw [e]; rfl)
    rw [e] at hQ
    exact hQ
end LT31
end
section
/-! what is asked of the law, by both -/
def cLf (m m' : gx_M) : Prop := ∀ c k, c ≠ 51 → ¬ (c = 44 ∧ 9 ≤ k ∧ k ≤ 11) → m' c k = m c k
theorem cLf_L {m m' : gx_M} (h : cLf m m') : hAg hPL m m' := by
  intro q hq k h1 h2
  refine h q.1 k ?_ ?_
  · rcases List.mem_cons.mp hq with rfl | hq
    · decide
    simp only [List.mem_cons, List.not_mem_nil, or_false] at hq
    rcases hq with rfl | rfl | rfl | rfl | rfl | rfl | rfl | rfl | rfl | rfl | rfl | rfl <;> decide
  · rcases List.mem_cons.mp hq with rfl | hq
    · dsimp only at h1 h2 ⊢
      omega
    simp only [List.mem_cons, List.not_mem_nil, or_false] at hq
    rcases hq with rfl | rfl | rfl | rfl | rfl | rfl | rfl | rfl | rfl | rfl | rfl | rfl <;> (dsimp only; omega)
def fstI (o : Option Nat) : Int := match o with
  | some j => (j : Int)
  | none => -1
theorem lHol_no {CL : List hCl} {rc : (Int → Int) → Nat → Option Int} {env : Int → Int} {kind : Int} {i : Nat} {c : hCl} (hc : CL[i]? = some c) (h : c.1 ≠ kind ∨ rc env i ≠ some 1) : lHol CL rc env kind i = false := by
  unfold lHol
  rw [hc]
  dsimp only
  rw [Bool.and_eq_false_iff, decide_eq_false_iff_not, decide_eq_false_iff_not]
  exact h
theorem lHol_yes {CL : List hCl} {rc : (Int → Int) → Nat → Option Int} {env : Int → Int} {kind : Int} {i : Nat} {c : hCl} (hc : CL[i]? = some c) (h : c.1 = kind) (h2 : rc env i = some 1) : lHol CL rc env kind i = true := by
  unfold lHol
  rw [hc]
  dsimp only
  rw [decide_eq_true h, decide_eq_true h2]
  rfl
theorem lFst_no {P : Nat → Bool} {i d : Nat} (h : P i = false) : lFst P i (d + 1) = lFst P (i + 1) d := by
  show (if P i = true then some i else lFst P (i + 1) d) = _
  rw [if_neg (by rw [h]; decide)]
theorem lFst_yes {P : Nat → Bool} {i d : Nat} (h : P i = true) : lFst P i (d + 1) = some i := if_pos h
theorem lFst_at {P : Nat → Bool} : ∀ {d k j : Nat}, lFst P k d = some j → P j = true ∧ k ≤ j ∧ j < k + d
  | 0, k, j, h => by cases h
  | d + 1, k, j, h => by
    by_cases c : P k = true
    · rw [lFst_yes c] at h
      cases h
      exact ⟨c, Nat.le_refl _, by omega⟩
    · rw [lFst_no (by simpa using c)] at h
      have := lFst_at h
      exact ⟨this.1, by omega, by omega⟩
theorem is01_g {r : Option Int} (h : is01 r) : (r.getD 0 = 0 ∧ r ≠ some 1) ∨ (r.getD 0 = 1 ∧ r = some 1) := by
  rcases h with e | e | e <;> subst e
  · exact .inl ⟨rfl, by decide⟩
  · exact .inl ⟨rfl, by decide⟩
  · exact .inr ⟨rfl, rfl⟩
section ASK
variable {xs : List Int32} {n bk : Nat} {Q : hQ} {m0 : gx_M} {K : hCode} {CL : List hCl} {rc re : (Int → Int) → Nat → Option Int} {env : Int → Int} {kind : Int}
theorem lg_some {i : Nat} (h : i < CL.length) : ∃ c, CL[i]? = some c := ⟨CL[i], List.getElem?_eq_getElem h⟩
theorem c57l (hL : cLw K CL m0) (ho : lOrd CL) (hS : lSem xs K CL rc re) (hE : lEnvC bk xs m0 env) : ∀ d i : Nat, i + d = CL.length → (∀ m', (∀ c', c' ≠ 51 → m' c' = m0 c') → Q (some (.inl (fstI (lFst (lHol CL rc env kind) i d)))) m') → ∀ m : gx_M, (∀ c', c' ≠ 51 → m c' = m0 c') → hxn xs n yp_m57 2 [(0, .inr (.inl 44)), (1, .inr (.inl bk)), (2, .inl kind), (3, .inl (i : Int))] [] m Q := by
  intro d
  induction d with
  | zero =>
    intro i hi hQ m hm
    have e7 : m 44 7 = (CL.length : Int) := by rw [hm 44 (by decide)]; exact hL.1
    exact hx_dn (hr57_2 (fun _ => hQ m hm) (fun c => absurd c (by omega)) (fun c => absurd c (by omega)) (fun c => absurd c (by omega)))
  | succ d ih =>
    intro i hi hQ m hm
    have e7 : m 44 7 = (CL.length : Int) := by rw [hm 44 (by decide)]; exact hL.1
    have h16 := ho.1
    obtain ⟨c, hc⟩ := lg_some (CL := CL) (i := i) (by omega)
    obtain ⟨q1, q2, q3, q4⟩ := hL.2.2 i c hc
    obtain ⟨o1, o2, o3, o4⟩ := ho.2 i c hc
    obtain ⟨s1, s2, -⟩ := hS env i c hc
    have next : lHol CL rc env kind i = false → ∀ m', (∀ c', c' ≠ 51 → m' c' = m0 c') → hxn xs n yp_m57 2 [(0, .inr (.inl 44)), (1, .inr (.inl bk)), (2, .inl kind), (3, .inl (gx_w ((i : Int) + 1)))] [] m' Q := fun hf m' hm' => by
      rw [ew_u (by omega)]
      refine ih (i + 1) (by omega) (fun m2 h2 => ?_) m' hm'
      have := hQ m2 h2
      rw [lFst_no hf] at this
      exact this
    refine hx_dn (hr57_2 (fun c => absurd c (by omega)) (fun _ c => absurd c (by omega)) (fun _ _ c => ?_) (fun _ _ c => ?_))
    · rw [Int.toNat_natCast, hm 47 (by decide), q1] at c
      exact next (lHol_no hc (.inl c)) m hm
    · rw [Int.toNat_natCast, hm 47 (by decide), q1] at c
      rw [Int.toNat_natCast, hm 49 (by decide), hm 50 (by decide), q3, q4]
      refine cRun (s2.1 bk m0 hL.2.1 hE) o4 (fun m' hm' => ?_) hm
      rcases is01_g s1 with ⟨z1, z2⟩ | ⟨z1, z2⟩
      · rw [z1]
        exact hx_dn (hr57_43 (s0 := 0) (fun _ => next (lHol_no hc (.inr z2)) m' hm') (fun c => absurd rfl c))
      · rw [z1]
        refine hx_dn (hr57_43 (s0 := 1) (fun c => absurd c (by decide)) (fun _ => ?_))
        have := hQ m' hm'
        rw [lFst_yes (lHol_yes hc c z2)] at this
        exact this
theorem c57 (hL : cLw K CL m0) (ho : lOrd CL) (hS : lSem xs K CL rc re) (hE : lEnvC bk xs m0 env) (hQ : ∀ m', (∀ c', c' ≠ 51 → m' c' = m0 c') → Q (some (.inl (fstI (lFst (lHol CL rc env kind) 0 CL.length)))) m') : hxn xs n yp_m57 0 [(0, .inr (.inl 44)), (1, .inr (.inl bk)), (2, .inl kind)] [] m0 Q :=
  hx_dn (hr57_0 (c57l hL ho hS hE CL.length 0 (by omega) hQ m0 (fun _ _ => rfl)))
theorem cLf_ask {m m' : gx_M} {y p z : Int} (h : ∀ c', c' ≠ 51 → m' c' = (gx_u (gx_u (gx_u m 44 9 y) 44 10 p) 44 11 z) c') : cLf m m' := fun c k h1 h2 => by
  rw [h c h1, gx_u_ne (by omega), gx_u_ne (by omega), gx_u_ne (by omega)]
theorem cFrb {W : (Int → Int) → Int → Option Int} {m : gx_M} {y p z : Int} (hL : lawR xs W m) (hE : ∀ m1 : gx_M, cLf m m1 → m1 44 9 = y → m1 44 10 = p → m1 44 11 = z → lEnvC bk xs m1 env) (hQ : ∀ m', cLf m m' → Q (some (.inl (if (W env 110).isSome = true then 1 else 0))) m') : hxn xs n yp_m55 0 [(0, .inr (.inl 44)), (1, .inr (.inl bk)), (2, .inl y), (3, .inl p), (4, .inl z)] [] m Q := by
  obtain ⟨K, CL, rc, re, h1, ho, hc, -, hS, rfl⟩ := hL
  refine hx_dn (hr55_0 (hx_dn (hr56_0 ?_)))
  have hf : cLf m (gx_u (gx_u (gx_u m 44 9 y) 44 10 p) 44 11 z) := cLf_ask (fun _ _ => rfl)
  have hE1 := hE _ hf (by rw [gx_u_ne (by omega), gx_u_ne (by omega), gx_u_self]) (by rw [gx_u_ne (by omega), gx_u_self]) gx_u_self
  refine hx_dn (hr55_8 (c57 (cLw_c (cLf_L hf) h1 ho.1 hc) ho hS hE1 (fun m' hm' => ?_)))
  have := hQ m' (cLf_ask hm')
  unfold lRes at this
  revert this
  cases lFst (lHol CL rc env 110) 0 CL.length with
  | none =>
    intro h
    exact hx_dn (hr55_15 (b := bk) (s0 := -1) (fun _ => h) (fun c => absurd rfl c))
  | some j =>
    intro h
    exact hx_dn (hr55_15 (b := bk) (s0 := (j : Int)) (fun c => absurd c (by omega)) (fun _ => h))
def lHi (kind : Int) : Int := if kind = 102 then 10 else if kind = 105 then 99 else 999
theorem cAmt {W : (Int → Int) → Int → Option Int} {m : gx_M} {y p z : Int} (hk : kind ≠ 110) (hL : lawR xs W m) (hE : ∀ m1 : gx_M, cLf m m1 → m1 44 9 = y → m1 44 10 = p → m1 44 11 = z → lEnvC bk xs m1 env) (hQ : ∀ m', cLf m m' → Q (some (.inl (lClip (lHi kind) (W env kind)))) m') : hxn xs n yp_m82 0 [(0, .inr (.inl 44)), (1, .inr (.inl bk)), (2, .inl kind), (3, .inl y), (4, .inl p), (5, .inl z)] [] m Q := by
  obtain ⟨K, CL, rc, re, h1, ho, hc, -, hS, rfl⟩ := hL
  refine hx_dn (hr82_0 (hx_dn (hr56_0 ?_)))
  obtain ⟨M, hM⟩ : ∃ M, M = gx_u (gx_u (gx_u m 44 9 y) 44 10 p) 44 11 z := ⟨_, rfl⟩
  rw [← hM]
  have hf : cLf m M := by
    rw [hM]
    exact cLf_ask (fun _ _ => rfl)
  have hE1 := hE M hf (by rw [hM, gx_u_ne (by omega), gx_u_ne (by omega), gx_u_self]) (by rw [hM, gx_u_ne (by omega), gx_u_self]) (by rw [hM]; exact gx_u_self)
  have hcM := cLw_c (cLf_L hf) h1 ho.1 hc
  refine hx_dn (hr82_9 (c57 hcM ho hS hE1 (fun m' hm' => ?_)))
  have fin : ∀ m2 : gx_M, (∀ c', c' ≠ 51 → m2 c' = M c') → cLf m m2 := fun m2 h2 => cLf_ask (fun c' hc' => by rw [h2 c' hc', hM])
  have hlr : lRes CL rc re env kind = match lFst (lHol CL rc env kind) 0 CL.length with
      | some i => some ((re env i).getD 0)
      | none => none := rfl
  cases hF : lFst (lHol CL rc env kind) 0 CL.length with
  | none =>
    rw [hF] at hlr
    have := hQ m' (fin m' hm')
    rw [hlr] at this
    exact hx_dn (hr82_15 (s0 := -1) (fun _ => this) (fun c => absurd c (by decide)) (fun c => absurd c (by decide)))
  | some j =>
    rw [hF] at hlr
    obtain ⟨hP, -, hj⟩ := lFst_at hF
    have h16 := ho.1
    obtain ⟨c, hcj⟩ := lg_some (CL := CL) (i := j) (by omega)
    have hck : c.1 = kind := by
      unfold lHol at hP
      rw [hcj] at hP
      dsimp only at hP
      rw [Bool.and_eq_true, decide_eq_true_eq] at hP
      exact hP.1
    obtain ⟨q1, q2, q3, q4⟩ := hcM.2.2 j c hcj
    obtain ⟨o1, o2, o3, o4⟩ := ho.2 j c hcj
    obtain ⟨-, -, s3⟩ := hS env j c hcj
    have fin2 : ∀ v : Int, 0 ≤ v → v = lHi kind → hxn xs n yp_m82 36 [(0, .inr (.inl 44)), (1, .inr (.inl bk)), (6, .inl (j : Int))] [.inl v, .inl 0] m' Q := fun v hv0 hv => by
      refine hx_dn (hr82_36 ?_)
      rw [Int.toNat_natCast, hm' 48 (by decide), hm' 49 (by decide), q2, q3]
      refine cRun ((s3 (by rw [hck]; exact hk)).1 bk M hcM.2.1 hE1) (by omega) (fun m2 h2 => ?_) hm'
      refine hx_dn (hr82_55 (b := bk) ?_)
      have := hQ m2 (fin m2 h2)
      rw [hlr] at this
      have e : (if (0 : Int) < (if (re env j).getD 0 < v then (re env j).getD 0 else v) then (if (re env j).getD 0 < v then (re env j).getD 0 else v) else 0) = lClip (lHi kind) (some ((re env j).getD 0)) := by
        unfold lClip
        rw [← hv]
        dsimp only
        split <;> split <;> split <;> first | omega | (split <;> omega)
      rw [e]
      exact this
    refine hx_dn (hr82_15 (s0 := (j : Int)) (fun c => absurd c (by omega)) (fun _ _ => ?_) (fun _ c => absurd c (by omega)))
    refine hx_dn (hr83_0 (fun a => ?_) (fun a b => ?_) (fun a b => ?_))
    · exact fin2 10 (by decide) (by unfold lHi; rw [if_pos a])
    · exact fin2 99 (by decide) (by unfold lHi; rw [if_neg a, if_pos b])
    · exact fin2 999 (by decide) (by unfold lHi; rw [if_neg a, if_neg b])
/-! the reference -/
theorem r225l {high : Int} (hh : 0 ≤ high) (hk : kind ≠ 110) (hL : rLw K CL m0) (ho : lOrd CL) (hS : lSem xs K CL rc re) (hE : lEnvR m0 env) : ∀ d i : Nat, i + d = CL.length → (∀ m', (∀ c', c' ≠ 102 → m' c' = m0 c') → Q (some (.inl (lClip high (match lFst (lHol CL rc env kind) i d with | some i => some ((re env i).getD 0) | none => none)))) m') → ∀ m : gx_M, (∀ c', c' ≠ 102 → m c' = m0 c') → hxn xs n yp_m225 2 [(0, .inr (.inl 86)), (1, .inl kind), (2, .inl high), (3, .inl (i : Int))] [] m Q := by
  intro d
  induction d with
  | zero =>
    intro i hi hQ m hm
    have e7 : m 86 13 = (CL.length : Int) := by rw [hm 86 (by decide)]; exact hL.1
    exact hx_dn (hr225_2 (fun _ => hQ m hm) (fun c => absurd c (by omega)) (fun c => absurd c (by omega)))
  | succ d ih =>
    intro i hi hQ m hm
    have e7 : m 86 13 = (CL.length : Int) := by rw [hm 86 (by decide)]; exact hL.1
    have h16 := ho.1
    obtain ⟨c, hc⟩ := lg_some (CL := CL) (i := i) (by omega)
    obtain ⟨q1, q2, q3, q4⟩ := hL.2.2 i c hc
    obtain ⟨o1, o2, o3, o4⟩ := ho.2 i c hc
    obtain ⟨s1, s2, s3⟩ := hS env i c hc
    have next : lHol CL rc env kind i = false → ∀ m', (∀ c', c' ≠ 102 → m' c' = m0 c') → hxn xs n yp_m225 2 [(0, .inr (.inl 86)), (1, .inl kind), (2, .inl high), (3, .inl (gx_w ((i : Int) + 1)))] [] m' Q := fun hf m' hm' => by
      rw [ew_u (by omega)]
      refine ih (i + 1) (by omega) (fun m2 h2 => ?_) m' hm'
      have := hQ m2 h2
      rw [lFst_no hf] at this
      exact this
    refine hx_dn (hr225_2 (fun c => absurd c (by omega)) (fun _ c => ?_) (fun _ c => ?_))
    · rw [Int.toNat_natCast, hm 98 (by decide), q1] at c
      exact next (lHol_no hc (.inl c)) m hm
    · rw [Int.toNat_natCast, hm 98 (by decide), q1] at c
      rw [Int.toNat_natCast, hm 100 (by decide), hm 101 (by decide), q3, q4]
      refine rRun (s2.2 m0 hL.2.1 hE) (by omega) o4 (fun m' hm' => ?_) hm
      rcases is01_g s1 with ⟨z1, z2⟩ | ⟨z1, z2⟩
      · rw [z1]
        exact hx_dn (hr225_36 (s0 := 0) (fun c => absurd c (by decide)) (fun _ => next (lHol_no hc (.inr z2)) m' hm'))
      · rw [z1]
        refine hx_dn (hr225_36 (s0 := 1) (fun _ => ?_) (fun c => absurd rfl c))
        rw [Int.toNat_natCast, hm' 99 (by decide), hm' 100 (by decide), q2, q3]
        refine rRun ((s3 (by rw [c]; exact hk)).2 m0 hL.2.1 hE) (by omega) (by omega) (fun m2 h2 => ?_) hm'
        have := hQ m2 h2
        rw [lFst_yes (lHol_yes hc c z2)] at this
        dsimp only [lClip] at this
        refine hx_dn (hr225_59 (fun a b => ?_) (fun a b => ?_) (fun a => ?_))
        · rw [if_neg (by omega), if_neg (by omega)] at this
          exact this
        · rw [if_neg (by omega), if_pos b] at this
          exact this
        · rw [if_pos a] at this
          exact this
theorem rBy {W : (Int → Int) → Int → Option Int} {high : Int} (hh : 0 ≤ high) (hk : kind ≠ 110) (hL : lawR xs W m0) (hE : lEnvR m0 env) (hQ : ∀ m', (∀ c', c' ≠ 102 → m' c' = m0 c') → Q (some (.inl (lClip high (W env kind)))) m') : hxn xs n yp_m225 0 [(0, .inr (.inl 86)), (1, .inl kind), (2, .inl high)] [] m0 Q := by
  obtain ⟨K, CL, rc, re, h1, ho, -, hr, hS, rfl⟩ := hL
  exact hx_dn (hr225_0 (r225l hh hk hr ho hS hE CL.length 0 (by omega) hQ m0 (fun _ _ => rfl)))
theorem r201l (hL : rLw K CL m0) (ho : lOrd CL) (hS : lSem xs K CL rc re) (hE : lEnvR m0 env) : ∀ d i : Nat, i + d = CL.length → (∀ m', (∀ c', c' ≠ 102 → m' c' = m0 c') → Q (some (.inl (if (lFst (lHol CL rc env 110) i d).isSome = true then 1 else 0))) m') → ∀ m : gx_M, (∀ c', c' ≠ 102 → m c' = m0 c') → hxn xs n yp_m201 10 [(0, .inr (.inl 86)), (4, .inl (i : Int))] [] m Q := by
  intro d
  induction d with
  | zero =>
    intro i hi hQ m hm
    have e7 : m 86 13 = (CL.length : Int) := by rw [hm 86 (by decide)]; exact hL.1
    exact hx_dn (hr201_10 (fun _ => hQ m hm) (fun c => absurd c (by omega)) (fun c => absurd c (by omega)))
  | succ d ih =>
    intro i hi hQ m hm
    have e7 : m 86 13 = (CL.length : Int) := by rw [hm 86 (by decide)]; exact hL.1
    have h16 := ho.1
    obtain ⟨c, hc⟩ := lg_some (CL := CL) (i := i) (by omega)
    obtain ⟨q1, q2, q3, q4⟩ := hL.2.2 i c hc
    obtain ⟨o1, o2, o3, o4⟩ := ho.2 i c hc
    obtain ⟨s1, s2, -⟩ := hS env i c hc
    have next : lHol CL rc env 110 i = false → ∀ m', (∀ c', c' ≠ 102 → m' c' = m0 c') → hxn xs n yp_m201 10 [(0, .inr (.inl 86)), (4, .inl (gx_w ((i : Int) + 1)))] [] m' Q := fun hf m' hm' => by
      rw [ew_u (by omega)]
      refine ih (i + 1) (by omega) (fun m2 h2 => ?_) m' hm'
      have := hQ m2 h2
      rw [lFst_no hf] at this
      exact this
    refine hx_dn (hr201_10 (fun c => absurd c (by omega)) (fun _ c => ?_) (fun _ c => ?_))
    · rw [Int.toNat_natCast, hm 98 (by decide), q1] at c
      exact next (lHol_no hc (.inl c)) m hm
    · rw [Int.toNat_natCast, hm 98 (by decide), q1] at c
      rw [Int.toNat_natCast, hm 100 (by decide), hm 101 (by decide), q3, q4]
      refine rRun (s2.2 m0 hL.2.1 hE) (by omega) o4 (fun m' hm' => ?_) hm
      rcases is01_g s1 with ⟨z1, z2⟩ | ⟨z1, z2⟩
      · rw [z1]
        exact hx_dn (hr201_49 (s0 := 0) (fun _ => next (lHol_no hc (.inr z2)) m' hm') (fun c => absurd c (by decide)))
      · rw [z1]
        refine hx_dn (hr201_49 (s0 := 1) (fun c => absurd rfl c) (fun _ => ?_))
        have := hQ m' hm'
        rw [lFst_yes (lHol_yes hc c z2)] at this
        exact this
end ASK
/-! the facts laid out, and what stands then -/
def rLf (m m' : gx_M) : Prop := ∀ c, c ≠ 102 → c ≠ 103 → m' c = m c
theorem rLf_L {m m' : gx_M} (h : rLf m m') : hAg hPL m m' := by
  intro q hq k h1 h2
  have e : m' q.1 = m q.1 := by
    refine h q.1 ?_ ?_
    · simp only [hPL, List.mem_cons, List.not_mem_nil, or_false] at hq
      rcases hq with rfl | rfl | rfl | rfl | rfl | rfl | rfl | rfl | rfl | rfl | rfl | rfl | rfl <;> decide
    · simp only [hPL, List.mem_cons, List.not_mem_nil, or_false] at hq
      rcases hq with rfl | rfl | rfl | rfl | rfl | rfl | rfl | rfl | rfl | rfl | rfl | rfl | rfl <;> decide
  rw [e]
section FEZ
variable {xs : List Int32} {n : Nat} {Q : hQ} {m : gx_M} {p z : Int}
theorem lfa_14 {c : Int} (h : isLt c) : (lfa c).toNat < 14 := by
  unfold isLt at h
  unfold lfa
  omega
theorem hs203z (hp : 0 ≤ p ∧ p < 8) (hT : ∀ y, y < 40 → m 87 (440 + y) = 0 ∨ m 87 (440 + y) = 1) (h : ∀ m', (∀ c, c ≠ 103 → m' c = m c) → (∀ k, k < 14 → m' 103 k = fctP (m 87) p k) → Q none m') : hxn xs n yp_m203 0 [(0, .inr (.inl 86)), (1, .inl p)] [] m Q := by
  have hl : ∀ d k : Nat, k + d = 14 → ∀ m1 : gx_M, (∀ c, c ≠ 103 → m1 c = m c) → (∀ j, j < k → m1 103 j = 0) → hxn xs n yp_m203 2 [(0, .inr (.inl 86)), (1, .inl p), (2, .inl (k : Int))] [] m1 Q := by
    intro d
    induction d with
    | zero =>
      intro k hk m1 hm hz
      have e : k = 14 := by omega
      subst e
      refine hx_dn (hr203_2 (fun _ => ?_) (fun c => absurd c (by omega)))
      have e87 : (gx_u (gx_u m1 103 0 (m1 87 1129)) 103 9 p) 87 = m 87 := by
        rw [gx_u_off (by decide), gx_u_off (by decide)]
        exact hm 87 (by decide)
      refine hs204 (by rw [e87]; exact hT) ?_
      rw [e87]
      show hxn xs n yp_m203 54 _ [.inl _, .inl 10, .inr (.inl 103)] _ Q
      refine hx_dn (hr203_54 ?_)
      have e2 : (gx_w (1120 + p)).toNat = 1120 + p.toNat := by
        rw [gx_w_id (by omega) (by omega)]
        omega
      rw [e87, e2, hm 87 (by decide)]
      refine h _ (fun c hc => ?_) (fun k hk => ?_)
      · rw [gx_u_off hc, gx_u_off hc, gx_u_off hc, gx_u_off hc]
        exact hm c hc
      · have hz' := hz k hk
        have hk' : k = 0 ∨ k = 1 ∨ k = 2 ∨ k = 3 ∨ k = 4 ∨ k = 5 ∨ k = 6 ∨ k = 7 ∨ k = 8 ∨ k = 9 ∨ k = 10 ∨ k = 11 ∨ k = 12 ∨ k = 13 := by omega
        rcases hk' with e | e | e | e | e | e | e | e | e | e | e | e | e | e <;> subst e <;> simp [gx_u, fctP, hz']
    | succ d ih =>
      intro k hk m1 hm hz
      refine hx_dn (hr203_2 (fun c => absurd c (by omega)) (fun _ => ?_))
      rw [ew_u (by omega), Int.toNat_natCast]
      refine ih (k + 1) (by omega) _ (fun c hc => by rw [gx_u_off hc]; exact hm c hc) (fun j hj => ?_)
      by_cases e : j = k
      · subst e
        exact gx_u_self
      · rw [gx_u_ne (by omega)]
        exact hz j (by omega)
  exact hx_dn (hr203_0 (hl 14 0 rfl m (fun _ _ => rfl) (fun j hj => absurd hj (by omega))))
theorem rEnv0 {m' : gx_M} {s : Nat → Int} (h : ∀ k, k < 14 → m' 103 k = fctP s p k) : lEnvR m' (env0 s p) := fun c hc => h _ (lfa_14 hc)
theorem rEnv1 {m' : gx_M} {s : Nat → Int} {y : Nat} (h : ∀ k, k < 14 → m' 103 k = fct s y p z k) : lEnvR m' (env1 s y p z) := fun c hc => h _ (lfa_14 hc)
/-- isBarred -/
theorem rBar {W : (Int → Int) → Int → Option Int} {y : Nat} (hL : lawR xs W m) (hs : sOK (m 87)) (hy : y < 40) (hp : 0 ≤ p ∧ p < 8) (hQ : ∀ m', rLf m m' → Q (some (.inl (if (W (env1 (m 87) y p z) 110).isSome = true then 1 else 0))) m') : hxn xs n yp_m201 0 [(0, .inr (.inl 86)), (1, .inl (y : Int)), (2, .inl p), (3, .inl z)] [] m Q := by
  refine hx_dn (hr201_0 (hs202 hy hp hs.there hs.skl hs.met (fun m1 g1 g2 => ?_)))
  have f1 : rLf m m1 := fun c _ h2 => g1 c h2
  have hL1 := lawR_c (rLf_L f1) hL
  obtain ⟨K, CL, rc, re, h1, ho, -, hr, hS, rfl⟩ := hL1
  refine hx_dn (hr201_7 ?_)
  refine r201l hr ho hS (rEnv1 g2) CL.length 0 (by omega) (fun m' hm' => ?_) m1 (fun _ _ => rfl)
  have := hQ m' (fun c a b => (hm' c a).trans (g1 c b))
  unfold lRes at this
  revert this
  cases lFst (lHol CL rc (env1 (m 87) y p z) 110) 0 CL.length with
  | none => exact id
  | some j => exact id
/-- worthOf -/
theorem rWor {W : (Int → Int) → Int → Option Int} {y : Nat} (hL : lawR xs W m) (hs : sOK (m 87)) (hy : y < 40) (hp : 0 ≤ p ∧ p < 8) (hQ : ∀ m', rLf m m' → Q (some (.inl (lClip 999 (W (env1 (m 87) y p 0) 118)))) m') : hxn xs n yp_m224 0 [(0, .inr (.inl 86)), (1, .inl (y : Int)), (2, .inl p)] [] m Q := by
  refine hx_dn (hr224_0 (hs202 hy hp hs.there hs.skl hs.met (fun m1 g1 g2 => ?_)))
  have f1 : rLf m m1 := fun c _ h2 => g1 c h2
  have hL1 := lawR_c (rLf_L f1) hL
  refine hx_dn (hr224_7 (rBy (by decide) (by decide) hL1 (rEnv1 g2) (fun m' hm' => ?_)))
  exact hx_dn (hr224_16 (hQ m' (fun c a b => (hm' c a).trans (g1 c b))))
end FEZ
/-! the class, over the book and over the trial's -/
section CLB
variable {xs : List Int32} {n : Nat} {Q : hQ} {m : gx_M} {p z : Int} {s : Nat → Int} {W : (Int → Int) → Int → Option Int} {y : Nat}
theorem cLf_b {b : Nat} {m1 : gx_M} (hb : b = 5 ∨ b = 31) (h : cLf m m1) (hB : sBk b s m) : sBk b s m1 := sBk_c (fun c h1 h2 => funext (fun k => h c k (by omega) (by omega))) hB
theorem lE_1 {b : Nat} {m1 : gx_M} (hb : b = 5 ∨ b = 31) (hs : sOK s) (hB : sBk b s m) (hy : y < 40) (hp : 0 ≤ p ∧ p < 8) (hf : cLf m m1) (h9 : m1 44 9 = (y : Int)) (h10 : m1 44 10 = p) (h11 : m1 44 11 = z) : lEnvC b xs m1 (env1 s y p z) := by
  have hB1 := cLf_b hb hf hB
  rcases hb with rfl | rfl
  · exact lE5_1 hs hB1 hy hp h9 h10 h11
  · exact lE31_1 hs hB1 hy hp h9 h10 h11
theorem cForb {b : Nat} (hb : b = 5 ∨ b = 31) (hL : lawR xs W m) (hs : sOK s) (hB : sBk b s m) (hy : y < 40) (hp : 0 ≤ p ∧ p < 8) (hQ : ∀ m', cLf m m' → Q (some (.inl (if (W (env1 s y p z) 110).isSome = true then 1 else 0))) m') : hxn xs n yp_m55 0 [(0, .inr (.inl 44)), (1, .inr (.inl b)), (2, .inl (y : Int)), (3, .inl p), (4, .inl z)] [] m Q :=
  cFrb hL (fun _ hf h9 h10 h11 => lE_1 hb hs hB hy hp hf h9 h10 h11) hQ
theorem cAm1 {b : Nat} {kind : Int} (hb : b = 5 ∨ b = 31) (hk : kind ≠ 110) (hL : lawR xs W m) (hs : sOK s) (hB : sBk b s m) (hy : y < 40) (hp : 0 ≤ p ∧ p < 8) (hQ : ∀ m', cLf m m' → Q (some (.inl (lClip (lHi kind) (W (env1 s y p z) kind)))) m') : hxn xs n yp_m82 0 [(0, .inr (.inl 44)), (1, .inr (.inl b)), (2, .inl kind), (3, .inl (y : Int)), (4, .inl p), (5, .inl z)] [] m Q :=
  cAmt hk hL (fun _ hf h9 h10 h11 => lE_1 hb hs hB hy hp hf h9 h10 h11) hQ
theorem cAm0 {b : Nat} {kind : Int} (hb : b = 5 ∨ b = 31) (hk : kind ≠ 110) (hL : lawR xs W m) (hs : sOK s) (hB : sBk b s m) (hp : 0 ≤ p ∧ p < 8) (hQ : ∀ m', cLf m m' → Q (some (.inl (lClip (lHi kind) (W (env0 s p) kind)))) m') : hxn xs n yp_m82 0 [(0, .inr (.inl 44)), (1, .inr (.inl b)), (2, .inl kind), (3, .inl (-1)), (4, .inl p), (5, .inl z)] [] m Q := by
  refine cAmt hk hL (fun m1 hf h9 h10 _ => ?_) hQ
  have hB1 := cLf_b hb hf hB
  rcases hb with rfl | rfl
  · exact lE5_0 hs hB1 hp h9 h10
  · exact lE31_0 hs hB1 hp h9 h10
end CLB
end
