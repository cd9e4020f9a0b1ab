/-! personIs, years: roads -/
/-- handsOf from 0 on -/
theorem hr77_0 {xs : List Int32} {n : Nat} {Q : hQ} {m : gx_M} {x1 : Int}
    (h1 : (cYear 5 m x1) → hxn xs n yp_m77 14 [(0, .inr (.inl 5)), (1, .inl x1), (2, .inl 0), (3, .inl 0)] [] m Q)
    (h2 : (¬ (cYear 5 m x1)) → Q (some (.inl 0)) m) : hxn xs (n + 1) yp_m77 0 [(0, .inr (.inl 5)), (1, .inl x1)] [] m Q := by
  refine hx_blks (npc := 4) (L' := [(0, .inr (.inl 5)), (1, .inl x1), (2, .inl 0)]) (st' := [.inl x1, .inr (.inl 5)]) (m' := m) ((0, .iconst 0, 1, 0, 0, 0, 0), (0, 0, 0)) [((1, .istore_n 2, 1, 0, 0, 0, 0), (0, 0, 0)), ((2, .aload_n 0, 1, 0, 0, 0, 0), (0, 0, 0)), ((3, .iload_n 1, 1, 0, 0, 0, 0), (0, 0, 0))] (by decide +kernel) rfl ?_
  refine hx_call (E := (4, .invokevirtual 71, 3, 17, 0, 2188, 0)) (M' := yp_m17) [.inr (.inl 5), .inl x1] [] rfl (by decide +kernel) rfl ⟨rfl, rfl⟩ rfl rfl (hs17_5 (fun c1 => ?_) (fun c1 => ?_))
  · have c1 : cYear 5 m x1 := c1
    show hxn xs n yp_m77 7 [(0, .inr (.inl 5)), (1, .inl x1), (2, .inl 0)] [.inl 1] m Q
    refine hx_if .ne 12 (by decide +kernel) (fun c2 => ?_) (fun c2 => ?_)
    · have c2 : (1 : Int) ≠ 0 := c2
      refine hx_blk (npc := 14) (L' := [(0, .inr (.inl 5)), (1, .inl x1), (2, .inl 0), (3, .inl 0)]) (st' := []) (m' := m) [((12, .iconst 0, 1, 0, 0, 0, 0), (0, 0, 0)), ((13, .istore_n 3, 1, 0, 0, 0, 0), (0, 0, 0))] (by decide +kernel) rfl ?_
      exact hx_pick [0, 1, 2, 3] (h1 c1)
    · have c2 : (1 : Int) = 0 := by have h : ¬ ((1 : Int) ≠ 0) := c2; omega
      exfalso; omega
  · have c1 : ¬ (cYear 5 m x1) := c1
    show hxn xs n yp_m77 7 [(0, .inr (.inl 5)), (1, .inl x1), (2, .inl 0)] [.inl 0] m Q
    refine hx_if .ne 12 (by decide +kernel) (fun c2 => ?_) (fun c2 => ?_)
    · have c2 : (0 : Int) ≠ 0 := c2
      exfalso; omega
    · have c2 : (0 : Int) = 0 := by have h : ¬ ((0 : Int) ≠ 0) := c2; omega
      refine hx_blk (npc := 11) (L' := [(0, .inr (.inl 5)), (1, .inl x1), (2, .inl 0)]) (st' := [.inl 0]) (m' := m) [((10, .iload_n 2, 1, 0, 0, 0, 0), (0, 0, 0))] (by decide +kernel) rfl ?_
      exact hx_reti (by decide +kernel) (h2 c1)

/-- handsOf from 14 on -/
theorem hr77_14 {xs : List Int32} {n : Nat} {Q : hQ} {m : gx_M} {x1 x2 x3 : Int}
    (h1 : (16 ≤ x3) → Q (some (.inl x2)) m)
    (h2 : (x3 < 16) → ((m 16 (x1).toNat) ≤ x3) → Q (some (.inl x2)) m)
    (h3 : (x3 < 16) → (x3 < (m 16 (x1).toNat)) → hxn xs n yp_m77 14 [(0, .inr (.inl 5)), (1, .inl x1), (2, .inl (gx_or x2 (gx_shl 1 (m 17 (gx_w ((gx_w (x1 * 16)) + x3)).toNat)))), (3, .inl (gx_w (x3 + 1)))] [] m Q) : hxn xs (n + 1) yp_m77 14 [(0, .inr (.inl 5)), (1, .inl x1), (2, .inl x2), (3, .inl x3)] [] m Q := by
  refine hx_blks (npc := 17) (L' := [(0, .inr (.inl 5)), (1, .inl x1), (2, .inl x2), (3, .inl x3)]) (st' := [.inl 16, .inl x3]) (m' := m) ((14, .iload_n 3, 1, 0, 0, 0, 0), (0, 0, 0)) [((15, .bipush 16, 2, 0, 0, 0, 0), (0, 0, 0))] (by decide +kernel) rfl ?_
  refine hx_cmp .ge 52 (by decide +kernel) (fun c1 => ?_) (fun c1 => ?_)
  · have c1 : 16 ≤ x3 := c1
    refine hx_blk (npc := 53) (L' := [(0, .inr (.inl 5)), (1, .inl x1), (2, .inl x2), (3, .inl x3)]) (st' := [.inl x2]) (m' := m) [((52, .iload_n 2, 1, 0, 0, 0, 0), (0, 0, 0))] (by decide +kernel) rfl ?_
    exact hx_reti (by decide +kernel) (h1 c1)
  · have c1 : x3 < 16 := by have h : ¬ (16 ≤ x3) := c1; omega
    refine hx_blk (npc := 27) (L' := [(0, .inr (.inl 5)), (1, .inl x1), (2, .inl x2), (3, .inl x3)]) (st' := [.inl (m 16 (x1).toNat), .inl x3]) (m' := m) [((20, .iload_n 3, 1, 0, 0, 0, 0), (0, 0, 0)), ((21, .aload_n 0, 1, 0, 0, 0, 0), (0, 0, 0)), ((22, .getfield 46, 3, 2, 15, 1131, 0), (1, 5, 16)), ((25, .iload_n 1, 1, 0, 0, 0, 0), (0, 0, 0)), ((26, .iaload, 1, 0, 0, 0, 0), (0, 16, 0))] (by decide +kernel) rfl ?_
    refine hx_cmp .ge 52 (by decide +kernel) (fun c2 => ?_) (fun c2 => ?_)
    · have c2 : (m 16 (x1).toNat) ≤ x3 := c2
      refine hx_blk (npc := 53) (L' := [(0, .inr (.inl 5)), (1, .inl x1), (2, .inl x2), (3, .inl x3)]) (st' := [.inl x2]) (m' := m) [((52, .iload_n 2, 1, 0, 0, 0, 0), (0, 0, 0))] (by decide +kernel) rfl ?_
      exact hx_reti (by decide +kernel) (h2 c1 c2)
    · have c2 : x3 < (m 16 (x1).toNat) := by have h : ¬ ((m 16 (x1).toNat) ≤ x3) := c2; omega
      refine hx_blk (npc := 14) (L' := [(0, .inr (.inl 5)), (1, .inl x1), (2, .inl (gx_or x2 (gx_shl 1 (m 17 (gx_w ((gx_w (x1 * 16)) + x3)).toNat)))), (3, .inl (gx_w (x3 + 1)))]) (st' := []) (m' := m) [((30, .iload_n 2, 1, 0, 0, 0, 0), (0, 0, 0)), ((31, .iconst 1, 1, 0, 0, 0, 0), (0, 0, 0)), ((32, .aload_n 0, 1, 0, 0, 0, 0), (0, 0, 0)), ((33, .getfield 49, 3, 2, 16, 1136, 0), (1, 5, 17)), ((36, .iload_n 1, 1, 0, 0, 0, 0), (0, 0, 0)), ((37, .bipush 16, 2, 0, 0, 0, 0), (0, 0, 0)), ((39, .imul, 1, 0, 0, 0, 0), (0, 0, 0)), ((40, .iload_n 3, 1, 0, 0, 0, 0), (0, 0, 0)), ((41, .iadd, 1, 0, 0, 0, 0), (0, 0, 0)), ((42, .iaload, 1, 0, 0, 0, 0), (0, 17, 0)), ((43, .ishl, 1, 0, 0, 0, 0), (0, 0, 0)), ((44, .ior, 1, 0, 0, 0, 0), (0, 0, 0)), ((45, .istore_n 2, 1, 0, 0, 0, 0), (0, 0, 0)), ((46, .iinc 3 1, 3, 0, 0, 0, 0), (0, 0, 0)), ((49, .goto (-35), 3, 0, 0, 0, 0), (0, 0, 0))] (by decide +kernel) rfl ?_
      exact hx_pick [0, 1, 2, 3] (h3 c1 c2)

/-- had from 0 on -/
theorem hr76_0 {xs : List Int32} {n : Nat} {Q : hQ} {m : gx_M} {x1 : Int}
    (h1 : hxn xs n yp_m76 5 [(0, .inr (.inl 5)), (1, .inl x1), (2, .inr (.inr 0)), (4, .inl 0)] [] m Q) : hxn xs (n + 1) yp_m76 0 [(0, .inr (.inl 5)), (1, .inl x1)] [] m Q := by
  refine hx_blks (npc := 5) (L' := [(0, .inr (.inl 5)), (1, .inl x1), (2, .inr (.inr 0)), (4, .inl 0)]) (st' := []) (m' := m) ((0, .lconst 0, 1, 0, 0, 0, 0), (0, 0, 0)) [((1, .lstore_n 2, 1, 0, 0, 0, 0), (0, 0, 0)), ((2, .iconst 0, 1, 0, 0, 0, 0), (0, 0, 0)), ((3, .istore 4, 2, 0, 0, 0, 0), (0, 0, 0))] (by decide +kernel) rfl ?_
  exact hx_pick [0, 1, 2, 4] h1

/-- had from 5 on -/
theorem hr76_5 {xs : List Int32} {n : Nat} {Q : hQ} {m : gx_M} {x1 x2 x4 : Int}
    (h1 : (40 ≤ x4) → Q (some (.inr (.inr x2))) m)
    (h2 : (x4 < 40) → hxn xs n yp_m77 0 [(0, .inr (.inl 5)), (1, .inl x4)] [] m (fun r m' => hxn xs n yp_m76 18 [(0, .inr (.inl 5)), (1, .inl x1), (2, .inr (.inr x2)), (4, .inl x4)] (hrs r ++ []) m' Q)) : hxn xs (n + 1) yp_m76 5 [(0, .inr (.inl 5)), (1, .inl x1), (2, .inr (.inr x2)), (4, .inl x4)] [] m Q := by
  refine hx_blks (npc := 9) (L' := [(0, .inr (.inl 5)), (1, .inl x1), (2, .inr (.inr x2)), (4, .inl x4)]) (st' := [.inl 40, .inl x4]) (m' := m) ((5, .iload 4, 2, 0, 0, 0, 0), (0, 0, 0)) [((7, .bipush 40, 2, 0, 0, 0, 0), (0, 0, 0))] (by decide +kernel) rfl ?_
  refine hx_cmp .ge 38 (by decide +kernel) (fun c1 => ?_) (fun c1 => ?_)
  · have c1 : 40 ≤ x4 := c1
    refine hx_blk (npc := 39) (L' := [(0, .inr (.inl 5)), (1, .inl x1), (2, .inr (.inr x2)), (4, .inl x4)]) (st' := [.inr (.inr x2)]) (m' := m) [((38, .lload_n 2, 1, 0, 0, 0, 0), (0, 0, 0))] (by decide +kernel) rfl ?_
    exact hx_retl (by decide +kernel) (h1 c1)
  · have c1 : x4 < 40 := by have h : ¬ (40 ≤ x4) := c1; omega
    refine hx_blk (npc := 15) (L' := [(0, .inr (.inl 5)), (1, .inl x1), (2, .inr (.inr x2)), (4, .inl x4)]) (st' := [.inl x4, .inr (.inl 5)]) (m' := m) [((12, .aload_n 0, 1, 0, 0, 0, 0), (0, 0, 0)), ((13, .iload 4, 2, 0, 0, 0, 0), (0, 0, 0))] (by decide +kernel) rfl ?_
    exact hx_call (E := (15, .invokevirtual 109, 3, 77, 0, 3222, 0)) (M' := yp_m77) [.inr (.inl 5), .inl x4] [] rfl (by decide +kernel) rfl ⟨rfl, rfl⟩ rfl rfl (hx_mono (h2 c1) (fun r m' h' => hx_pick [0, 1, 2, 4] h'))

/-- had from 18 on -/
theorem hr76_18 {xs : List Int32} {n : Nat} {Q : hQ} {m : gx_M} {x1 x2 x4 s0 : Int}
    (h1 : ((gx_and (gx_shr s0 x1) 1) = 0) → hxn xs n yp_m76 5 [(0, .inr (.inl 5)), (1, .inl x1), (2, .inr (.inr x2)), (4, .inl (gx_w (x4 + 1)))] [] m Q)
    (h2 : ((gx_and (gx_shr s0 x1) 1) ≠ 0) → hxn xs n yp_m76 5 [(0, .inr (.inl 5)), (1, .inl x1), (2, .inr (.inr (hlor x2 (hlshl 1 x4)))), (4, .inl (gx_w (x4 + 1)))] [] m Q) : hxn xs (n + 1) yp_m76 18 [(0, .inr (.inl 5)), (1, .inl x1), (2, .inr (.inr x2)), (4, .inl x4)] [.inl s0] m Q := by
  have f1 := gx_and_bd (gx_shr s0 x1) 1 (by decide)
  refine hx_blks (npc := 22) (L' := [(0, .inr (.inl 5)), (1, .inl x1), (2, .inr (.inr x2)), (4, .inl x4)]) (st' := [.inl (gx_and (gx_shr s0 x1) 1)]) (m' := m) ((18, .iload_n 1, 1, 0, 0, 0, 0), (0, 0, 0)) [((19, .ishr, 1, 0, 0, 0, 0), (0, 0, 0)), ((20, .iconst 1, 1, 0, 0, 0, 0), (0, 0, 0)), ((21, .iand, 1, 0, 0, 0, 0), (0, 0, 0))] (by decide +kernel) rfl ?_
  refine hx_if .eq 32 (by decide +kernel) (fun c1 => ?_) (fun c1 => ?_)
  · have c1 : (gx_and (gx_shr s0 x1) 1) = 0 := c1
    refine hx_blk (npc := 5) (L' := [(0, .inr (.inl 5)), (1, .inl x1), (2, .inr (.inr x2)), (4, .inl (gx_w (x4 + 1)))]) (st' := []) (m' := m) [((32, .iinc 4 1, 3, 0, 0, 0, 0), (0, 0, 0)), ((35, .goto (-30), 3, 0, 0, 0, 0), (0, 0, 0))] (by decide +kernel) rfl ?_
    exact hx_pick [0, 1, 2, 4] (h1 c1)
  · have c1 : (gx_and (gx_shr s0 x1) 1) ≠ 0 := c1
    refine hx_blk (npc := 5) (L' := [(0, .inr (.inl 5)), (1, .inl x1), (2, .inr (.inr (hlor x2 (hlshl 1 x4)))), (4, .inl (gx_w (x4 + 1)))]) (st' := []) (m' := m) [((25, .lload_n 2, 1, 0, 0, 0, 0), (0, 0, 0)), ((26, .lconst 1, 1, 0, 0, 0, 0), (0, 0, 0)), ((27, .iload 4, 2, 0, 0, 0, 0), (0, 0, 0)), ((29, .lshl, 1, 0, 0, 0, 0), (0, 0, 0)), ((30, .lor, 1, 0, 0, 0, 0), (0, 0, 0)), ((31, .lstore_n 2, 1, 0, 0, 0, 0), (0, 0, 0)), ((32, .iinc 4 1, 3, 0, 0, 0, 0), (0, 0, 0)), ((35, .goto (-30), 3, 0, 0, 0, 0), (0, 0, 0))] (by decide +kernel) rfl ?_
    exact hx_pick [0, 1, 2, 4] (h2 c1)

/-- held from 0 on -/
theorem hr78_0 {xs : List Int32} {n : Nat} {Q : hQ} {m : gx_M} {x1 : Int}
    (h1 : hxn xs n yp_m78 5 [(0, .inr (.inl 5)), (1, .inl x1), (2, .inr (.inr 0)), (4, .inl 0)] [] m Q) : hxn xs (n + 1) yp_m78 0 [(0, .inr (.inl 5)), (1, .inl x1)] [] m Q := by
  refine hx_blks (npc := 5) (L' := [(0, .inr (.inl 5)), (1, .inl x1), (2, .inr (.inr 0)), (4, .inl 0)]) (st' := []) (m' := m) ((0, .lconst 0, 1, 0, 0, 0, 0), (0, 0, 0)) [((1, .lstore_n 2, 1, 0, 0, 0, 0), (0, 0, 0)), ((2, .iconst 0, 1, 0, 0, 0, 0), (0, 0, 0)), ((3, .istore 4, 2, 0, 0, 0, 0), (0, 0, 0))] (by decide +kernel) rfl ?_
  exact hx_pick [0, 1, 2, 4] h1

/-- held from 5 on -/
theorem hr78_5 {xs : List Int32} {n : Nat} {Q : hQ} {m : gx_M} {x1 x2 x4 : Int}
    (h1 : (40 ≤ x4) → Q (some (.inr (.inr x2))) m)
    (h2 : (x4 < 40) → (cPwd 5 13 m x4) → ((m 13 (x4).toNat) ≠ x1) → hxn xs n yp_m78 5 [(0, .inr (.inl 5)), (1, .inl x1), (2, .inr (.inr x2)), (4, .inl (gx_w (x4 + 1)))] [] m Q)
    (h3 : (x4 < 40) → (cPwd 5 13 m x4) → ((m 13 (x4).toNat) = x1) → hxn xs n yp_m78 5 [(0, .inr (.inl 5)), (1, .inl x1), (2, .inr (.inr (hlor x2 (hlshl 1 x4)))), (4, .inl (gx_w (x4 + 1)))] [] m Q)
    (h4 : (x4 < 40) → (¬ (cPwd 5 13 m x4)) → hxn xs n yp_m78 5 [(0, .inr (.inl 5)), (1, .inl x1), (2, .inr (.inr x2)), (4, .inl (gx_w (x4 + 1)))] [] m Q) : hxn xs (n + 1) yp_m78 5 [(0, .inr (.inl 5)), (1, .inl x1), (2, .inr (.inr x2)), (4, .inl x4)] [] m Q := by
  refine hx_blks (npc := 9) (L' := [(0, .inr (.inl 5)), (1, .inl x1), (2, .inr (.inr x2)), (4, .inl x4)]) (st' := [.inl 40, .inl x4]) (m' := m) ((5, .iload 4, 2, 0, 0, 0, 0), (0, 0, 0)) [((7, .bipush 40, 2, 0, 0, 0, 0), (0, 0, 0))] (by decide +kernel) rfl ?_
  refine hx_cmp .ge 45 (by decide +kernel) (fun c1 => ?_) (fun c1 => ?_)
  · have c1 : 40 ≤ x4 := c1
    refine hx_blk (npc := 46) (L' := [(0, .inr (.inl 5)), (1, .inl x1), (2, .inr (.inr x2)), (4, .inl x4)]) (st' := [.inr (.inr x2)]) (m' := m) [((45, .lload_n 2, 1, 0, 0, 0, 0), (0, 0, 0))] (by decide +kernel) rfl ?_
    exact hx_retl (by decide +kernel) (h1 c1)
  · have c1 : x4 < 40 := by have h : ¬ (40 ≤ x4) := c1; omega
    refine hx_blk (npc := 15) (L' := [(0, .inr (.inl 5)), (1, .inl x1), (2, .inr (.inr x2)), (4, .inl x4)]) (st' := [.inl x4, .inr (.inl 5)]) (m' := m) [((12, .aload_n 0, 1, 0, 0, 0, 0), (0, 0, 0)), ((13, .iload 4, 2, 0, 0, 0, 0), (0, 0, 0))] (by decide +kernel) rfl ?_
    refine hx_call (E := (15, .invokevirtual 106, 3, 79, 0, 3230, 0)) (M' := yp_m79) [.inr (.inl 5), .inl x4] [] rfl (by decide +kernel) rfl ⟨rfl, rfl⟩ rfl rfl (hs79_5 (fun c2 => ?_) (fun c2 => ?_))
    · have c2 : cPwd 5 13 m x4 := c2
      show hxn xs n yp_m78 18 [(0, .inr (.inl 5)), (1, .inl x1), (2, .inr (.inr x2)), (4, .inl x4)] [.inl 1] m Q
      refine hx_if .eq 39 (by decide +kernel) (fun c3 => ?_) (fun c3 => ?_)
      · have c3 : (1 : Int) = 0 := c3
        exfalso; omega
      · have c3 : (1 : Int) ≠ 0 := c3
        refine hx_blk (npc := 29) (L' := [(0, .inr (.inl 5)), (1, .inl x1), (2, .inr (.inr x2)), (4, .inl x4)]) (st' := [.inl x1, .inl (m 13 (x4).toNat)]) (m' := m) [((21, .aload_n 0, 1, 0, 0, 0, 0), (0, 0, 0)), ((22, .getfield 37, 3, 2, 12, 1119, 0), (1, 5, 13)), ((25, .iload 4, 2, 0, 0, 0, 0), (0, 0, 0)), ((27, .iaload, 1, 0, 0, 0, 0), (0, 13, 0)), ((28, .iload_n 1, 1, 0, 0, 0, 0), (0, 0, 0))] (by decide +kernel) rfl ?_
        refine hx_cmp .ne 39 (by decide +kernel) (fun c3 => ?_) (fun c3 => ?_)
        · have c3 : (m 13 (x4).toNat) ≠ x1 := c3
          refine hx_blk (npc := 5) (L' := [(0, .inr (.inl 5)), (1, .inl x1), (2, .inr (.inr x2)), (4, .inl (gx_w (x4 + 1)))]) (st' := []) (m' := m) [((39, .iinc 4 1, 3, 0, 0, 0, 0), (0, 0, 0)), ((42, .goto (-37), 3, 0, 0, 0, 0), (0, 0, 0))] (by decide +kernel) rfl ?_
          exact hx_pick [0, 1, 2, 4] (h2 c1 c2 c3)
        · have c3 : (m 13 (x4).toNat) = x1 := by have h : ¬ ((m 13 (x4).toNat) ≠ x1) := c3; omega
          refine hx_blk (npc := 5) (L' := [(0, .inr (.inl 5)), (1, .inl x1), (2, .inr (.inr (hlor x2 (hlshl 1 x4)))), (4, .inl (gx_w (x4 + 1)))]) (st' := []) (m' := m) [((32, .lload_n 2, 1, 0, 0, 0, 0), (0, 0, 0)), ((33, .lconst 1, 1, 0, 0, 0, 0), (0, 0, 0)), ((34, .iload 4, 2, 0, 0, 0, 0), (0, 0, 0)), ((36, .lshl, 1, 0, 0, 0, 0), (0, 0, 0)), ((37, .lor, 1, 0, 0, 0, 0), (0, 0, 0)), ((38, .lstore_n 2, 1, 0, 0, 0, 0), (0, 0, 0)), ((39, .iinc 4 1, 3, 0, 0, 0, 0), (0, 0, 0)), ((42, .goto (-37), 3, 0, 0, 0, 0), (0, 0, 0))] (by decide +kernel) rfl ?_
          exact hx_pick [0, 1, 2, 4] (h3 c1 c2 c3)
    · have c2 : ¬ (cPwd 5 13 m x4) := c2
      show hxn xs n yp_m78 18 [(0, .inr (.inl 5)), (1, .inl x1), (2, .inr (.inr x2)), (4, .inl x4)] [.inl 0] m Q
      refine hx_if .eq 39 (by decide +kernel) (fun c3 => ?_) (fun c3 => ?_)
      · have c3 : (0 : Int) = 0 := c3
        refine hx_blk (npc := 5) (L' := [(0, .inr (.inl 5)), (1, .inl x1), (2, .inr (.inr x2)), (4, .inl (gx_w (x4 + 1)))]) (st' := []) (m' := m) [((39, .iinc 4 1, 3, 0, 0, 0, 0), (0, 0, 0)), ((42, .goto (-37), 3, 0, 0, 0, 0), (0, 0, 0))] (by decide +kernel) rfl ?_
        exact hx_pick [0, 1, 2, 4] (h4 c1 c2)
      · have c3 : (0 : Int) ≠ 0 := c3
        exfalso; omega

/-- personIs from 0 on -/
theorem hr75_0 {xs : List Int32} {n : Nat} {Q : hQ} {m : gx_M} {x1 x2 : Int}
    (h1 : (cPers 5 m x1) → (x2 = 0) → Q (some (.inl (m 6 (x1).toNat))) m)
    (h2 : (cPers 5 m x1) → (x2 ≠ 0) → (x2 = 1) → hxn xs n yp_m60 0 [(0, .inr (.inl 5)), (1, .inl x1)] [] m (fun r m' => hxn xs n yp_m75 66 [] (hrs r ++ []) m' Q))
    (h3 : (cPers 5 m x1) → (x2 ≠ 0) → (x2 ≠ 1) → (x2 = 2) → hxn xs n yp_m60 0 [(0, .inr (.inl 5)), (1, .inl x1)] [] m (fun r m' => hxn xs n yp_m75 82 [] (hrs r ++ [.inr (.inl 5)]) m' Q))
    (h4 : (cPers 5 m x1) → (x2 ≠ 0) → (x2 ≠ 1) → (x2 ≠ 2) → (x2 = 3) → hxn xs n yp_m76 0 [(0, .inr (.inl 5)), (1, .inl x1)] [] m (fun r m' => hxn xs n yp_m75 94 [] (hrs r ++ []) m' Q))
    (h5 : (cPers 5 m x1) → (x2 ≠ 0) → (x2 ≠ 1) → (x2 ≠ 2) → (x2 ≠ 3) → (x2 = 4) → hxn xs n yp_m78 0 [(0, .inr (.inl 5)), (1, .inl x1)] [] m (fun r m' => hxn xs n yp_m75 106 [] (hrs r ++ []) m' Q))
    (h6 : (cPers 5 m x1) → (x2 ≠ 0) → (x2 ≠ 1) → (x2 ≠ 2) → (x2 ≠ 3) → (x2 ≠ 4) → Q (some (.inl (-1))) m)
    (h7 : (¬ (cPers 5 m x1)) → Q (some (.inl (-1))) m) : hxn xs (n + 1) yp_m75 0 [(0, .inr (.inl 0)), (1, .inl x1), (2, .inl x2)] [] m Q := by
  refine hx_blks (npc := 5) (L' := [(0, .inr (.inl 0)), (1, .inl x1), (2, .inl x2)]) (st' := [.inl x1, .inr (.inl 5)]) (m' := m) ((0, .aload_n 0, 1, 0, 0, 0, 0), (0, 0, 0)) [((1, .getfield 26, 3, 9, 2, 2121, 0), (1, 0, 5)), ((4, .iload_n 1, 1, 0, 0, 0, 0), (0, 0, 0))] (by decide +kernel) rfl ?_
  refine hx_call (E := (5, .invokevirtual 94, 3, 13, 0, 2171, 0)) (M' := yp_m13) [.inr (.inl 5), .inl x1] [] rfl (by decide +kernel) rfl ⟨rfl, rfl⟩ rfl rfl (hs13_5 (fun c1 => ?_) (fun c1 => ?_))
  · have c1 : cPers 5 m x1 := c1
    show hxn xs n yp_m75 8 [(0, .inr (.inl 0)), (1, .inl x1), (2, .inl x2)] [.inl 1] m Q
    refine hx_if .ne 13 (by decide +kernel) (fun c2 => ?_) (fun c2 => ?_)
    · have c2 : (1 : Int) ≠ 0 := c2
      refine hx_blk (npc := 14) (L' := [(0, .inr (.inl 0)), (1, .inl x1), (2, .inl x2)]) (st' := [.inl x2]) (m' := m) [((13, .iload_n 2, 1, 0, 0, 0, 0), (0, 0, 0))] (by decide +kernel) rfl ?_
      refine hx_tsw 110 [(0, 48), (1, 58), (2, 70), (3, 86), (4, 98)] (by decide +kernel) ?_
      refine hsw_c (fun c2 => ?_) (fun c2 => ?_)
      · have c2 : x2 = 0 := c2
        refine hx_blk (npc := 57) (L' := [(0, .inr (.inl 0)), (1, .inl x1), (2, .inl x2)]) (st' := [.inl (m 6 (x1).toNat)]) (m' := m) [((48, .aload_n 0, 1, 0, 0, 0, 0), (0, 0, 0)), ((49, .getfield 26, 3, 9, 2, 2121, 0), (1, 0, 5)), ((52, .getfield 90, 3, 2, 5, 1090, 0), (1, 5, 6)), ((55, .iload_n 1, 1, 0, 0, 0, 0), (0, 0, 0)), ((56, .iaload, 1, 0, 0, 0, 0), (0, 6, 0))] (by decide +kernel) rfl ?_
        exact hx_reti (by decide +kernel) (h1 c1 c2)
      refine hsw_c (fun c3 => ?_) (fun c3 => ?_)
      · have c3 : x2 = 1 := c3
        refine hx_blk (npc := 63) (L' := [(0, .inr (.inl 0)), (1, .inl x1), (2, .inl x2)]) (st' := [.inl x1, .inr (.inl 5)]) (m' := m) [((58, .aload_n 0, 1, 0, 0, 0, 0), (0, 0, 0)), ((59, .getfield 26, 3, 9, 2, 2121, 0), (1, 0, 5)), ((62, .iload_n 1, 1, 0, 0, 0, 0), (0, 0, 0))] (by decide +kernel) rfl ?_
        exact hx_call (E := (63, .invokevirtual 181, 3, 60, 0, 3215, 0)) (M' := yp_m60) [.inr (.inl 5), .inl x1] [] rfl (by decide +kernel) rfl ⟨rfl, rfl⟩ rfl rfl (hx_mono (h2 c1 c2 c3) (fun r m' h' => hx_pick [] h'))
      refine hsw_c (fun c4 => ?_) (fun c4 => ?_)
      · have c4 : x2 = 2 := c4
        refine hx_blk (npc := 79) (L' := [(0, .inr (.inl 0)), (1, .inl x1), (2, .inl x2)]) (st' := [.inl x1, .inr (.inl 5), .inr (.inl 5)]) (m' := m) [((70, .aload_n 0, 1, 0, 0, 0, 0), (0, 0, 0)), ((71, .getfield 26, 3, 9, 2, 2121, 0), (1, 0, 5)), ((74, .aload_n 0, 1, 0, 0, 0, 0), (0, 0, 0)), ((75, .getfield 26, 3, 9, 2, 2121, 0), (1, 0, 5)), ((78, .iload_n 1, 1, 0, 0, 0, 0), (0, 0, 0))] (by decide +kernel) rfl ?_
        exact hx_call (E := (79, .invokevirtual 181, 3, 60, 0, 3215, 0)) (M' := yp_m60) [.inr (.inl 5), .inl x1] [.inr (.inl 5)] rfl (by decide +kernel) rfl ⟨rfl, rfl⟩ rfl rfl (hx_mono (h3 c1 c2 c3 c4) (fun r m' h' => hx_pick [] h'))
      refine hsw_c (fun c5 => ?_) (fun c5 => ?_)
      · have c5 : x2 = 3 := c5
        refine hx_blk (npc := 91) (L' := [(0, .inr (.inl 0)), (1, .inl x1), (2, .inl x2)]) (st' := [.inl x1, .inr (.inl 5)]) (m' := m) [((86, .aload_n 0, 1, 0, 0, 0, 0), (0, 0, 0)), ((87, .getfield 26, 3, 9, 2, 2121, 0), (1, 0, 5)), ((90, .iload_n 1, 1, 0, 0, 0, 0), (0, 0, 0))] (by decide +kernel) rfl ?_
        exact hx_call (E := (91, .invokevirtual 194, 3, 76, 0, 3218, 0)) (M' := yp_m76) [.inr (.inl 5), .inl x1] [] rfl (by decide +kernel) rfl ⟨rfl, rfl⟩ rfl rfl (hx_mono (h4 c1 c2 c3 c4 c5) (fun r m' h' => hx_pick [] h'))
      refine hsw_c (fun c6 => ?_) (fun c6 => ?_)
      · have c6 : x2 = 4 := c6
        refine hx_blk (npc := 103) (L' := [(0, .inr (.inl 0)), (1, .inl x1), (2, .inl x2)]) (st' := [.inl x1, .inr (.inl 5)]) (m' := m) [((98, .aload_n 0, 1, 0, 0, 0, 0), (0, 0, 0)), ((99, .getfield 26, 3, 9, 2, 2121, 0), (1, 0, 5)), ((102, .iload_n 1, 1, 0, 0, 0, 0), (0, 0, 0))] (by decide +kernel) rfl ?_
        exact hx_call (E := (103, .invokevirtual 197, 3, 78, 0, 3226, 0)) (M' := yp_m78) [.inr (.inl 5), .inl x1] [] rfl (by decide +kernel) rfl ⟨rfl, rfl⟩ rfl rfl (hx_mono (h5 c1 c2 c3 c4 c5 c6) (fun r m' h' => hx_pick [] h'))
      refine hsw_n ?_
      refine hx_blk (npc := 111) (L' := [(0, .inr (.inl 0)), (1, .inl x1), (2, .inl x2)]) (st' := [.inl (-1)]) (m' := m) [((110, .iconst (-1), 1, 0, 0, 0, 0), (0, 0, 0))] (by decide +kernel) rfl ?_
      exact hx_reti (by decide +kernel) (h6 c1 c2 c3 c4 c5 c6)
    · have c2 : (1 : Int) = 0 := by have h : ¬ ((1 : Int) ≠ 0) := c2; omega
      exfalso; omega
  · have c1 : ¬ (cPers 5 m x1) := c1
    show hxn xs n yp_m75 8 [(0, .inr (.inl 0)), (1, .inl x1), (2, .inl x2)] [.inl 0] m Q
    refine hx_if .ne 13 (by decide +kernel) (fun c2 => ?_) (fun c2 => ?_)
    · have c2 : (0 : Int) ≠ 0 := c2
      exfalso; omega
    · have c2 : (0 : Int) = 0 := by have h : ¬ ((0 : Int) ≠ 0) := c2; omega
      refine hx_blk (npc := 12) (L' := [(0, .inr (.inl 0)), (1, .inl x1), (2, .inl x2)]) (st' := [.inl (-1)]) (m' := m) [((11, .iconst (-1), 1, 0, 0, 0, 0), (0, 0, 0))] (by decide +kernel) rfl ?_
      exact hx_reti (by decide +kernel) (h7 c1)

/-- personIs from 66 on -/
theorem hr75_66 {xs : List Int32} {n : Nat} {Q : hQ} {m : gx_M} {s0 : Int}
    (h1 : hxn xs n yp_m61 0 [(0, .inr (.inr s0))] [] m (fun r m' => hxn xs n yp_m75 69 [] (hrs r ++ []) m' Q)) : hxn xs (n + 1) yp_m75 66 [] [.inr (.inr s0)] m Q := by
  exact hx_calls (E := (66, .invokestatic 185, 3, 61, 0, 3216, 0)) (M' := yp_m61) [.inr (.inr s0)] [] rfl (by decide +kernel) rfl ⟨rfl, rfl⟩ rfl rfl (hx_mono h1 (fun r m' h' => hx_pick [] h'))

/-- personIs from 69 on -/
theorem hr75_69 {xs : List Int32} {n : Nat} {Q : hQ} {m : gx_M} {s0 : Int}
    (h1 : Q (some (.inl s0)) m) : hxn xs (n + 1) yp_m75 69 [] [.inl s0] m Q := by
  exact hx_reti (by decide +kernel) h1

/-- personIs from 82 on -/
theorem hr75_82 {xs : List Int32} {n : Nat} {Q : hQ} {m : gx_M} {s1 : Int}
    (h1 : hxn xs n yp_m64 0 [(0, .inr (.inl 5)), (1, .inr (.inr s1))] [] m (fun r m' => hxn xs n yp_m75 85 [] (hrs r ++ []) m' Q)) : hxn xs (n + 1) yp_m75 82 [] [.inr (.inr s1), .inr (.inl 5)] m Q := by
  exact hx_calls (E := (82, .invokevirtual 191, 3, 64, 0, 3217, 0)) (M' := yp_m64) [.inr (.inl 5), .inr (.inr s1)] [] rfl (by decide +kernel) rfl ⟨rfl, rfl⟩ rfl rfl (hx_mono h1 (fun r m' h' => hx_pick [] h'))

/-- personIs from 85 on -/
theorem hr75_85 {xs : List Int32} {n : Nat} {Q : hQ} {m : gx_M} {s0 : Int}
    (h1 : Q (some (.inl s0)) m) : hxn xs (n + 1) yp_m75 85 [] [.inl s0] m Q := by
  exact hx_reti (by decide +kernel) h1

/-- personIs from 94 on -/
theorem hr75_94 {xs : List Int32} {n : Nat} {Q : hQ} {m : gx_M} {s0 : Int}
    (h1 : hxn xs n yp_m61 0 [(0, .inr (.inr s0))] [] m (fun r m' => hxn xs n yp_m75 97 [] (hrs r ++ []) m' Q)) : hxn xs (n + 1) yp_m75 94 [] [.inr (.inr s0)] m Q := by
  exact hx_calls (E := (94, .invokestatic 185, 3, 61, 0, 3216, 0)) (M' := yp_m61) [.inr (.inr s0)] [] rfl (by decide +kernel) rfl ⟨rfl, rfl⟩ rfl rfl (hx_mono h1 (fun r m' h' => hx_pick [] h'))

/-- personIs from 97 on -/
theorem hr75_97 {xs : List Int32} {n : Nat} {Q : hQ} {m : gx_M} {s0 : Int}
    (h1 : Q (some (.inl s0)) m) : hxn xs (n + 1) yp_m75 97 [] [.inl s0] m Q := by
  exact hx_reti (by decide +kernel) h1

/-- personIs from 106 on -/
theorem hr75_106 {xs : List Int32} {n : Nat} {Q : hQ} {m : gx_M} {s0 : Int}
    (h1 : hxn xs n yp_m61 0 [(0, .inr (.inr s0))] [] m (fun r m' => hxn xs n yp_m75 109 [] (hrs r ++ []) m' Q)) : hxn xs (n + 1) yp_m75 106 [] [.inr (.inr s0)] m Q := by
  exact hx_calls (E := (106, .invokestatic 185, 3, 61, 0, 3216, 0)) (M' := yp_m61) [.inr (.inr s0)] [] rfl (by decide +kernel) rfl ⟨rfl, rfl⟩ rfl rfl (hx_mono h1 (fun r m' h' => hx_pick [] h'))

/-- personIs from 109 on -/
theorem hr75_109 {xs : List Int32} {n : Nat} {Q : hQ} {m : gx_M} {s0 : Int}
    (h1 : Q (some (.inl s0)) m) : hxn xs (n + 1) yp_m75 109 [] [.inl s0] m Q := by
  exact hx_reti (by decide +kernel) h1

/-- years from 0 on -/
theorem hr80_0 {xs : List Int32} {n : Nat} {Q : hQ} {m : gx_M} {x1 x2 : Int}
    (h1 : (cPers 5 m x1) → (x2 < 0) → Q (some (.inl (-1))) m)
    (h2 : (cPers 5 m x1) → (0 ≤ x2) → (x2 ≤ 3) → (2 ≤ x2) → hxn xs n yp_m76 0 [(0, .inr (.inl 5)), (1, .inl x1)] [] m (fun r m' => hxn xs n yp_m80 46 [(2, .inl x2)] (hrs r ++ []) m' Q))
    (h3 : (cPers 5 m x1) → (0 ≤ x2) → (x2 ≤ 3) → (x2 < 2) → hxn xs n yp_m60 0 [(0, .inr (.inl 5)), (1, .inl x1)] [] m (fun r m' => hxn xs n yp_m80 35 [(2, .inl x2)] (hrs r ++ []) m' Q))
    (h4 : (cPers 5 m x1) → (0 ≤ x2) → (3 < x2) → Q (some (.inl (-1))) m)
    (h5 : (¬ (cPers 5 m x1)) → Q (some (.inl (-1))) m) : hxn xs (n + 1) yp_m80 0 [(0, .inr (.inl 0)), (1, .inl x1), (2, .inl x2)] [] m Q := by
  refine hx_blks (npc := 5) (L' := [(0, .inr (.inl 0)), (1, .inl x1), (2, .inl x2)]) (st' := [.inl x1, .inr (.inl 5)]) (m' := m) ((0, .aload_n 0, 1, 0, 0, 0, 0), (0, 0, 0)) [((1, .getfield 26, 3, 9, 2, 2121, 0), (1, 0, 5)), ((4, .iload_n 1, 1, 0, 0, 0, 0), (0, 0, 0))] (by decide +kernel) rfl ?_
  refine hx_call (E := (5, .invokevirtual 94, 3, 13, 0, 2171, 0)) (M' := yp_m13) [.inr (.inl 5), .inl x1] [] rfl (by decide +kernel) rfl ⟨rfl, rfl⟩ rfl rfl (hs13_5 (fun c1 => ?_) (fun c1 => ?_))
  · have c1 : cPers 5 m x1 := c1
    show hxn xs n yp_m80 8 [(0, .inr (.inl 0)), (1, .inl x1), (2, .inl x2)] [.inl 1] m Q
    refine hx_if .eq 20 (by decide +kernel) (fun c2 => ?_) (fun c2 => ?_)
    · have c2 : (1 : Int) = 0 := c2
      exfalso; omega
    · have c2 : (1 : Int) ≠ 0 := c2
      refine hx_blk (npc := 12) (L' := [(0, .inr (.inl 0)), (1, .inl x1), (2, .inl x2)]) (st' := [.inl x2]) (m' := m) [((11, .iload_n 2, 1, 0, 0, 0, 0), (0, 0, 0))] (by decide +kernel) rfl ?_
      refine hx_if .lt 20 (by decide +kernel) (fun c2 => ?_) (fun c2 => ?_)
      · have c2 : x2 < 0 := c2
        refine hx_blk (npc := 21) (L' := [(0, .inr (.inl 0)), (1, .inl x1), (2, .inl x2)]) (st' := [.inl (-1)]) (m' := m) [((20, .iconst (-1), 1, 0, 0, 0, 0), (0, 0, 0))] (by decide +kernel) rfl ?_
        exact hx_reti (by decide +kernel) (h1 c1 c2)
      · have c2 : 0 ≤ x2 := by have h : ¬ (x2 < 0) := c2; omega
        refine hx_blk (npc := 17) (L' := [(0, .inr (.inl 0)), (1, .inl x1), (2, .inl x2)]) (st' := [.inl 3, .inl x2]) (m' := m) [((15, .iload_n 2, 1, 0, 0, 0, 0), (0, 0, 0)), ((16, .iconst 3, 1, 0, 0, 0, 0), (0, 0, 0))] (by decide +kernel) rfl ?_
        refine hx_cmp .le 22 (by decide +kernel) (fun c3 => ?_) (fun c3 => ?_)
        · have c3 : x2 ≤ 3 := c3
          refine hx_blk (npc := 24) (L' := [(0, .inr (.inl 0)), (1, .inl x1), (2, .inl x2)]) (st' := [.inl 2, .inl x2]) (m' := m) [((22, .iload_n 2, 1, 0, 0, 0, 0), (0, 0, 0)), ((23, .iconst 2, 1, 0, 0, 0, 0), (0, 0, 0))] (by decide +kernel) rfl ?_
          refine hx_cmp .ge 38 (by decide +kernel) (fun c4 => ?_) (fun c4 => ?_)
          · have c4 : 2 ≤ x2 := c4
            refine hx_blk (npc := 43) (L' := [(0, .inr (.inl 0)), (1, .inl x1), (2, .inl x2)]) (st' := [.inl x1, .inr (.inl 5)]) (m' := m) [((38, .aload_n 0, 1, 0, 0, 0, 0), (0, 0, 0)), ((39, .getfield 26, 3, 9, 2, 2121, 0), (1, 0, 5)), ((42, .iload_n 1, 1, 0, 0, 0, 0), (0, 0, 0))] (by decide +kernel) rfl ?_
            exact hx_call (E := (43, .invokevirtual 194, 3, 76, 0, 3218, 0)) (M' := yp_m76) [.inr (.inl 5), .inl x1] [] rfl (by decide +kernel) rfl ⟨rfl, rfl⟩ rfl rfl (hx_mono (h2 c1 c2 c3 c4) (fun r m' h' => hx_pick [2] h'))
          · have c4 : x2 < 2 := by have h : ¬ (2 ≤ x2) := c4; omega
            refine hx_blk (npc := 32) (L' := [(0, .inr (.inl 0)), (1, .inl x1), (2, .inl x2)]) (st' := [.inl x1, .inr (.inl 5)]) (m' := m) [((27, .aload_n 0, 1, 0, 0, 0, 0), (0, 0, 0)), ((28, .getfield 26, 3, 9, 2, 2121, 0), (1, 0, 5)), ((31, .iload_n 1, 1, 0, 0, 0, 0), (0, 0, 0))] (by decide +kernel) rfl ?_
            exact hx_call (E := (32, .invokevirtual 181, 3, 60, 0, 3215, 0)) (M' := yp_m60) [.inr (.inl 5), .inl x1] [] rfl (by decide +kernel) rfl ⟨rfl, rfl⟩ rfl rfl (hx_mono (h3 c1 c2 c3 c4) (fun r m' h' => hx_pick [2] h'))
        · have c3 : 3 < x2 := by have h : ¬ (x2 ≤ 3) := c3; omega
          refine hx_blk (npc := 21) (L' := [(0, .inr (.inl 0)), (1, .inl x1), (2, .inl x2)]) (st' := [.inl (-1)]) (m' := m) [((20, .iconst (-1), 1, 0, 0, 0, 0), (0, 0, 0))] (by decide +kernel) rfl ?_
          exact hx_reti (by decide +kernel) (h4 c1 c2 c3)
  · have c1 : ¬ (cPers 5 m x1) := c1
    show hxn xs n yp_m80 8 [(0, .inr (.inl 0)), (1, .inl x1), (2, .inl x2)] [.inl 0] m Q
    refine hx_if .eq 20 (by decide +kernel) (fun c2 => ?_) (fun c2 => ?_)
    · have c2 : (0 : Int) = 0 := c2
      refine hx_blk (npc := 21) (L' := [(0, .inr (.inl 0)), (1, .inl x1), (2, .inl x2)]) (st' := [.inl (-1)]) (m' := m) [((20, .iconst (-1), 1, 0, 0, 0, 0), (0, 0, 0))] (by decide +kernel) rfl ?_
      exact hx_reti (by decide +kernel) (h5 c1)
    · have c2 : (0 : Int) ≠ 0 := c2
      exfalso; omega

/-- years from 35 on -/
theorem hr80_35 {xs : List Int32} {n : Nat} {Q : hQ} {m : gx_M} {x2 s0 : Int}
    (h1 : Q (some (.inl (gx_and (gx_w (hlushr s0 (20 * (gx_and x2 1)))) 1048575))) m) : hxn xs (n + 1) yp_m80 35 [(2, .inl x2)] [.inr (.inr s0)] m Q := by
  have f1 := gx_and_bd x2 1 (by decide)
  have e2 : gx_w (20 * (gx_and x2 1)) = 20 * (gx_and x2 1) := gx_w_id (by omega) (by omega)
  have f3 := gx_and_bd (gx_w (hlushr s0 (20 * (gx_and x2 1)))) 1048575 (by decide)
  refine hx_blks (npc := 63) (L' := [(2, .inl x2), (3, .inr (.inr s0)), (5, .inl 1048575)]) (st' := [.inl (gx_and (gx_w (hlushr s0 (gx_w (20 * (gx_and x2 1))))) 1048575)]) (m' := m) ((35, .goto 11, 3, 0, 0, 0, 0), (0, 0, 0)) [((46, .lstore_n 3, 1, 0, 0, 0, 0), (0, 0, 0)), ((47, .ldc 200, 2, 0, 0, 3238, 1048575), (0, 0, 0)), ((49, .istore 5, 2, 0, 0, 0, 0), (0, 0, 0)), ((51, .lload_n 3, 1, 0, 0, 0, 0), (0, 0, 0)), ((52, .bipush 20, 2, 0, 0, 0, 0), (0, 0, 0)), ((54, .iload_n 2, 1, 0, 0, 0, 0), (0, 0, 0)), ((55, .iconst 1, 1, 0, 0, 0, 0), (0, 0, 0)), ((56, .iand, 1, 0, 0, 0, 0), (0, 0, 0)), ((57, .imul, 1, 0, 0, 0, 0), (0, 0, 0)), ((58, .lushr, 1, 0, 0, 0, 0), (0, 0, 0)), ((59, .l2i, 1, 0, 0, 0, 0), (0, 0, 0)), ((60, .iload 5, 2, 0, 0, 0, 0), (0, 0, 0)), ((62, .iand, 1, 0, 0, 0, 0), (0, 0, 0))] (by decide +kernel) rfl ?_
  rw [e2]
  exact hx_reti (by decide +kernel) h1

/-- years from 46 on -/
theorem hr80_46 {xs : List Int32} {n : Nat} {Q : hQ} {m : gx_M} {x2 s0 : Int}
    (h1 : Q (some (.inl (gx_and (gx_w (hlushr s0 (20 * (gx_and x2 1)))) 1048575))) m) : hxn xs (n + 1) yp_m80 46 [(2, .inl x2)] [.inr (.inr s0)] m Q := by
  have f1 := gx_and_bd x2 1 (by decide)
  have e2 : gx_w (20 * (gx_and x2 1)) = 20 * (gx_and x2 1) := gx_w_id (by omega) (by omega)
  have f3 := gx_and_bd (gx_w (hlushr s0 (20 * (gx_and x2 1)))) 1048575 (by decide)
  refine hx_blks (npc := 63) (L' := [(2, .inl x2), (3, .inr (.inr s0)), (5, .inl 1048575)]) (st' := [.inl (gx_and (gx_w (hlushr s0 (gx_w (20 * (gx_and x2 1))))) 1048575)]) (m' := m) ((46, .lstore_n 3, 1, 0, 0, 0, 0), (0, 0, 0)) [((47, .ldc 200, 2, 0, 0, 3238, 1048575), (0, 0, 0)), ((49, .istore 5, 2, 0, 0, 0, 0), (0, 0, 0)), ((51, .lload_n 3, 1, 0, 0, 0, 0), (0, 0, 0)), ((52, .bipush 20, 2, 0, 0, 0, 0), (0, 0, 0)), ((54, .iload_n 2, 1, 0, 0, 0, 0), (0, 0, 0)), ((55, .iconst 1, 1, 0, 0, 0, 0), (0, 0, 0)), ((56, .iand, 1, 0, 0, 0, 0), (0, 0, 0)), ((57, .imul, 1, 0, 0, 0, 0), (0, 0, 0)), ((58, .lushr, 1, 0, 0, 0, 0), (0, 0, 0)), ((59, .l2i, 1, 0, 0, 0, 0), (0, 0, 0)), ((60, .iload 5, 2, 0, 0, 0, 0), (0, 0, 0)), ((62, .iand, 1, 0, 0, 0, 0), (0, 0, 0))] (by decide +kernel) rfl ?_
  rw [e2]
  exact hx_reti (by decide +kernel) h1

/-- hasHad from 0 on -/
theorem hr220_0 {xs : List Int32} {n : Nat} {Q : hQ} {m : gx_M} {x1 x2 : Int}
    (h1 : hxn xs n yp_m220 2 [(0, .inr (.inl 86)), (1, .inl x1), (2, .inl x2), (3, .inl 0)] [] m Q) : hxn xs (n + 1) yp_m220 0 [(0, .inr (.inl 86)), (1, .inl x1), (2, .inl x2)] [] m Q := by
  refine hx_blks (npc := 2) (L' := [(0, .inr (.inl 86)), (1, .inl x1), (2, .inl x2), (3, .inl 0)]) (st' := []) (m' := m) ((0, .iconst 0, 1, 0, 0, 0, 0), (0, 0, 0)) [((1, .istore_n 3, 1, 0, 0, 0, 0), (0, 0, 0))] (by decide +kernel) rfl ?_
  exact hx_pick [0, 1, 2, 3] h1

/-- hasHad from 2 on -/
theorem hr220_2 {xs : List Int32} {n : Nat} {Q : hQ} {m : gx_M} {x1 x2 x3 : Int}
    (h1 : ((m 87 (gx_w (400 + x1)).toNat) ≤ x3) → Q (some (.inl 0)) m)
    (h2 : (x3 < (m 87 (gx_w (400 + x1)).toNat)) → ((m 87 (gx_w (440 + x1)).toNat) ≠ 1) → Q (some (.inl 0)) m)
    (h3 : (x3 < (m 87 (gx_w (400 + x1)).toNat)) → ((m 87 (gx_w (440 + x1)).toNat) = 1) → ((m 87 (gx_w ((gx_w (480 + (gx_w (16 * x1)))) + x3)).toNat) ≠ x2) → hxn xs n yp_m220 2 [(0, .inr (.inl 86)), (1, .inl x1), (2, .inl x2), (3, .inl (gx_w (x3 + 1)))] [] m Q)
    (h4 : (x3 < (m 87 (gx_w (400 + x1)).toNat)) → ((m 87 (gx_w (440 + x1)).toNat) = 1) → ((m 87 (gx_w ((gx_w (480 + (gx_w (16 * x1)))) + x3)).toNat) = x2) → Q (some (.inl 1)) m) : hxn xs (n + 1) yp_m220 2 [(0, .inr (.inl 86)), (1, .inl x1), (2, .inl x2), (3, .inl x3)] [] m Q := by
  refine hx_blks (npc := 13) (L' := [(0, .inr (.inl 86)), (1, .inl x1), (2, .inl x2), (3, .inl x3)]) (st' := [.inl (m 87 (gx_w (400 + x1)).toNat), .inl x3]) (m' := m) ((2, .iload_n 3, 1, 0, 0, 0, 0), (0, 0, 0)) [((3, .aload_n 0, 1, 0, 0, 0, 0), (0, 0, 0)), ((4, .getfield 7, 3, 10, 0, 5113, 0), (1, 86, 87)), ((7, .sipush 400, 3, 0, 0, 0, 0), (0, 0, 0)), ((10, .iload_n 1, 1, 0, 0, 0, 0), (0, 0, 0)), ((11, .iadd, 1, 0, 0, 0, 0), (0, 0, 0)), ((12, .iaload, 1, 0, 0, 0, 0), (0, 87, 0))] (by decide +kernel) rfl ?_
  refine hx_cmp .ge 57 (by decide +kernel) (fun c1 => ?_) (fun c1 => ?_)
  · have c1 : (m 87 (gx_w (400 + x1)).toNat) ≤ x3 := c1
    refine hx_blk (npc := 58) (L' := [(0, .inr (.inl 86)), (1, .inl x1), (2, .inl x2), (3, .inl x3)]) (st' := [.inl 0]) (m' := m) [((57, .iconst 0, 1, 0, 0, 0, 0), (0, 0, 0))] (by decide +kernel) rfl ?_
    exact hx_reti (by decide +kernel) (h1 c1)
  · have c1 : x3 < (m 87 (gx_w (400 + x1)).toNat) := by have h : ¬ ((m 87 (gx_w (400 + x1)).toNat) ≤ x3) := c1; omega
    refine hx_blk (npc := 27) (L' := [(0, .inr (.inl 86)), (1, .inl x1), (2, .inl x2), (3, .inl x3)]) (st' := [.inl 1, .inl (m 87 (gx_w (440 + x1)).toNat)]) (m' := m) [((16, .aload_n 0, 1, 0, 0, 0, 0), (0, 0, 0)), ((17, .getfield 7, 3, 10, 0, 5113, 0), (1, 86, 87)), ((20, .sipush 440, 3, 0, 0, 0, 0), (0, 0, 0)), ((23, .iload_n 1, 1, 0, 0, 0, 0), (0, 0, 0)), ((24, .iadd, 1, 0, 0, 0, 0), (0, 0, 0)), ((25, .iaload, 1, 0, 0, 0, 0), (0, 87, 0)), ((26, .iconst 1, 1, 0, 0, 0, 0), (0, 0, 0))] (by decide +kernel) rfl ?_
    refine hx_cmp .ne 57 (by decide +kernel) (fun c2 => ?_) (fun c2 => ?_)
    · have c2 : (m 87 (gx_w (440 + x1)).toNat) ≠ 1 := c2
      refine hx_blk (npc := 58) (L' := [(0, .inr (.inl 86)), (1, .inl x1), (2, .inl x2), (3, .inl x3)]) (st' := [.inl 0]) (m' := m) [((57, .iconst 0, 1, 0, 0, 0, 0), (0, 0, 0))] (by decide +kernel) rfl ?_
      exact hx_reti (by decide +kernel) (h2 c1 c2)
    · have c2 : (m 87 (gx_w (440 + x1)).toNat) = 1 := by have h : ¬ ((m 87 (gx_w (440 + x1)).toNat) ≠ 1) := c2; omega
      refine hx_blk (npc := 46) (L' := [(0, .inr (.inl 86)), (1, .inl x1), (2, .inl x2), (3, .inl x3)]) (st' := [.inl x2, .inl (m 87 (gx_w ((gx_w (480 + (gx_w (16 * x1)))) + x3)).toNat)]) (m' := m) [((30, .aload_n 0, 1, 0, 0, 0, 0), (0, 0, 0)), ((31, .getfield 7, 3, 10, 0, 5113, 0), (1, 86, 87)), ((34, .sipush 480, 3, 0, 0, 0, 0), (0, 0, 0)), ((37, .bipush 16, 2, 0, 0, 0, 0), (0, 0, 0)), ((39, .iload_n 1, 1, 0, 0, 0, 0), (0, 0, 0)), ((40, .imul, 1, 0, 0, 0, 0), (0, 0, 0)), ((41, .iadd, 1, 0, 0, 0, 0), (0, 0, 0)), ((42, .iload_n 3, 1, 0, 0, 0, 0), (0, 0, 0)), ((43, .iadd, 1, 0, 0, 0, 0), (0, 0, 0)), ((44, .iaload, 1, 0, 0, 0, 0), (0, 87, 0)), ((45, .iload_n 2, 1, 0, 0, 0, 0), (0, 0, 0))] (by decide +kernel) rfl ?_
      refine hx_cmp .ne 51 (by decide +kernel) (fun c3 => ?_) (fun c3 => ?_)
      · have c3 : (m 87 (gx_w ((gx_w (480 + (gx_w (16 * x1)))) + x3)).toNat) ≠ x2 := c3
        refine hx_blk (npc := 2) (L' := [(0, .inr (.inl 86)), (1, .inl x1), (2, .inl x2), (3, .inl (gx_w (x3 + 1)))]) (st' := []) (m' := m) [((51, .iinc 3 1, 3, 0, 0, 0, 0), (0, 0, 0)), ((54, .goto (-52), 3, 0, 0, 0, 0), (0, 0, 0))] (by decide +kernel) rfl ?_
        exact hx_pick [0, 1, 2, 3] (h3 c1 c2 c3)
      · have c3 : (m 87 (gx_w ((gx_w (480 + (gx_w (16 * x1)))) + x3)).toNat) = x2 := by have h : ¬ ((m 87 (gx_w ((gx_w (480 + (gx_w (16 * x1)))) + x3)).toNat) ≠ x2) := c3; omega
        refine hx_blk (npc := 50) (L' := [(0, .inr (.inl 86)), (1, .inl x1), (2, .inl x2), (3, .inl x3)]) (st' := [.inl 1]) (m' := m) [((49, .iconst 1, 1, 0, 0, 0, 0), (0, 0, 0))] (by decide +kernel) rfl ?_
        exact hx_reti (by decide +kernel) (h4 c1 c2 c3)

/-- hadBy from 0 on -/
theorem hr219_0 {xs : List Int32} {n : Nat} {Q : hQ} {m : gx_M} {x1 : Int}
    (h1 : hxn xs n yp_m219 4 [(0, .inr (.inl 86)), (1, .inl x1), (2, .inl 0), (3, .inl 0)] [] m Q) : hxn xs (n + 1) yp_m219 0 [(0, .inr (.inl 86)), (1, .inl x1)] [] m Q := by
  refine hx_blks (npc := 4) (L' := [(0, .inr (.inl 86)), (1, .inl x1), (2, .inl 0), (3, .inl 0)]) (st' := []) (m' := m) ((0, .iconst 0, 1, 0, 0, 0, 0), (0, 0, 0)) [((1, .istore_n 2, 1, 0, 0, 0, 0), (0, 0, 0)), ((2, .iconst 0, 1, 0, 0, 0, 0), (0, 0, 0)), ((3, .istore_n 3, 1, 0, 0, 0, 0), (0, 0, 0))] (by decide +kernel) rfl ?_
  exact hx_pick [0, 1, 2, 3] h1

/-- hadBy from 4 on -/
theorem hr219_4 {xs : List Int32} {n : Nat} {Q : hQ} {m : gx_M} {x1 x2 x3 : Int}
    (h1 : (40 ≤ x3) → Q (some (.inl x2)) m)
    (h2 : (x3 < 40) → hxn xs n yp_m220 0 [(0, .inr (.inl 86)), (1, .inl x3), (2, .inl x1)] [] m (fun r m' => hxn xs n yp_m219 17 [(0, .inr (.inl 86)), (1, .inl x1), (3, .inl x3)] (hrs r ++ [.inl x2]) m' Q)) : hxn xs (n + 1) yp_m219 4 [(0, .inr (.inl 86)), (1, .inl x1), (2, .inl x2), (3, .inl x3)] [] m Q := by
  refine hx_blks (npc := 7) (L' := [(0, .inr (.inl 86)), (1, .inl x1), (2, .inl x2), (3, .inl x3)]) (st' := [.inl 40, .inl x3]) (m' := m) ((4, .iload_n 3, 1, 0, 0, 0, 0), (0, 0, 0)) [((5, .bipush 40, 2, 0, 0, 0, 0), (0, 0, 0))] (by decide +kernel) rfl ?_
  refine hx_cmp .ge 33 (by decide +kernel) (fun c1 => ?_) (fun c1 => ?_)
  · have c1 : 40 ≤ x3 := c1
    refine hx_blk (npc := 34) (L' := [(0, .inr (.inl 86)), (1, .inl x1), (2, .inl x2), (3, .inl x3)]) (st' := [.inl x2]) (m' := m) [((33, .iload_n 2, 1, 0, 0, 0, 0), (0, 0, 0))] (by decide +kernel) rfl ?_
    exact hx_reti (by decide +kernel) (h1 c1)
  · have c1 : x3 < 40 := by have h : ¬ (40 ≤ x3) := c1; omega
    refine hx_blk (npc := 14) (L' := [(0, .inr (.inl 86)), (1, .inl x1), (2, .inl x2), (3, .inl x3)]) (st' := [.inl x1, .inl x3, .inr (.inl 86), .inl x2]) (m' := m) [((10, .iload_n 2, 1, 0, 0, 0, 0), (0, 0, 0)), ((11, .aload_n 0, 1, 0, 0, 0, 0), (0, 0, 0)), ((12, .iload_n 3, 1, 0, 0, 0, 0), (0, 0, 0)), ((13, .iload_n 1, 1, 0, 0, 0, 0), (0, 0, 0))] (by decide +kernel) rfl ?_
    exact hx_call (E := (14, .invokevirtual 303, 3, 220, 0, 7008, 0)) (M' := yp_m220) [.inr (.inl 86), .inl x3, .inl x1] [.inl x2] rfl (by decide +kernel) rfl ⟨rfl, rfl⟩ rfl rfl (hx_mono (h2 c1) (fun r m' h' => hx_pick [0, 1, 3] h'))

/-- hadBy from 17 on -/
theorem hr219_17 {xs : List Int32} {n : Nat} {Q : hQ} {m : gx_M} {x1 x3 s0 s1 : Int}
    (h1 : (s1 = 0) → hxn xs n yp_m219 4 [(0, .inr (.inl 86)), (1, .inl x1), (2, .inl (gx_w (s0 + 0))), (3, .inl (gx_w (x3 + 1)))] [] m Q)
    (h2 : (s1 ≠ 0) → hxn xs n yp_m219 4 [(0, .inr (.inl 86)), (1, .inl x1), (2, .inl (gx_w (s0 + 1))), (3, .inl (gx_w (x3 + 1)))] [] m Q) : hxn xs (n + 1) yp_m219 17 [(0, .inr (.inl 86)), (1, .inl x1), (3, .inl x3)] [.inl s1, .inl s0] m Q := by
  refine hx_ifs .eq 24 (by decide +kernel) (fun c1 => ?_) (fun c1 => ?_)
  · have c1 : s1 = 0 := c1
    refine hx_blk (npc := 4) (L' := [(0, .inr (.inl 86)), (1, .inl x1), (3, .inl (gx_w (x3 + 1))), (2, .inl (gx_w (s0 + 0)))]) (st' := []) (m' := m) [((24, .iconst 0, 1, 0, 0, 0, 0), (0, 0, 0)), ((25, .iadd, 1, 0, 0, 0, 0), (0, 0, 0)), ((26, .istore_n 2, 1, 0, 0, 0, 0), (0, 0, 0)), ((27, .iinc 3 1, 3, 0, 0, 0, 0), (0, 0, 0)), ((30, .goto (-26), 3, 0, 0, 0, 0), (0, 0, 0))] (by decide +kernel) rfl ?_
    exact hx_pick [0, 1, 2, 3] (h1 c1)
  · have c1 : s1 ≠ 0 := c1
    refine hx_blk (npc := 4) (L' := [(0, .inr (.inl 86)), (1, .inl x1), (3, .inl (gx_w (x3 + 1))), (2, .inl (gx_w (s0 + 1)))]) (st' := []) (m' := m) [((20, .iconst 1, 1, 0, 0, 0, 0), (0, 0, 0)), ((21, .goto 4, 3, 0, 0, 0, 0), (0, 0, 0)), ((25, .iadd, 1, 0, 0, 0, 0), (0, 0, 0)), ((26, .istore_n 2, 1, 0, 0, 0, 0), (0, 0, 0)), ((27, .iinc 3 1, 3, 0, 0, 0, 0), (0, 0, 0)), ((30, .goto (-26), 3, 0, 0, 0, 0), (0, 0, 0))] (by decide +kernel) rfl ?_
    exact hx_pick [0, 1, 2, 3] (h2 c1)

/-- heldBy from 0 on -/
theorem hr221_0 {xs : List Int32} {n : Nat} {Q : hQ} {m : gx_M} {x1 : Int}
    (h1 : hxn xs n yp_m221 4 [(0, .inr (.inl 86)), (1, .inl x1), (2, .inl 0), (3, .inl 0)] [] m Q) : hxn xs (n + 1) yp_m221 0 [(0, .inr (.inl 86)), (1, .inl x1)] [] m Q := by
  refine hx_blks (npc := 4) (L' := [(0, .inr (.inl 86)), (1, .inl x1), (2, .inl 0), (3, .inl 0)]) (st' := []) (m' := m) ((0, .iconst 0, 1, 0, 0, 0, 0), (0, 0, 0)) [((1, .istore_n 2, 1, 0, 0, 0, 0), (0, 0, 0)), ((2, .iconst 0, 1, 0, 0, 0, 0), (0, 0, 0)), ((3, .istore_n 3, 1, 0, 0, 0, 0), (0, 0, 0))] (by decide +kernel) rfl ?_
  exact hx_pick [0, 1, 2, 3] h1

/-- heldBy from 4 on -/
theorem hr221_4 {xs : List Int32} {n : Nat} {Q : hQ} {m : gx_M} {x1 x2 x3 : Int}
    (h1 : (40 ≤ x3) → Q (some (.inl x2)) m)
    (h2 : (x3 < 40) → (aYr (m 87) x3) → ((m 87 (gx_w (280 + x3)).toNat) ≠ x1) → hxn xs n yp_m221 4 [(0, .inr (.inl 86)), (1, .inl x1), (2, .inl (gx_w (x2 + 0))), (3, .inl (gx_w (x3 + 1)))] [] m Q)
    (h3 : (x3 < 40) → (aYr (m 87) x3) → ((m 87 (gx_w (280 + x3)).toNat) = x1) → hxn xs n yp_m221 4 [(0, .inr (.inl 86)), (1, .inl x1), (2, .inl (gx_w (x2 + 1))), (3, .inl (gx_w (x3 + 1)))] [] m Q)
    (h4 : (x3 < 40) → (¬ (aYr (m 87) x3)) → hxn xs n yp_m221 4 [(0, .inr (.inl 86)), (1, .inl x1), (2, .inl (gx_w (x2 + 0))), (3, .inl (gx_w (x3 + 1)))] [] m Q) : hxn xs (n + 1) yp_m221 4 [(0, .inr (.inl 86)), (1, .inl x1), (2, .inl x2), (3, .inl x3)] [] m Q := by
  refine hx_blks (npc := 7) (L' := [(0, .inr (.inl 86)), (1, .inl x1), (2, .inl x2), (3, .inl x3)]) (st' := [.inl 40, .inl x3]) (m' := m) ((4, .iload_n 3, 1, 0, 0, 0, 0), (0, 0, 0)) [((5, .bipush 40, 2, 0, 0, 0, 0), (0, 0, 0))] (by decide +kernel) rfl ?_
  refine hx_cmp .ge 46 (by decide +kernel) (fun c1 => ?_) (fun c1 => ?_)
  · have c1 : 40 ≤ x3 := c1
    refine hx_blk (npc := 47) (L' := [(0, .inr (.inl 86)), (1, .inl x1), (2, .inl x2), (3, .inl x3)]) (st' := [.inl x2]) (m' := m) [((46, .iload_n 2, 1, 0, 0, 0, 0), (0, 0, 0))] (by decide +kernel) rfl ?_
    exact hx_reti (by decide +kernel) (h1 c1)
  · have c1 : x3 < 40 := by have h : ¬ (40 ≤ x3) := c1; omega
    refine hx_blk (npc := 13) (L' := [(0, .inr (.inl 86)), (1, .inl x1), (2, .inl x2), (3, .inl x3)]) (st' := [.inl x3, .inr (.inl 86), .inl x2]) (m' := m) [((10, .iload_n 2, 1, 0, 0, 0, 0), (0, 0, 0)), ((11, .aload_n 0, 1, 0, 0, 0, 0), (0, 0, 0)), ((12, .iload_n 3, 1, 0, 0, 0, 0), (0, 0, 0))] (by decide +kernel) rfl ?_
    refine hx_call (E := (13, .invokevirtual 269, 3, 196, 0, 6156, 0)) (M' := yp_m196) [.inr (.inl 86), .inl x3] [.inl x2] rfl (by decide +kernel) rfl ⟨rfl, rfl⟩ rfl rfl (hs196 (fun c2 => ?_) (fun c2 => ?_))
    · have c2 : aYr (m 87) x3 := c2
      show hxn xs n yp_m221 16 [(0, .inr (.inl 86)), (1, .inl x1), (2, .inl x2), (3, .inl x3)] [.inl 1, .inl x2] m Q
      refine hx_if .eq 37 (by decide +kernel) (fun c3 => ?_) (fun c3 => ?_)
      · have c3 : (1 : Int) = 0 := c3
        exfalso; omega
      · have c3 : (1 : Int) ≠ 0 := c3
        refine hx_blk (npc := 30) (L' := [(0, .inr (.inl 86)), (1, .inl x1), (2, .inl x2), (3, .inl x3)]) (st' := [.inl x1, .inl (m 87 (gx_w (280 + x3)).toNat), .inl x2]) (m' := m) [((19, .aload_n 0, 1, 0, 0, 0, 0), (0, 0, 0)), ((20, .getfield 7, 3, 10, 0, 5113, 0), (1, 86, 87)), ((23, .sipush 280, 3, 0, 0, 0, 0), (0, 0, 0)), ((26, .iload_n 3, 1, 0, 0, 0, 0), (0, 0, 0)), ((27, .iadd, 1, 0, 0, 0, 0), (0, 0, 0)), ((28, .iaload, 1, 0, 0, 0, 0), (0, 87, 0)), ((29, .iload_n 1, 1, 0, 0, 0, 0), (0, 0, 0))] (by decide +kernel) rfl ?_
        refine hx_cmp .ne 37 (by decide +kernel) (fun c3 => ?_) (fun c3 => ?_)
        · have c3 : (m 87 (gx_w (280 + x3)).toNat) ≠ x1 := c3
          refine hx_blk (npc := 4) (L' := [(0, .inr (.inl 86)), (1, .inl x1), (2, .inl (gx_w (x2 + 0))), (3, .inl (gx_w (x3 + 1)))]) (st' := []) (m' := m) [((37, .iconst 0, 1, 0, 0, 0, 0), (0, 0, 0)), ((38, .iadd, 1, 0, 0, 0, 0), (0, 0, 0)), ((39, .istore_n 2, 1, 0, 0, 0, 0), (0, 0, 0)), ((40, .iinc 3 1, 3, 0, 0, 0, 0), (0, 0, 0)), ((43, .goto (-39), 3, 0, 0, 0, 0), (0, 0, 0))] (by decide +kernel) rfl ?_
          exact hx_pick [0, 1, 2, 3] (h2 c1 c2 c3)
        · have c3 : (m 87 (gx_w (280 + x3)).toNat) = x1 := by have h : ¬ ((m 87 (gx_w (280 + x3)).toNat) ≠ x1) := c3; omega
          refine hx_blk (npc := 4) (L' := [(0, .inr (.inl 86)), (1, .inl x1), (2, .inl (gx_w (x2 + 1))), (3, .inl (gx_w (x3 + 1)))]) (st' := []) (m' := m) [((33, .iconst 1, 1, 0, 0, 0, 0), (0, 0, 0)), ((34, .goto 4, 3, 0, 0, 0, 0), (0, 0, 0)), ((38, .iadd, 1, 0, 0, 0, 0), (0, 0, 0)), ((39, .istore_n 2, 1, 0, 0, 0, 0), (0, 0, 0)), ((40, .iinc 3 1, 3, 0, 0, 0, 0), (0, 0, 0)), ((43, .goto (-39), 3, 0, 0, 0, 0), (0, 0, 0))] (by decide +kernel) rfl ?_
          exact hx_pick [0, 1, 2, 3] (h3 c1 c2 c3)
    · have c2 : ¬ (aYr (m 87) x3) := c2
      show hxn xs n yp_m221 16 [(0, .inr (.inl 86)), (1, .inl x1), (2, .inl x2), (3, .inl x3)] [.inl 0, .inl x2] m Q
      refine hx_if .eq 37 (by decide +kernel) (fun c3 => ?_) (fun c3 => ?_)
      · have c3 : (0 : Int) = 0 := c3
        refine hx_blk (npc := 4) (L' := [(0, .inr (.inl 86)), (1, .inl x1), (2, .inl (gx_w (x2 + 0))), (3, .inl (gx_w (x3 + 1)))]) (st' := []) (m' := m) [((37, .iconst 0, 1, 0, 0, 0, 0), (0, 0, 0)), ((38, .iadd, 1, 0, 0, 0, 0), (0, 0, 0)), ((39, .istore_n 2, 1, 0, 0, 0, 0), (0, 0, 0)), ((40, .iinc 3 1, 3, 0, 0, 0, 0), (0, 0, 0)), ((43, .goto (-39), 3, 0, 0, 0, 0), (0, 0, 0))] (by decide +kernel) rfl ?_
        exact hx_pick [0, 1, 2, 3] (h4 c1 c2)
      · have c3 : (0 : Int) ≠ 0 := c3
        exfalso; omega

/-- personIs from 0 on -/
theorem hr218_0 {xs : List Int32} {n : Nat} {Q : hQ} {m : gx_M} {x1 x2 : Int}
    (h1 : (aPers (m 87) x1) → (x2 = 0) → Q (some (.inl (m 87 (gx_w (1120 + x1)).toNat))) m)
    (h2 : (aPers (m 87) x1) → (x2 ≠ 0) → (x2 = 1) → hxn xs n yp_m204 0 [(0, .inr (.inl 86)), (1, .inl x1)] [] m (fun r m' => hxn xs n yp_m218 60 [] (hrs r ++ []) m' Q))
    (h3 : (aPers (m 87) x1) → (x2 ≠ 0) → (x2 ≠ 1) → (x2 = 2) → hxn xs n yp_m207 0 [(0, .inr (.inl 86)), (1, .inl x1), (2, .inl (-1))] [] m (fun r m' => hxn xs n yp_m218 67 [] (hrs r ++ []) m' Q))
    (h4 : (aPers (m 87) x1) → (x2 ≠ 0) → (x2 ≠ 1) → (x2 ≠ 2) → (x2 = 3) → hxn xs n yp_m219 0 [(0, .inr (.inl 86)), (1, .inl x1)] [] m (fun r m' => hxn xs n yp_m218 73 [] (hrs r ++ []) m' Q))
    (h5 : (aPers (m 87) x1) → (x2 ≠ 0) → (x2 ≠ 1) → (x2 ≠ 2) → (x2 ≠ 3) → (x2 = 4) → hxn xs n yp_m221 0 [(0, .inr (.inl 86)), (1, .inl x1)] [] m (fun r m' => hxn xs n yp_m218 79 [] (hrs r ++ []) m' Q))
    (h6 : (aPers (m 87) x1) → (x2 ≠ 0) → (x2 ≠ 1) → (x2 ≠ 2) → (x2 ≠ 3) → (x2 ≠ 4) → Q (some (.inl (-1))) m)
    (h7 : (¬ (aPers (m 87) x1)) → Q (some (.inl (-1))) m) : hxn xs (n + 1) yp_m218 0 [(0, .inr (.inl 86)), (1, .inl x1), (2, .inl x2)] [] m Q := by
  refine hx_blks (npc := 2) (L' := [(0, .inr (.inl 86)), (1, .inl x1), (2, .inl x2)]) (st' := [.inl x1, .inr (.inl 86)]) (m' := m) ((0, .aload_n 0, 1, 0, 0, 0, 0), (0, 0, 0)) [((1, .iload_n 1, 1, 0, 0, 0, 0), (0, 0, 0))] (by decide +kernel) rfl ?_
  refine hx_call (E := (2, .invokevirtual 113, 3, 164, 0, 6031, 0)) (M' := yp_m164) [.inr (.inl 86), .inl x1] [] rfl (by decide +kernel) rfl ⟨rfl, rfl⟩ rfl rfl (hs164 (fun c1 => ?_) (fun c1 => ?_))
  · have c1 : aPers (m 87) x1 := c1
    show hxn xs n yp_m218 5 [(0, .inr (.inl 86)), (1, .inl x1), (2, .inl x2)] [.inl 1] m Q
    refine hx_if .ne 10 (by decide +kernel) (fun c2 => ?_) (fun c2 => ?_)
    · have c2 : (1 : Int) ≠ 0 := c2
      refine hx_blk (npc := 11) (L' := [(0, .inr (.inl 86)), (1, .inl x1), (2, .inl x2)]) (st' := [.inl x2]) (m' := m) [((10, .iload_n 2, 1, 0, 0, 0, 0), (0, 0, 0))] (by decide +kernel) rfl ?_
      refine hx_tsw 80 [(0, 44), (1, 55), (2, 61), (3, 68), (4, 74)] (by decide +kernel) ?_
      refine hsw_c (fun c2 => ?_) (fun c2 => ?_)
      · have c2 : x2 = 0 := c2
        refine hx_blk (npc := 54) (L' := [(0, .inr (.inl 86)), (1, .inl x1), (2, .inl x2)]) (st' := [.inl (m 87 (gx_w (1120 + x1)).toNat)]) (m' := m) [((44, .aload_n 0, 1, 0, 0, 0, 0), (0, 0, 0)), ((45, .getfield 7, 3, 10, 0, 5113, 0), (1, 86, 87)), ((48, .sipush 1120, 3, 0, 0, 0, 0), (0, 0, 0)), ((51, .iload_n 1, 1, 0, 0, 0, 0), (0, 0, 0)), ((52, .iadd, 1, 0, 0, 0, 0), (0, 0, 0)), ((53, .iaload, 1, 0, 0, 0, 0), (0, 87, 0))] (by decide +kernel) rfl ?_
        exact hx_reti (by decide +kernel) (h1 c1 c2)
      refine hsw_c (fun c3 => ?_) (fun c3 => ?_)
      · have c3 : x2 = 1 := c3
        refine hx_blk (npc := 57) (L' := [(0, .inr (.inl 86)), (1, .inl x1), (2, .inl x2)]) (st' := [.inl x1, .inr (.inl 86)]) (m' := m) [((55, .aload_n 0, 1, 0, 0, 0, 0), (0, 0, 0)), ((56, .iload_n 1, 1, 0, 0, 0, 0), (0, 0, 0))] (by decide +kernel) rfl ?_
        exact hx_call (E := (57, .invokevirtual 235, 3, 204, 0, 6187, 0)) (M' := yp_m204) [.inr (.inl 86), .inl x1] [] rfl (by decide +kernel) rfl ⟨rfl, rfl⟩ rfl rfl (hx_mono (h2 c1 c2 c3) (fun r m' h' => hx_pick [] h'))
      refine hsw_c (fun c4 => ?_) (fun c4 => ?_)
      · have c4 : x2 = 2 := c4
        refine hx_blk (npc := 64) (L' := [(0, .inr (.inl 86)), (1, .inl x1), (2, .inl x2)]) (st' := [.inl (-1), .inl x1, .inr (.inl 86)]) (m' := m) [((61, .aload_n 0, 1, 0, 0, 0, 0), (0, 0, 0)), ((62, .iload_n 1, 1, 0, 0, 0, 0), (0, 0, 0)), ((63, .iconst (-1), 1, 0, 0, 0, 0), (0, 0, 0))] (by decide +kernel) rfl ?_
        exact hx_call (E := (64, .invokevirtual 244, 3, 207, 0, 6198, 0)) (M' := yp_m207) [.inr (.inl 86), .inl x1, .inl (-1)] [] rfl (by decide +kernel) rfl ⟨rfl, rfl⟩ rfl rfl (hx_mono (h3 c1 c2 c3 c4) (fun r m' h' => hx_pick [] h'))
      refine hsw_c (fun c5 => ?_) (fun c5 => ?_)
      · have c5 : x2 = 3 := c5
        refine hx_blk (npc := 70) (L' := [(0, .inr (.inl 86)), (1, .inl x1), (2, .inl x2)]) (st' := [.inl x1, .inr (.inl 86)]) (m' := m) [((68, .aload_n 0, 1, 0, 0, 0, 0), (0, 0, 0)), ((69, .iload_n 1, 1, 0, 0, 0, 0), (0, 0, 0))] (by decide +kernel) rfl ?_
        exact hx_call (E := (70, .invokevirtual 306, 3, 219, 0, 7004, 0)) (M' := yp_m219) [.inr (.inl 86), .inl x1] [] rfl (by decide +kernel) rfl ⟨rfl, rfl⟩ rfl rfl (hx_mono (h4 c1 c2 c3 c4 c5) (fun r m' h' => hx_pick [] h'))
      refine hsw_c (fun c6 => ?_) (fun c6 => ?_)
      · have c6 : x2 = 4 := c6
        refine hx_blk (npc := 76) (L' := [(0, .inr (.inl 86)), (1, .inl x1), (2, .inl x2)]) (st' := [.inl x1, .inr (.inl 86)]) (m' := m) [((74, .aload_n 0, 1, 0, 0, 0, 0), (0, 0, 0)), ((75, .iload_n 1, 1, 0, 0, 0, 0), (0, 0, 0))] (by decide +kernel) rfl ?_
        exact hx_call (E := (76, .invokevirtual 309, 3, 221, 0, 7012, 0)) (M' := yp_m221) [.inr (.inl 86), .inl x1] [] rfl (by decide +kernel) rfl ⟨rfl, rfl⟩ rfl rfl (hx_mono (h5 c1 c2 c3 c4 c5 c6) (fun r m' h' => hx_pick [] h'))
      refine hsw_n ?_
      refine hx_blk (npc := 81) (L' := [(0, .inr (.inl 86)), (1, .inl x1), (2, .inl x2)]) (st' := [.inl (-1)]) (m' := m) [((80, .iconst (-1), 1, 0, 0, 0, 0), (0, 0, 0))] (by decide +kernel) rfl ?_
      exact hx_reti (by decide +kernel) (h6 c1 c2 c3 c4 c5 c6)
    · have c2 : (1 : Int) = 0 := by have h : ¬ ((1 : Int) ≠ 0) := c2; omega
      exfalso; omega
  · have c1 : ¬ (aPers (m 87) x1) := c1
    show hxn xs n yp_m218 5 [(0, .inr (.inl 86)), (1, .inl x1), (2, .inl x2)] [.inl 0] m Q
    refine hx_if .ne 10 (by decide +kernel) (fun c2 => ?_) (fun c2 => ?_)
    · have c2 : (0 : Int) ≠ 0 := c2
      exfalso; omega
    · have c2 : (0 : Int) = 0 := by have h : ¬ ((0 : Int) ≠ 0) := c2; omega
      refine hx_blk (npc := 9) (L' := [(0, .inr (.inl 86)), (1, .inl x1), (2, .inl x2)]) (st' := [.inl (-1)]) (m' := m) [((8, .iconst (-1), 1, 0, 0, 0, 0), (0, 0, 0))] (by decide +kernel) rfl ?_
      exact hx_reti (by decide +kernel) (h7 c1)

/-- personIs from 60 on -/
theorem hr218_60 {xs : List Int32} {n : Nat} {Q : hQ} {m : gx_M} {s0 : Int}
    (h1 : Q (some (.inl s0)) m) : hxn xs (n + 1) yp_m218 60 [] [.inl s0] m Q := by
  exact hx_reti (by decide +kernel) h1

/-- personIs from 67 on -/
theorem hr218_67 {xs : List Int32} {n : Nat} {Q : hQ} {m : gx_M} {s0 : Int}
    (h1 : Q (some (.inl s0)) m) : hxn xs (n + 1) yp_m218 67 [] [.inl s0] m Q := by
  exact hx_reti (by decide +kernel) h1

/-- personIs from 73 on -/
theorem hr218_73 {xs : List Int32} {n : Nat} {Q : hQ} {m : gx_M} {s0 : Int}
    (h1 : Q (some (.inl s0)) m) : hxn xs (n + 1) yp_m218 73 [] [.inl s0] m Q := by
  exact hx_reti (by decide +kernel) h1

/-- personIs from 79 on -/
theorem hr218_79 {xs : List Int32} {n : Nat} {Q : hQ} {m : gx_M} {s0 : Int}
    (h1 : Q (some (.inl s0)) m) : hxn xs (n + 1) yp_m218 79 [] [.inl s0] m Q := by
  exact hx_reti (by decide +kernel) h1

/-- years from 0 on -/
theorem hr222_0 {xs : List Int32} {n : Nat} {Q : hQ} {m : gx_M} {x1 x2 : Int}
    (h1 : (aPers (m 87) x1) → (0 ≤ x2 ∧ x2 ≤ 3) → hxn xs n yp_m222 24 [(0, .inr (.inl 86)), (1, .inl x1), (2, .inl x2), (3, .inl 0), (4, .inl 0)] [] m Q)
    (h2 : (aPers (m 87) x1) → (¬ (0 ≤ x2 ∧ x2 ≤ 3)) → Q (some (.inl (-1))) m)
    (h3 : (¬ (aPers (m 87) x1)) → Q (some (.inl (-1))) m) : hxn xs (n + 1) yp_m222 0 [(0, .inr (.inl 86)), (1, .inl x1), (2, .inl x2)] [] m Q := by
  refine hx_blks (npc := 2) (L' := [(0, .inr (.inl 86)), (1, .inl x1), (2, .inl x2)]) (st' := [.inl x1, .inr (.inl 86)]) (m' := m) ((0, .aload_n 0, 1, 0, 0, 0, 0), (0, 0, 0)) [((1, .iload_n 1, 1, 0, 0, 0, 0), (0, 0, 0))] (by decide +kernel) rfl ?_
  refine hx_call (E := (2, .invokevirtual 113, 3, 164, 0, 6031, 0)) (M' := yp_m164) [.inr (.inl 86), .inl x1] [] rfl (by decide +kernel) rfl ⟨rfl, rfl⟩ rfl rfl (hs164 (fun c1 => ?_) (fun c1 => ?_))
  · have c1 : aPers (m 87) x1 := c1
    show hxn xs n yp_m222 5 [(0, .inr (.inl 86)), (1, .inl x1), (2, .inl x2)] [.inl 1] m Q
    refine hx_if .eq 17 (by decide +kernel) (fun c2 => ?_) (fun c2 => ?_)
    · have c2 : (1 : Int) = 0 := c2
      exfalso; omega
    · have c2 : (1 : Int) ≠ 0 := c2
      refine hx_blk (npc := 11) (L' := [(0, .inr (.inl 86)), (1, .inl x1), (2, .inl x2)]) (st' := [.inl 3, .inl 0, .inl x2]) (m' := m) [((8, .iload_n 2, 1, 0, 0, 0, 0), (0, 0, 0)), ((9, .iconst 0, 1, 0, 0, 0, 0), (0, 0, 0)), ((10, .iconst 3, 1, 0, 0, 0, 0), (0, 0, 0))] (by decide +kernel) rfl ?_
      refine hx_call (E := (11, .invokestatic 108, 3, 162, 0, 6023, 0)) (M' := yp_m162) [.inl x2, .inl 0, .inl 3] [] rfl (by decide +kernel) rfl ⟨rfl, rfl⟩ rfl rfl (hs162 (fun c2 => ?_) (fun c2 => ?_))
      · have c2 : 0 ≤ x2 ∧ x2 ≤ 3 := c2
        show hxn xs n yp_m222 14 [(0, .inr (.inl 86)), (1, .inl x1), (2, .inl x2)] [.inl 1] m Q
        refine hx_if .ne 19 (by decide +kernel) (fun c3 => ?_) (fun c3 => ?_)
        · have c3 : (1 : Int) ≠ 0 := c3
          refine hx_blk (npc := 24) (L' := [(0, .inr (.inl 86)), (1, .inl x1), (2, .inl x2), (3, .inl 0), (4, .inl 0)]) (st' := []) (m' := m) [((19, .iconst 0, 1, 0, 0, 0, 0), (0, 0, 0)), ((20, .istore_n 3, 1, 0, 0, 0, 0), (0, 0, 0)), ((21, .iconst 0, 1, 0, 0, 0, 0), (0, 0, 0)), ((22, .istore 4, 2, 0, 0, 0, 0), (0, 0, 0))] (by decide +kernel) rfl ?_
          exact hx_pick [0, 1, 2, 3, 4] (h1 c1 c2)
        · have c3 : (1 : Int) = 0 := by have h : ¬ ((1 : Int) ≠ 0) := c3; omega
          exfalso; omega
      · have c2 : ¬ (0 ≤ x2 ∧ x2 ≤ 3) := c2
        show hxn xs n yp_m222 14 [(0, .inr (.inl 86)), (1, .inl x1), (2, .inl x2)] [.inl 0] m Q
        refine hx_if .ne 19 (by decide +kernel) (fun c3 => ?_) (fun c3 => ?_)
        · have c3 : (0 : Int) ≠ 0 := c3
          exfalso; omega
        · have c3 : (0 : Int) = 0 := by have h : ¬ ((0 : Int) ≠ 0) := c3; omega
          refine hx_blk (npc := 18) (L' := [(0, .inr (.inl 86)), (1, .inl x1), (2, .inl x2)]) (st' := [.inl (-1)]) (m' := m) [((17, .iconst (-1), 1, 0, 0, 0, 0), (0, 0, 0))] (by decide +kernel) rfl ?_
          exact hx_reti (by decide +kernel) (h2 c1 c2)
  · have c1 : ¬ (aPers (m 87) x1) := c1
    show hxn xs n yp_m222 5 [(0, .inr (.inl 86)), (1, .inl x1), (2, .inl x2)] [.inl 0] m Q
    refine hx_if .eq 17 (by decide +kernel) (fun c2 => ?_) (fun c2 => ?_)
    · have c2 : (0 : Int) = 0 := c2
      refine hx_blk (npc := 18) (L' := [(0, .inr (.inl 86)), (1, .inl x1), (2, .inl x2)]) (st' := [.inl (-1)]) (m' := m) [((17, .iconst (-1), 1, 0, 0, 0, 0), (0, 0, 0))] (by decide +kernel) rfl ?_
      exact hx_reti (by decide +kernel) (h3 c1)
    · have c2 : (0 : Int) ≠ 0 := c2
      exfalso; omega

/-- years from 24 on -/
theorem hr222_24 {xs : List Int32} {n : Nat} {Q : hQ} {m : gx_M} {x1 x2 x3 x4 : Int}
    (h1 : (20 ≤ x4) → Q (some (.inl x3)) m)
    (h2 : (x4 < 20) → (2 ≤ x2) → hxn xs n yp_m220 0 [(0, .inr (.inl 86)), (1, .inl (gx_w ((gx_w (20 * (Int.tmod x2 2))) + x4))), (2, .inl x1)] [] m (fun r m' => hxn xs n yp_m222 67 [(0, .inr (.inl 86)), (1, .inl x1), (2, .inl x2), (3, .inl x3), (4, .inl x4)] (hrs r ++ []) m' Q))
    (h3 : (x4 < 20) → (x2 < 2) → hxn xs n yp_m205 0 [(0, .inr (.inl 86)), (1, .inl (gx_w ((gx_w (20 * (Int.tmod x2 2))) + x4))), (2, .inl x1)] [] m (fun r m' => hxn xs n yp_m222 54 [(0, .inr (.inl 86)), (1, .inl x1), (2, .inl x2), (3, .inl x3), (4, .inl x4)] (hrs r ++ []) m' Q)) : hxn xs (n + 1) yp_m222 24 [(0, .inr (.inl 86)), (1, .inl x1), (2, .inl x2), (3, .inl x3), (4, .inl x4)] [] m Q := by
  refine hx_blks (npc := 28) (L' := [(0, .inr (.inl 86)), (1, .inl x1), (2, .inl x2), (3, .inl x3), (4, .inl x4)]) (st' := [.inl 20, .inl x4]) (m' := m) ((24, .iload 4, 2, 0, 0, 0, 0), (0, 0, 0)) [((26, .bipush 20, 2, 0, 0, 0, 0), (0, 0, 0))] (by decide +kernel) rfl ?_
  refine hx_cmp .ge 83 (by decide +kernel) (fun c1 => ?_) (fun c1 => ?_)
  · have c1 : 20 ≤ x4 := c1
    refine hx_blk (npc := 84) (L' := [(0, .inr (.inl 86)), (1, .inl x1), (2, .inl x2), (3, .inl x3), (4, .inl x4)]) (st' := [.inl x3]) (m' := m) [((83, .iload_n 3, 1, 0, 0, 0, 0), (0, 0, 0))] (by decide +kernel) rfl ?_
    exact hx_reti (by decide +kernel) (h1 c1)
  · have c1 : x4 < 20 := by have h : ¬ (20 ≤ x4) := c1; omega
    refine hx_blk (npc := 44) (L' := [(0, .inr (.inl 86)), (1, .inl x1), (2, .inl x2), (3, .inl x3), (4, .inl x4), (5, .inl (gx_w ((gx_w (20 * (Int.tmod x2 2))) + x4)))]) (st' := [.inl 2, .inl x2]) (m' := m) [((31, .bipush 20, 2, 0, 0, 0, 0), (0, 0, 0)), ((33, .iload_n 2, 1, 0, 0, 0, 0), (0, 0, 0)), ((34, .iconst 2, 1, 0, 0, 0, 0), (0, 0, 0)), ((35, .irem, 1, 0, 0, 0, 0), (0, 0, 0)), ((36, .imul, 1, 0, 0, 0, 0), (0, 0, 0)), ((37, .iload 4, 2, 0, 0, 0, 0), (0, 0, 0)), ((39, .iadd, 1, 0, 0, 0, 0), (0, 0, 0)), ((40, .istore 5, 2, 0, 0, 0, 0), (0, 0, 0)), ((42, .iload_n 2, 1, 0, 0, 0, 0), (0, 0, 0)), ((43, .iconst 2, 1, 0, 0, 0, 0), (0, 0, 0))] (by decide +kernel) rfl ?_
    refine hx_cmp .ge 60 (by decide +kernel) (fun c2 => ?_) (fun c2 => ?_)
    · have c2 : 2 ≤ x2 := c2
      refine hx_blk (npc := 64) (L' := [(0, .inr (.inl 86)), (1, .inl x1), (2, .inl x2), (3, .inl x3), (4, .inl x4), (5, .inl (gx_w ((gx_w (20 * (Int.tmod x2 2))) + x4)))]) (st' := [.inl x1, .inl (gx_w ((gx_w (20 * (Int.tmod x2 2))) + x4)), .inr (.inl 86)]) (m' := m) [((60, .aload_n 0, 1, 0, 0, 0, 0), (0, 0, 0)), ((61, .iload 5, 2, 0, 0, 0, 0), (0, 0, 0)), ((63, .iload_n 1, 1, 0, 0, 0, 0), (0, 0, 0))] (by decide +kernel) rfl ?_
      exact hx_call (E := (64, .invokevirtual 303, 3, 220, 0, 7008, 0)) (M' := yp_m220) [.inr (.inl 86), .inl (gx_w ((gx_w (20 * (Int.tmod x2 2))) + x4)), .inl x1] [] rfl (by decide +kernel) rfl ⟨rfl, rfl⟩ rfl rfl (hx_mono (h2 c1 c2) (fun r m' h' => hx_pick [0, 1, 2, 3, 4] h'))
    · have c2 : x2 < 2 := by have h : ¬ (2 ≤ x2) := c2; omega
      refine hx_blk (npc := 51) (L' := [(0, .inr (.inl 86)), (1, .inl x1), (2, .inl x2), (3, .inl x3), (4, .inl x4), (5, .inl (gx_w ((gx_w (20 * (Int.tmod x2 2))) + x4)))]) (st' := [.inl x1, .inl (gx_w ((gx_w (20 * (Int.tmod x2 2))) + x4)), .inr (.inl 86)]) (m' := m) [((47, .aload_n 0, 1, 0, 0, 0, 0), (0, 0, 0)), ((48, .iload 5, 2, 0, 0, 0, 0), (0, 0, 0)), ((50, .iload_n 1, 1, 0, 0, 0, 0), (0, 0, 0))] (by decide +kernel) rfl ?_
      exact hx_call (E := (51, .invokevirtual 117, 3, 205, 0, 6191, 0)) (M' := yp_m205) [.inr (.inl 86), .inl (gx_w ((gx_w (20 * (Int.tmod x2 2))) + x4)), .inl x1] [] rfl (by decide +kernel) rfl ⟨rfl, rfl⟩ rfl rfl (hx_mono (h3 c1 c2) (fun r m' h' => hx_pick [0, 1, 2, 3, 4] h'))

/-- years from 54 on -/
theorem hr222_54 {xs : List Int32} {n : Nat} {Q : hQ} {m : gx_M} {x1 x2 x3 x4 s0 : Int}
    (h1 : (s0 = 0) → hxn xs n yp_m222 24 [(0, .inr (.inl 86)), (1, .inl x1), (2, .inl x2), (3, .inl x3), (4, .inl (gx_w (x4 + 1)))] [] m Q)
    (h2 : (s0 ≠ 0) → hxn xs n yp_m222 24 [(0, .inr (.inl 86)), (1, .inl x1), (2, .inl x2), (3, .inl (gx_or x3 (gx_shl 1 x4))), (4, .inl (gx_w (x4 + 1)))] [] m Q) : hxn xs (n + 1) yp_m222 54 [(0, .inr (.inl 86)), (1, .inl x1), (2, .inl x2), (3, .inl x3), (4, .inl x4)] [.inl s0] m Q := by
  refine hx_ifs .eq 77 (by decide +kernel) (fun c1 => ?_) (fun c1 => ?_)
  · have c1 : s0 = 0 := c1
    refine hx_blk (npc := 24) (L' := [(0, .inr (.inl 86)), (1, .inl x1), (2, .inl x2), (3, .inl x3), (4, .inl (gx_w (x4 + 1)))]) (st' := []) (m' := m) [((77, .iinc 4 1, 3, 0, 0, 0, 0), (0, 0, 0)), ((80, .goto (-56), 3, 0, 0, 0, 0), (0, 0, 0))] (by decide +kernel) rfl ?_
    exact hx_pick [0, 1, 2, 3, 4] (h1 c1)
  · have c1 : s0 ≠ 0 := c1
    refine hx_blk (npc := 24) (L' := [(0, .inr (.inl 86)), (1, .inl x1), (2, .inl x2), (3, .inl (gx_or x3 (gx_shl 1 x4))), (4, .inl (gx_w (x4 + 1)))]) (st' := []) (m' := m) [((57, .goto 13, 3, 0, 0, 0, 0), (0, 0, 0)), ((70, .iload_n 3, 1, 0, 0, 0, 0), (0, 0, 0)), ((71, .iconst 1, 1, 0, 0, 0, 0), (0, 0, 0)), ((72, .iload 4, 2, 0, 0, 0, 0), (0, 0, 0)), ((74, .ishl, 1, 0, 0, 0, 0), (0, 0, 0)), ((75, .ior, 1, 0, 0, 0, 0), (0, 0, 0)), ((76, .istore_n 3, 1, 0, 0, 0, 0), (0, 0, 0)), ((77, .iinc 4 1, 3, 0, 0, 0, 0), (0, 0, 0)), ((80, .goto (-56), 3, 0, 0, 0, 0), (0, 0, 0))] (by decide +kernel) rfl ?_
    exact hx_pick [0, 1, 2, 3, 4] (h2 c1)

/-- years from 67 on -/
theorem hr222_67 {xs : List Int32} {n : Nat} {Q : hQ} {m : gx_M} {x1 x2 x3 x4 s0 : Int}
    (h1 : (s0 = 0) → hxn xs n yp_m222 24 [(0, .inr (.inl 86)), (1, .inl x1), (2, .inl x2), (3, .inl x3), (4, .inl (gx_w (x4 + 1)))] [] m Q)
    (h2 : (s0 ≠ 0) → hxn xs n yp_m222 24 [(0, .inr (.inl 86)), (1, .inl x1), (2, .inl x2), (3, .inl (gx_or x3 (gx_shl 1 x4))), (4, .inl (gx_w (x4 + 1)))] [] m Q) : hxn xs (n + 1) yp_m222 67 [(0, .inr (.inl 86)), (1, .inl x1), (2, .inl x2), (3, .inl x3), (4, .inl x4)] [.inl s0] m Q := by
  refine hx_ifs .eq 77 (by decide +kernel) (fun c1 => ?_) (fun c1 => ?_)
  · have c1 : s0 = 0 := c1
    refine hx_blk (npc := 24) (L' := [(0, .inr (.inl 86)), (1, .inl x1), (2, .inl x2), (3, .inl x3), (4, .inl (gx_w (x4 + 1)))]) (st' := []) (m' := m) [((77, .iinc 4 1, 3, 0, 0, 0, 0), (0, 0, 0)), ((80, .goto (-56), 3, 0, 0, 0, 0), (0, 0, 0))] (by decide +kernel) rfl ?_
    exact hx_pick [0, 1, 2, 3, 4] (h1 c1)
  · have c1 : s0 ≠ 0 := c1
    refine hx_blk (npc := 24) (L' := [(0, .inr (.inl 86)), (1, .inl x1), (2, .inl x2), (3, .inl (gx_or x3 (gx_shl 1 x4))), (4, .inl (gx_w (x4 + 1)))]) (st' := []) (m' := m) [((70, .iload_n 3, 1, 0, 0, 0, 0), (0, 0, 0)), ((71, .iconst 1, 1, 0, 0, 0, 0), (0, 0, 0)), ((72, .iload 4, 2, 0, 0, 0, 0), (0, 0, 0)), ((74, .ishl, 1, 0, 0, 0, 0), (0, 0, 0)), ((75, .ior, 1, 0, 0, 0, 0), (0, 0, 0)), ((76, .istore_n 3, 1, 0, 0, 0, 0), (0, 0, 0)), ((77, .iinc 4 1, 3, 0, 0, 0, 0), (0, 0, 0)), ((80, .goto (-56), 3, 0, 0, 0, 0), (0, 0, 0))] (by decide +kernel) rfl ?_
    exact hx_pick [0, 1, 2, 3, 4] (h2 c1)

