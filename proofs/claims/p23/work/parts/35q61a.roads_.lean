section
/-! personIs, years: roads -/
/-- handsOf from 0 on -/
theorem hr77_0 {xs : List Int32} {n : Nat} {Q : hQ} {m : gx_M} {x1 : Int}
    (h1 : (cYear 5 m x1) → hxn xs n yp_m77 14 [(0, .inr (.inl 5)), (1, .inl x1), (2, .inl 0), (3, .inl 0)] [] m Q)
    (h2 : (¬ (cYear 5 m x1)) → Q (some (.inl 0)) m) : hxn xs (n + 1) yp_m77 0 [(0, .inr (.inl 5)), (1, .inl x1)] [] m Q := by
  refine hx_blks (npc := 4) (L' := [(0, .inr (.inl 5)), (1, .inl x1), (2, .inl 0)]) (st' := [.inl x1, .inr (.inl 5)]) (m' := m) ((0, .iconst 0, 1, 0, 0, 0, 0), (0, 0, 0)) [((1, .istore_n 2, 1, 0, 0, 0, 0), (0, 0, 0)), ((2, .aload_n 0, 1, 0, 0, 0, 0), (0, 0, 0)), ((3, .iload_n 1, 1, 0, 0, 0, 0), (0, 0, 0))] (by decide +kernel) rfl ?_
  refine hx_call (E := (4, .invokevirtual 71, 3, 17, 0, 2188, 0)) (M' := yp_m17) [.inr (.inl 5), .inl x1] [] rfl (by decide +kernel) rfl ⟨rfl, rfl⟩ rfl rfl (hs17_5 (fun c1 => ?_) (fun c1 => ?_))
  · have c1 : cYear 5 m x1 := c1
    show hxn xs n yp_m77 7 [(0, .inr (.inl 5)), (1, .inl x1), (2, .inl 0)] [.inl 1] m Q
    refine hx_if .ne 12 (by decide +kernel) (fun c2 => ?_) (fun c2 => ?_)
    · have c2 : (1 : Int) ≠ 0 := c2
      refine hx_blk (npc := 14) (L' := [(0, .inr (.inl 5)), (1, .inl x1), (2, .inl 0), (3, .inl 0)]) (st' := []) (m' := m) [((12, .iconst 0, 1, 0, 0, 0, 0), (0, 0, 0)), ((13, .istore_n 3, 1, 0, 0, 0, 0), (0, 0, 0))] (by decide +kernel) rfl ?_
      exact hx_pick [0, 1, 2, 3] (h1 c1)
    · have c2 : (1 : Int) = 0 := by have h : ¬ ((1 : Int) ≠ 0) := c2; omega
      exfalso; omega
  · have c1 : ¬ (cYear 5 m x1) := c1
    show hxn xs n yp_m77 7 [(0, .inr (.inl 5)), (1, .inl x1), (2, .inl 0)] [.inl 0] m Q
    refine hx_if .ne 12 (by decide +kernel) (fun c2 => ?_) (fun c2 => ?_)
    · have c2 : (0 : Int) ≠ 0 := c2
      exfalso; omega
    · have c2 : (0 : Int) = 0 := by have h : ¬ ((0 : Int) ≠ 0) := c2; omega
      refine hx_blk (npc := 11) (L' := [(0, .inr (.inl 5)), (1, .inl x1), (2, .inl 0)]) (st' := [.inl 0]) (m' := m) [((10, .iload_n 2, 1, 0, 0, 0, 0), (0, 0, 0))] (by decide +kernel) rfl ?_
      exact hx_reti (by decide +kernel) (h2 c1)

/-- handsOf from 14 on -/
theorem hr77_14 {xs : List Int32} {n : Nat} {Q : hQ} {m : gx_M} {x1 x2 x3 : Int}
    (h1 : (16 ≤ x3) → Q (some (.inl x2)) m)
    (h2 : (x3 < 16) → ((m 16 (x1).toNat) ≤ x3) → Q (some (.inl x2)) m)
    (h3 : (x3 < 16) → (x3 < (m 16 (x1).toNat)) → hxn xs n yp_m77 14 [(0, .inr (.inl 5)), (1, .inl x1), (2, .inl (gx_or x2 (gx_shl 1 (m 17 (gx_w ((gx_w (x1 * 16)) + x3)).toNat)))), (3, .inl (gx_w (x3 + 1)))] [] m Q) : hxn xs (n + 1) yp_m77 14 [(0, .inr (.inl 5)), (1, .inl x1), (2, .inl x2), (3, .inl x3)] [] m Q := by
  refine hx_blks (npc := 17) (L' := [(0, .inr (.inl 5)), (1, .inl x1), (2, .inl x2), (3, .inl x3)]) (st' := [.inl 16, .inl x3]) (m' := m) ((14, .iload_n 3, 1, 0, 0, 0, 0), (0, 0, 0)) [((15, .bipush 16, 2, 0, 0, 0, 0), (0, 0, 0))] (by decide +kernel) rfl ?_
  refine hx_cmp .ge 52 (by decide +kernel) (fun c1 => ?_) (fun c1 => ?_)
  · have c1 : 16 ≤ x3 := c1
    refine hx_blk (npc := 53) (L' := [(0, .inr (.inl 5)), (1, .inl x1), (2, .inl x2), (3, .inl x3)]) (st' := [.inl x2]) (m' := m) [((52, .iload_n 2, 1, 0, 0, 0, 0), (0, 0, 0))] (by decide +kernel) rfl ?_
    exact hx_reti (by decide +kernel) (h1 c1)
  · have c1 : x3 < 16 := by have h : ¬ (16 ≤ x3) := c1; omega
    refine hx_blk (npc := 27) (L' := [(0, .inr (.inl 5)), (1, .inl x1), (2, .inl x2), (3, .inl x3)]) (st' := [.inl (m 16 (x1).toNat), .inl x3]) (m' := m) [((20, .iload_n 3, 1, 0, 0, 0, 0), (0, 0, 0)), ((21, .aload_n 0, 1, 0, 0, 0, 0), (0, 0, 0)), ((22, .getfield 46, 3, 2, 15, 1131, 0), (1, 5, 16)), ((25, .iload_n 1, 1, 0, 0, 0, 0), (0, 0, 0)), ((26, .iaload, 1, 0, 0, 0, 0), (0, 16, 0))] (by decide +kernel) rfl ?_
    refine hx_cmp .ge 52 (by decide +kernel) (fun c2 => ?_) (fun c2 => ?_)
    · have c2 : (m 16 (x1).toNat) ≤ x3 := c2
      refine hx_blk (npc := 53) (L' := [(0, .inr (.inl 5)), (1, .inl x1), (2, .inl x2), (3, .inl x3)]) (st' := [.inl x2]) (m' := m) [((52, .iload_n 2, 1, 0, 0, 0, 0), (0, 0, 0))] (by decide +kernel) rfl ?_
      exact hx_reti (by decide +kernel) (h2 c1 c2)
    · have c2 : x3 < (m 16 (x1).toNat) := by have h : ¬ ((m 16 (x1).toNat) ≤ x3) := c2; omega
      refine hx_blk (npc := 14) (L' := [(0, .inr (.inl 5)), (1, .inl x1), (2, .inl (gx_or x2 (gx_shl 1 (m 17 (gx_w ((gx_w (x1 * 16)) + x3)).toNat)))), (3, .inl (gx_w (x3 + 1)))]) (st' := []) (m' := m) [((30, .iload_n 2, 1, 0, 0, 0, 0), (0, 0, 0)), ((31, .iconst 1, 1, 0, 0, 0, 0), (0, 0, 0)), ((32, .aload_n 0, 1, 0, 0, 0, 0), (0, 0, 0)), ((33, .getfield 49, 3, 2, 16, 1136, 0), (1, 5, 17)), ((36, .iload_n 1, 1, 0, 0, 0, 0), (0, 0, 0)), ((37, .bipush 16, 2, 0, 0, 0, 0), (0, 0, 0)), ((39, .imul, 1, 0, 0, 0, 0), (0, 0, 0)), ((40, .iload_n 3, 1, 0, 0, 0, 0), (0, 0, 0)), ((41, .iadd, 1, 0, 0, 0, 0), (0, 0, 0)), ((42, .iaload, 1, 0, 0, 0, 0), (0, 17, 0)), ((43, .ishl, 1, 0, 0, 0, 0), (0, 0, 0)), ((44, .ior, 1, 0, 0, 0, 0), (0, 0, 0)), ((45, .istore_n 2, 1, 0, 0, 0, 0), (0, 0, 0)), ((46, .iinc 3 1, 3, 0, 0, 0, 0), (0, 0, 0)), ((49, .goto (-35), 3, 0, 0, 0, 0), (0, 0, 0))] (by decide +kernel) rfl ?_
      exact hx_pick [0, 1, 2, 3] (h3 c1 c2)

/-- had from 0 on -/
theorem hr76_0 {xs : List Int32} {n : Nat} {Q : hQ} {m : gx_M} {x1 : Int}
    (h1 : hxn xs n yp_m76 5 [(0, .inr (.inl 5)), (1, .inl x1), (2, .inr (.inr 0)), (4, .inl 0)] [] m Q) : hxn xs (n + 1) yp_m76 0 [(0, .inr (.inl 5)), (1, .inl x1)] [] m Q := by
  refine hx_blks (npc := 5) (L' := [(0, .inr (.inl 5)), (1, .inl x1), (2, .inr (.inr 0)), (4, .inl 0)]) (st' := []) (m' := m) ((0, .lconst 0, 1, 0, 0, 0, 0), (0, 0, 0)) [((1, .lstore_n 2, 1, 0, 0, 0, 0), (0, 0, 0)), ((2, .iconst 0, 1, 0, 0, 0, 0), (0, 0, 0)), ((3, .istore 4, 2, 0, 0, 0, 0), (0, 0, 0))] (by decide +kernel) rfl ?_
  exact hx_pick [0, 1, 2, 4] h1

/-- had from 5 on -/
theorem hr76_5 {xs : List Int32} {n : Nat} {Q : hQ} {m : gx_M} {x1 x2 x4 : Int}
    (h1 : (40 ≤ x4) → Q (some (.inr (.inr x2))) m)
    (h2 : (x4 < 40) → hxn xs n yp_m77 0 [(0, .inr (.inl 5)), (1, .inl x4)] [] m (fun r m' => hxn xs n yp_m76 18 [(0, .inr (.inl 5)), (1, .inl x1), (2, .inr (.inr x2)), (4, .inl x4)] (hrs r ++ []) m' Q)) : hxn xs (n + 1) yp_m76 5 [(0, .inr (.inl 5)), (1, .inl x1), (2, .inr (.inr x2)), (4, .inl x4)] [] m Q := by
  refine hx_blks (npc := 9) (L' := [(0, .inr (.inl 5)), (1, .inl x1), (2, .inr (.inr x2)), (4, .inl x4)]) (st' := [.inl 40, .inl x4]) (m' := m) ((5, .iload 4, 2, 0, 0, 0, 0), (0, 0, 0)) [((7, .bipush 40, 2, 0, 0, 0, 0), (0, 0, 0))] (by decide +kernel) rfl ?_
  refine hx_cmp .ge 38 (by decide +kernel) (fun c1 => ?_) (fun c1 => ?_)
  · have c1 : 40 ≤ x4 := c1
    refine hx_blk (npc := 39) (L' := [(0, .inr (.inl 5)), (1, .inl x1), (2, .inr (.inr x2)), (4, .inl x4)]) (st' := [.inr (.inr x2)]) (m' := m) [((38, .lload_n 2, 1, 0, 0, 0, 0), (0, 0, 0))] (by decide +kernel) rfl ?_
    exact hx_retl (by decide +kernel) (h1 c1)
  · have c1 : x4 < 40 := by have h : ¬ (40 ≤ x4) := c1; omega
    refine hx_blk (npc := 15) (L' := [(0, .inr (.inl 5)), (1, .inl x1), (2, .inr (.inr x2)), (4, .inl x4)]) (st' := [.inl x4, .inr (.inl 5)]) (m' := m) [((12, .aload_n 0, 1, 0, 0, 0, 0), (0, 0, 0)), ((13, .iload 4, 2, 0, 0, 0, 0), (0, 0, 0))] (by decide +kernel) rfl ?_
    exact hx_call (E := (15, .invokevirtual 109, 3, 77, 0, 3222, 0)) (M' := yp_m77) [.inr (.inl 5), .inl x4] [] rfl (by decide +kernel) rfl ⟨rfl, rfl⟩ rfl rfl (hx_mono (h2 c1) (fun r m' h' => hx_pick [0, 1, 2, 4] h'))

/-- had from 18 on -/
theorem hr76_18 {xs : List Int32} {n : Nat} {Q : hQ} {m : gx_M} {x1 x2 x4 s0 : Int}
    (h1 : ((gx_and (gx_shr s0 x1) 1) = 0) → hxn xs n yp_m76 5 [(0, .inr (.inl 5)), (1, .inl x1), (2, .inr (.inr x2)), (4, .inl (gx_w (x4 + 1)))] [] m Q)
    (h2 : ((gx_and (gx_shr s0 x1) 1) ≠ 0) → hxn xs n yp_m76 5 [(0, .inr (.inl 5)), (1, .inl x1), (2, .inr (.inr (hlor x2 (hlshl 1 x4)))), (4, .inl (gx_w (x4 + 1)))] [] m Q) : hxn xs (n + 1) yp_m76 18 [(0, .inr (.inl 5)), (1, .inl x1), (2, .inr (.inr x2)), (4, .inl x4)] [.inl s0] m Q := by
  have f1 := gx_and_bd (gx_shr s0 x1) 1 (by decide)
  refine hx_blks (npc := 22) (L' := [(0, .inr (.inl 5)), (1, .inl x1), (2, .inr (.inr x2)), (4, .inl x4)]) (st' := [.inl (gx_and (gx_shr s0 x1) 1)]) (m' := m) ((18, .iload_n 1, 1, 0, 0, 0, 0), (0, 0, 0)) [((19, .ishr, 1, 0, 0, 0, 0), (0, 0, 0)), ((20, .iconst 1, 1, 0, 0, 0, 0), (0, 0, 0)), ((21, .iand, 1, 0, 0, 0, 0), (0, 0, 0))] (by decide +kernel) rfl ?_
  refine hx_if .eq 32 (by decide +kernel) (fun c1 => ?_) (fun c1 => ?_)
  · have c1 : (gx_and (gx_shr s0 x1) 1) = 0 := c1
    refine hx_blk (npc := 5) (L' := [(0, .inr (.inl 5)), (1, .inl x1), (2, .inr (.inr x2)), (4, .inl (gx_w (x4 + 1)))]) (st' := []) (m' := m) [((32, .iinc 4 1, 3, 0, 0, 0, 0), (0, 0, 0)), ((35, .goto (-30), 3, 0, 0, 0, 0), (0, 0, 0))] (by decide +kernel) rfl ?_
    exact hx_pick [0, 1, 2, 4] (h1 c1)
  · have c1 : (gx_and (gx_shr s0 x1) 1) ≠ 0 := c1
    refine hx_blk (npc := 5) (L' := [(0, .inr (.inl 5)), (1, .inl x1), (2, .inr (.inr (hlor x2 (hlshl 1 x4)))), (4, .inl (gx_w (x4 + 1)))]) (st' := []) (m' := m) [((25, .lload_n 2, 1, 0, 0, 0, 0), (0, 0, 0)), ((26, .lconst 1, 1, 0, 0, 0, 0), (0, 0, 0)), ((27, .iload 4, 2, 0, 0, 0, 0), (0, 0, 0)), ((29, .lshl, 1, 0, 0, 0, 0), (0, 0, 0)), ((30, .lor, 1, 0, 0, 0, 0), (0, 0, 0)), ((31, .lstore_n 2, 1, 0, 0, 0, 0), (0, 0, 0)), ((32, .iinc 4 1, 3, 0, 0, 0, 0), (0, 0, 0)), ((35, .goto (-30), 3, 0, 0, 0, 0), (0, 0, 0))] (by decide +kernel) rfl ?_
    exact hx_pick [0, 1, 2, 4] (h2 c1)

/-- held from 0 on -/
theorem hr78_0 {xs : List Int32} {n : Nat} {Q : hQ} {m : gx_M} {x1 : Int}
    (h1 : hxn xs n yp_m78 5 [(0, .inr (.inl 5)), (1, .inl x1), (2, .inr (.inr 0)), (4, .inl 0)] [] m Q) : hxn xs (n + 1) yp_m78 0 [(0, .inr (.inl 5)), (1, .inl x1)] [] m Q := by
  refine hx_blks (npc := 5) (L' := [(0, .inr (.inl 5)), (1, .inl x1), (2, .inr (.inr 0)), (4, .inl 0)]) (st' := []) (m' := m) ((0, .lconst 0, 1, 0, 0, 0, 0), (0, 0, 0)) [((1, .lstore_n 2, 1, 0, 0, 0, 0), (0, 0, 0)), ((2, .iconst 0, 1, 0, 0, 0, 0), (0, 0, 0)), ((3, .istore 4, 2, 0, 0, 0, 0), (0, 0, 0))] (by decide +kernel) rfl ?_
  exact hx_pick [0, 1, 2, 4] h1

/-- held from 5 on -/
theorem hr78_5 {xs : List Int32} {n : Nat} {Q : hQ} {m : gx_M} {x1 x2 x4 : Int}
    (h1 : (40 ≤ x4) → Q (some (.inr (.inr x2))) m)
    (h2 : (x4 < 40) → (cPwd 5 13 m x4) → ((m 13 (x4).toNat) ≠ x1) → hxn xs n yp_m78 5 [(0, .inr (.inl 5)), (1, .inl x1), (2, .inr (.inr x2)), (4, .inl (gx_w (x4 + 1)))] [] m Q)
    (h3 : (x4 < 40) → (cPwd 5 13 m x4) → ((m 13 (x4).toNat) = x1) → hxn xs n yp_m78 5 [(0, .inr (.inl 5)), (1, .inl x1), (2, .inr (.inr (hlor x2 (hlshl 1 x4)))), (4, .inl (gx_w (x4 + 1)))] [] m Q)
    (h4 : (x4 < 40) → (¬ (cPwd 5 13 m x4)) → hxn xs n yp_m78 5 [(0, .inr (.inl 5)), (1, .inl x1), (2, .inr (.inr x2)), (4, .inl (gx_w (x4 + 1)))] [] m Q) : hxn xs (n + 1) yp_m78 5 [(0, .inr (.inl 5)), (1, .inl x1), (2, .inr (.inr x2)), (4, .inl x4)] [] m Q := by
  refine hx_blks (npc := 9) (L' := [(0, .inr (.inl 5)), (1, .inl x1), (2, .inr (.inr x2)), (4, .inl x4)]) (st' := [.inl 40, .inl x4]) (m' := m) ((5, .iload 4, 2, 0, 0, 0, 0), (0, 0, 0)) [((7, .bipush 40, 2, 0, 0, 0, 0), (0, 0, 0))] (by decide +kernel) rfl ?_
  refine hx_cmp .ge 45 (by decide +kernel) (fun c1 => ?_) (fun c1 => ?_)
  · have c1 : 40 ≤ x4 := c1
    refine hx_blk (npc := 46) (L' := [(0, .inr (.inl 5)), (1, .inl x1), (2, .inr (.inr x2)), (4, .inl x4)]) (st' := [.inr (.inr x2)]) (m' := m) [((45, .lload_n 2, 1, 0, 0, 0, 0), (0, 0, 0))] (by decide +kernel) rfl ?_
    exact hx_retl (by decide +kernel) (h1 c1)
  · have c1 : x4 < 40 := by have h : ¬ (40 ≤ x4) := c1; omega
    refine hx_blk (npc := 15) (L' := [(0, .inr (.inl 5)), (1, .inl x1), (2, .inr (.inr x2)), (4, .inl x4)]) (st' := [.inl x4, .inr (.inl 5)]) (m' := m) [((12, .aload_n 0, 1, 0, 0, 0, 0), (0, 0, 0)), ((13, .iload 4, 2, 0, 0, 0, 0), (0, 0, 0))] (by decide +kernel) rfl ?_
    refine hx_call (E := (15, .invokevirtual 106, 3, 79, 0, 3230, 0)) (M' := yp_m79) [.inr (.inl 5), .inl x4] [] rfl (by decide +kernel) rfl ⟨rfl, rfl⟩ rfl rfl (hs79_5 (fun c2 => ?_) (fun c2 => ?_))
    · have c2 : cPwd 5 13 m x4 := c2
      show hxn xs n yp_m78 18 [(0, .inr (.inl 5)), (1, .inl x1), (2, .inr (.inr x2)), (4, .inl x4)] [.inl 1] m Q
      refine hx_if .eq 39 (by decide +kernel) (fun c3 => ?_) (fun c3 => ?_)
      · have c3 : (1 : Int) = 0 := c3
        exfalso; omega
      · have c3 : (1 : Int) ≠ 0 := c3
        refine hx_blk (npc := 29) (L' := [(0, .inr (.inl 5)), (1, .inl x1), (2, .inr (.inr x2)), (4, .inl x4)]) (st' := [.inl x1, .inl (m 13 (x4).toNat)]) (m' := m) [((21, .aload_n 0, 1, 0, 0, 0, 0), (0, 0, 0)), ((22, .getfield 37, 3, 2, 12, 1119, 0), (1, 5, 13)), ((25, .iload 4, 2, 0, 0, 0, 0), (0, 0, 0)), ((27, .iaload, 1, 0, 0, 0, 0), (0, 13, 0)), ((28, .iload_n 1, 1, 0, 0, 0, 0), (0, 0, 0))] (by decide +kernel) rfl ?_
        refine hx_cmp .ne 39 (by decide +kernel) (fun c3 => ?_) (fun c3 => ?_)
        · have c3 : (m 13 (x4).toNat) ≠ x1 := c3
          refine hx_blk (npc := 5) (L' := [(0, .inr (.inl 5)), (1, .inl x1), (2, .inr (.inr x2)), (4, .inl (gx_w (x4 + 1)))]) (st' := []) (m' := m) [((39, .iinc 4 1, 3, 0, 0, 0, 0), (0, 0, 0)), ((42, .goto (-37), 3, 0, 0, 0, 0), (0, 0, 0))] (by decide +kernel) rfl ?_
          exact hx_pick [0, 1, 2, 4] (h2 c1 c2 c3)
        · have c3 : (m 13 (x4).toNat) = x1 := by have h : ¬ ((m 13 (x4).toNat) ≠ x1) := c3; omega
          refine hx_blk (npc := 5) (L' := [(0, .inr (.inl 5)), (1, .inl x1), (2, .inr (.inr (hlor x2 (hlshl 1 x4)))), (4, .inl (gx_w (x4 + 1)))]) (st' := []) (m' := m) [((32, .lload_n 2, 1, 0, 0, 0, 0), (0, 0, 0)), ((33, .lconst 1, 1, 0, 0, 0, 0), (0, 0, 0)), ((34, .iload 4, 2, 0, 0, 0, 0), (0, 0, 0)), ((36, .lshl, 1, 0, 0, 0, 0), (0, 0, 0)), ((37, .lor, 1, 0, 0, 0, 0), (0, 0, 0)), ((38, .lstore_n 2, 1, 0, 0, 0, 0), (0, 0, 0)), ((39, .iinc 4 1, 3, 0, 0, 0, 0), (0, 0, 0)), ((42, .goto (-37), 3, 0, 0, 0, 0), (0, 0, 0))] (by decide +kernel) rfl ?_
          exact hx_pick [0, 1, 2, 4] (h3 c1 c2 c3)
    · have c2 : ¬ (cPwd 5 13 m x4) := c2
      show hxn xs n yp_m78 18 [(0, .inr (.inl 5)), (1, .inl x1), (2, .inr (.inr x2)), (4, .inl x4)] [.inl 0] m Q
      refine hx_if .eq 39 (by decide +kernel) (fun c3 => ?_) (fun c3 => ?_)
      · have c3 : (0 : Int) = 0 := c3
        refine hx_blk (npc := 5) (L' := [(0, .inr (.inl 5)), (1, .inl x1), (2, .inr (.inr x2)), (4, .inl (gx_w (x4 + 1)))]) (st' := []) (m' := m) [((39, .iinc 4 1, 3, 0, 0, 0, 0), (0, 0, 0)), ((42, .goto (-37), 3, 0, 0, 0, 0), (0, 0, 0))] (by decide +kernel) rfl ?_
        exact hx_pick [0, 1, 2, 4] (h4 c1 c2)
      · have c3 : (0 : Int) ≠ 0 := c3
        exfalso; omega

/-- personIs from 0 on -/
theorem hr75_0 {xs : List Int32} {n : Nat} {Q : hQ} {m : gx_M} {x1 x2 : Int}
    (h1 : (cPers 5 m x1) → (x2 = 0) → Q (some (.inl (m 6 (x1).toNat))) m)
    (h2 : (cPers 5 m x1) → (x2 ≠ 0) → (x2 = 1) → hxn xs n yp_m60 0 [(0, .inr (.inl 5)), (1, .inl x1)] [] m (fun r m' => hxn xs n yp_m75 66 [] (hrs r ++ []) m' Q))
    (h3 : (cPers 5 m x1) → (x2 ≠ 0) → (x2 ≠ 1) → (x2 = 2) → hxn xs n yp_m60 0 [(0, .inr (.inl 5)), (1, .inl x1)] [] m (fun r m' => hxn xs n yp_m75 82 [] (hrs r ++ [.inr (.inl 5)]) m' Q))
    (h4 : (cPers 5 m x1) → (x2 ≠ 0) → (x2 ≠ 1) → (x2 ≠ 2) → (x2 = 3) → hxn xs n yp_m76 0 [(0, .inr (.inl 5)), (1, .inl x1)] [] m (fun r m' => hxn xs n yp_m75 94 [] (hrs r ++ []) m' Q))
    (h5 : (cPers 5 m x1) → (x2 ≠ 0) → (x2 ≠ 1) → (x2 ≠ 2) → (x2 ≠ 3) → (x2 = 4) → hxn xs n yp_m78 0 [(0, .inr (.inl 5)), (1, .inl x1)] [] m (fun r m' => hxn xs n yp_m75 106 [] (hrs r ++ []) m' Q))
    (h6 : (cPers 5 m x1) → (x2 ≠ 0) → (x2 ≠ 1) → (x2 ≠ 2) → (x2 ≠ 3) → (x2 ≠ 4) → Q (some (.inl (-1))) m)
    (h7 : (¬ (cPers 5 m x1)) → Q (some (.inl (-1))) m) : hxn xs (n + 1) yp_m75 0 [(0, .inr (.inl 0)), (1, .inl x1), (2, .inl x2)] [] m Q := by
  refine hx_blks (npc := 5) (L' := [(0, .inr (.inl 0)), (1, .inl x1), (2, .inl x2)]) (st' := [.inl x1, .inr (.inl 5)]) (m' := m) ((0, .aload_n 0, 1, 0, 0, 0, 0), (0, 0, 0)) [((1, .getfield 26, 3, 9, 2, 2121, 0), (1, 0, 5)), ((4, .iload_n 1, 1, 0, 0, 0, 0), (0, 0, 0))] (by decide +kernel) rfl ?_
  refine hx_call (E := (5, .invokevirtual 94, 3, 13, 0, 2171, 0)) (M' := yp_m13) [.inr (.inl 5), .inl x1] [] rfl (by decide +kernel) rfl ⟨rfl, rfl⟩ rfl rfl (hs13_5 (fun c1 => ?_) (fun c1 => ?_))
  · have c1 : cPers 5 m x1 := c1
    show hxn xs n yp_m75 8 [(0, .inr (.inl 0)), (1, .inl x1), (2, .inl x2)] [.inl 1] m Q
    refine hx_if .ne 13 (by decide +kernel) (fun c2 => ?_) (fun c2 => ?_)
    · have c2 : (1 : Int) ≠ 0 := c2
      refine hx_blk (npc := 14) (L' := [(0, .inr (.inl 0)), (1, .inl x1), (2, .inl x2)]) (st' := [.inl x2]) (m' := m) [((13, .iload_n 2, 1, 0, 0, 0, 0), (0, 0, 0))] (by decide +kernel) rfl ?_
      refine hx_tsw 110 [(0, 48), (1, 58), (2, 70), (3, 86), (4, 98)] (by decide +kernel) ?_
      refine hsw_c (fun c2 => ?_) (fun c2 => ?_)
      · have c2 : x2 = 0 := c2
        refine hx_blk (npc := 57) (L' := [(0, .inr (.inl 0)), (1, .inl x1), (2, .inl x2)]) (st' := [.inl (m 6 (x1).toNat)]) (m' := m) [((48, .aload_n 0, 1, 0, 0, 0, 0), (0, 0, 0)), ((49, .getfield 26, 3, 9, 2, 2121, 0), (1, 0, 5)), ((52, .getfield 90, 3, 2, 5, 1090, 0), (1, 5, 6)), ((55, .iload_n 1, 1, 0, 0, 0, 0), (0, 0, 0)), ((56, .iaload, 1, 0, 0, 0, 0), (0, 6, 0))] (by decide +kernel) rfl ?_
        exact hx_reti (by decide +kernel) (h1 c1 c2)
      refine hsw_c (fun c3 => ?_) (fun c3 => ?_)
      · have c3 : x2 = 1 := c3
        refine hx_blk (npc := 63) (L' := [(0, .inr (.inl 0)), (1, .inl x1), (2, .inl x2)]) (st' := [.inl x1, .inr (.inl 5)]) (m' := m) [((58, .aload_n 0, 1, 0, 0, 0, 0), (0, 0, 0)), ((59, .getfield 26, 3, 9, 2, 2121, 0), (1, 0, 5)), ((62, .iload_n 1, 1, 0, 0, 0, 0), (0, 0, 0))] (by decide +kernel) rfl ?_
        exact hx_call (E := (63, .invokevirtual 181, 3, 60, 0, 3215, 0)) (M' := yp_m60) [.inr (.inl 5), .inl x1] [] rfl (by decide +kernel) rfl ⟨rfl, rfl⟩ rfl rfl (hx_mono (h2 c1 c2 c3) (fun r m' h' => hx_pick [] h'))
      refine hsw_c (fun c4 => ?_) (fun c4 => ?_)
      · have c4 : x2 = 2 := c4
        refine hx_blk (npc := 79) (L' := [(0, .inr (.inl 0)), (1, .inl x1), (2, .inl x2)]) (st' := [.inl x1, .inr (.inl 5), .inr (.inl 5)]) (m' := m) [((70, .aload_n 0, 1, 0, 0, 0, 0), (0, 0, 0)), ((71, .getfield 26, 3, 9, 2, 2121, 0), (1, 0, 5)), ((74, .aload_n 0, 1, 0, 0, 0, 0), (0, 0, 0)), ((75, .getfield 26, 3, 9, 2, 2121, 0), (1, 0, 5)), ((78, .iload_n 1, 1, 0, 0, 0, 0), (0, 0, 0))] (by decide +kernel) rfl ?_
        exact hx_call (E := (79, .invokevirtual 181, 3, 60, 0, 3215, 0)) (M' := yp_m60) [.inr (.inl 5), .inl x1] [.inr (.inl 5)] rfl (by decide +kernel) rfl ⟨rfl, rfl⟩ rfl rfl (hx_mono (h3 c1 c2 c3 c4) (fun r m' h' => hx_pick [] h'))
      refine hsw_c (fun c5 => ?_) (fun c5 => ?_)
      · have c5 : x2 = 3 := c5
        refine hx_blk (npc := 91) (L' := [(0, .inr (.inl 0)), (1, .inl x1), (2, .inl x2)]) (st' := [.inl x1, .inr (.inl 5)]) (m' := m) [((86, .aload_n 0, 1, 0, 0, 0, 0), (0, 0, 0)), ((87, .getfield 26, 3, 9, 2, 2121, 0), (1, 0, 5)), ((90, .iload_n 1, 1, 0, 0, 0, 0), (0, 0, 0))] (by decide +kernel) rfl ?_
        exact hx_call (E := (91, .invokevirtual 194, 3, 76, 0, 3218, 0)) (M' := yp_m76) [.inr (.inl 5), .inl x1] [] rfl (by decide +kernel) rfl ⟨rfl, rfl⟩ rfl rfl (hx_mono (h4 c1 c2 c3 c4 c5) (fun r m' h' => hx_pick [] h'))
      refine hsw_c (fun c6 => ?_) (fun c6 => ?_)
      · have c6 : x2 = 4 := c6
        refine hx_blk (npc := 103) (L' := [(0, .inr (.inl 0)), (1, .inl x1), (2, .inl x2)]) (st' := [.inl x1, .inr (.inl 5)]) (m' := m) [((98, .aload_n 0, 1, 0, 0, 0, 0), (0, 0, 0)), ((99, .getfield 26, 3, 9, 2, 2121, 0), (1, 0, 5)), ((102, .iload_n 1, 1, 0, 0, 0, 0), (0, 0, 0))] (by decide +kernel) rfl ?_
        exact hx_call (E := (103, .invokevirtual 197, 3, 78, 0, 3226, 0)) (M' := yp_m78) [.inr (.inl 5), .inl x1] [] rfl (by decide +kernel) rfl ⟨rfl, rfl⟩ rfl rfl (hx_mono (h5 c1 c2 c3 c4 c5 c6) (fun r m' h' => hx_pick [] h'))
      refine hsw_n ?_
      refine hx_blk (npc := 111) (L' := [(0, .inr (.inl 0)), (1, .inl x1), (2, .inl x2)]) (st' := [.inl (-1)]) (m' := m) [((110, .iconst (-1), 1, 0, 0, 0, 0), (0, 0, 0))] (by decide +kernel) rfl ?_
      exact hx_reti (by decide +kernel) (h6 c1 c2 c3 c4 c5 c6)
    · have c2 : (1 : Int) = 0 := by have h : ¬ ((1 : Int) ≠ 0) := c2; omega
      exfalso; omega
  · have c1 : ¬ (cPers 5 m x1) := c1
    show hxn xs n yp_m75 8 [(0, .inr (.inl 0)), (1, .inl x1), (2, .inl x2)] [.inl 0] m Q
    refine hx_if .ne 13 (by decide +kernel) (fun c2 => ?_) (fun c2 => ?_)
    · have c2 : (0 : Int) ≠ 0 := c2
      exfalso; omega
    · have c2 : (0 : Int) = 0 := by have h : ¬ ((0 : Int) ≠ 0) := c2; omega
      refine hx_blk (npc := 12) (L' := [(0, .inr (.inl 0)), (1, .inl x1), (2, .inl x2)]) (st' := [.inl (-1)]) (m' := m) [((11, .iconst (-1), 1, 0, 0, 0, 0), (0, 0, 0))] (by decide +kernel) rfl ?_
      exact hx_reti (by decide +kernel) (h7 c1)

/-- personIs from 66 on -/
theorem hr75_66 {xs : List Int32} {n : Nat} {Q : hQ} {m : gx_M} {s0 : Int}
    (h1 : hxn xs n yp_m61 0 [(0, .inr (.inr s0))] [] m (fun r m' => hxn xs n yp_m75 69 [] (hrs r ++ []) m' Q)) : hxn xs (n + 1) yp_m75 66 [] [.inr (.inr s0)] m Q := by
  exact hx_calls (E := (66, .invokestatic 185, 3, 61, 0, 3216, 0)) (M' := yp_m61) [.inr (.inr s0)] [] rfl (by decide +kernel) rfl ⟨rfl, rfl⟩ rfl rfl (hx_mono h1 (fun r m' h' => hx_pick [] h'))

/-- personIs from 69 on -/
theorem hr75_69 {xs : List Int32} {n : Nat} {Q : hQ} {m : gx_M} {s0 : Int}
    (h1 : Q (some (.inl s0)) m) : hxn xs (n + 1) yp_m75 69 [] [.inl s0] m Q := by
  exact hx_reti (by decide +kernel) h1

/-- personIs from 82 on -/
theorem hr75_82 {xs : List Int32} {n : Nat} {Q : hQ} {m : gx_M} {s1 : Int}
    (h1 : hxn xs n yp_m64 0 [(0, .inr (.inl 5)), (1, .inr (.inr s1))] [] m (fun r m' => hxn xs n yp_m75 85 [] (hrs r ++ []) m' Q)) : hxn xs (n + 1) yp_m75 82 [] [.inr (.inr s1), .inr (.inl 5)] m Q := by
  exact hx_calls (E := (82, .invokevirtual 191, 3, 64, 0, 3217, 0)) (M' := yp_m64) [.inr (.inl 5), .inr (.inr s1)] [] rfl (by decide +kernel) rfl ⟨rfl, rfl⟩ rfl rfl (hx_mono h1 (fun r m' h' => hx_pick [] h'))

/-- personIs from 85 on -/
theorem hr75_85 {xs : List Int32} {n : Nat} {Q : hQ} {m : gx_M} {s0 : Int}
    (h1 : Q (some (.inl s0)) m) : hxn xs (n + 1) yp_m75 85 [] [.inl s0] m Q := by
  exact hx_reti (by decide +kernel) h1

/-- personIs from 94 on -/
theorem hr75_94 {xs : List Int32} {n : Nat} {Q : hQ} {m : gx_M} {s0 : Int}
    (h1 : hxn xs n yp_m61 0 [(0, .inr (.inr s0))] [] m (fun r m' => hxn xs n yp_m75 97 [] (hrs r ++ []) m' Q)) : hxn xs (n + 1) yp_m75 94 [] [.inr (.inr s0)] m Q := by
  exact hx_calls (E := (94, .invokestatic 185, 3, 61, 0, 3216, 0)) (M' := yp_m61) [.inr (.inr s0)] [] rfl (by decide +kernel) rfl ⟨rfl, rfl⟩ rfl rfl (hx_mono h1 (fun r m' h' => hx_pick [] h'))

/-- personIs from 97 on -/
theorem hr75_97 {xs : List Int32} {n : Nat} {Q : hQ} {m : gx_M} {s0 : Int}
    (h1 : Q (some (.inl s0)) m) : hxn xs (n + 1) yp_m75 97 [] [.inl s0] m Q := by
  exact hx_reti (by decide +kernel) h1

/-- personIs from 106 on -/
theorem hr75_106 {xs : List Int32} {n : Nat} {Q : hQ} {m : gx_M} {s0 : Int}
    (h1 : hxn xs n yp_m61 0 [(0, .inr (.inr s0))] [] m (fun r m' => hxn xs n yp_m75 109 [] (hrs r ++ []) m' Q)) : hxn xs (n + 1) yp_m75 106 [] [.inr (.inr s0)] m Q := by
  exact hx_calls (E := (106, .invokestatic 185, 3, 61, 0, 3216, 0)) (M' := yp_m61) [.inr (.inr s0)] [] rfl (by decide +kernel) rfl ⟨rfl, rfl⟩ rfl rfl (hx_mono h1 (fun r m' h' => hx_pick [] h'))

/-- personIs from 109 on -/
theorem hr75_109 {xs : List Int32} {n : Nat} {Q : hQ} {m : gx_M} {s0 : Int}
    (h1 : Q (some (.inl s0)) m) : hxn xs (n + 1) yp_m75 109 [] [.inl s0] m Q := by
  exact hx_reti (by decide +kernel) h1

/-- years from 0 on -/
theorem hr80_0 {xs : List Int32} {n : Nat} {Q : hQ} {m : gx_M} {x1 x2 : Int}
    (h1 : (cPers 5 m x1) → (x2 < 0) → Q (some (.inl (-1))) m)
    (h2 : (cPers 5 m x1) → (0 ≤ x2) → (x2 ≤ 3) → (2 ≤ x2) → hxn xs n yp_m76 0 [(0, .inr (.inl 5)), (1, .inl x1)] [] m (fun r m' => hxn xs n yp_m80 46 [(2, .inl x2)] (hrs r ++ []) m' Q))
    (h3 : (cPers 5 m x1) → (0 ≤ x2) → (x2 ≤ 3) → (x2 < 2) → hxn xs n yp_m60 0 [(0, .inr (.inl 5)), (1, .inl x1)] [] m (fun r m' => hxn xs n yp_m80 35 [(2, .inl x2)] (hrs r ++ []) m' Q))
    (h4 : (cPers 5 m x1) → (0 ≤ x2) → (3 < x2) → Q (some (.inl (-1))) m)
    (h5 : (¬ (cPers 5 m x1)) → Q (some (.inl (-1))) m) : hxn xs (n + 1) yp_m80 0 [(0, .inr (.inl 0)), (1, .inl x1), (2, .inl x2)] [] m Q := by
  refine hx_blks (npc := 5) (L' := [(0, .inr (.inl 0)), (1, .inl x1), (2, .inl x2)]) (st' := [.inl x1, .inr (.inl 5)]) (m' := m) ((0, .aload_n 0, 1, 0, 0, 0, 0), (0, 0, 0)) [((1, .getfield 26, 3, 9, 2, 2121, 0), (1, 0, 5)), ((4, .iload_n 1, 1, 0, 0, 0, 0), (0, 0, 0))] (by decide +kernel) rfl ?_
  refine hx_call (E := (5, .invokevirtual 94, 3, 13, 0, 2171, 0)) (M' := yp_m13) [.inr (.inl 5), .inl x1] [] rfl (by decide +kernel) rfl ⟨rfl, rfl⟩ rfl rfl (hs13_5 (fun c1 => ?_) (fun c1 => ?_))
  · have c1 : cPers 5 m x1 := c1
    show hxn xs n yp_m80 8 [(0, .inr (.inl 0)), (1, .inl x1), (2, .inl x2)] [.inl 1] m Q
    refine hx_if .eq 20 (by decide +kernel) (fun c2 => ?_) (fun c2 => ?_)
    · have c2 : (1 : Int) = 0 := c2
      exfalso; omega
    · have c2 : (1 : Int) ≠ 0 := c2
      refine hx_blk (npc := 12) (L' := [(0, .inr (.inl 0)), (1, .inl x1), (2, .inl x2)]) (st' := [.inl x2]) (m' := m) [((11, .iload_n 2, 1, 0, 0, 0, 0), (0, 0, 0))] (by decide +kernel) rfl ?_
      refine hx_if .lt 20 (by decide +kernel) (fun c2 => ?_) (fun c2 => ?_)
      · have c2 : x2 < 0 := c2
        refine hx_blk (npc := 21) (L' := [(0, .inr (.inl 0)), (1, .inl x1), (2, .inl x2)]) (st' := [.inl (-1)]) (m' := m) [((20, .iconst (-1), 1, 0, 0, 0, 0), (0, 0, 0))] (by decide +kernel) rfl ?_
        exact hx_reti (by decide +kernel) (h1 c1 c2)
      · have c2 : 0 ≤ x2 := by have h : ¬ (x2 < 0) := c2; omega
        refine hx_blk (npc := 17) (L' := [(0, .inr (.inl 0)), (1, .inl x1), (2, .inl x2)]) (st' := [.inl 3, .inl x2]) (m' := m) [((15, .iload_n 2, 1, 0, 0, 0, 0), (0, 0, 0)), ((16, .iconst 3, 1, 0, 0, 0, 0), (0, 0, 0))] (by decide +kernel) rfl ?_
        refine hx_cmp .le 22 (by decide +kernel) (fun c3 => ?_) (fun c3 => ?_)
        · have c3 : x2 ≤ 3 := c3
          refine hx_blk (npc := 24) (L' := [(0, .inr (.inl 0)), (1, .inl x1), (2, .inl x2)]) (st' := [.inl 2, .inl x2]) (m' := m) [((22, .iload_n 2, 1, 0, 0, 0, 0), (0, 0, 0)), ((23, .iconst 2, 1, 0, 0, 0, 0), (0, 0, 0))] (by decide +kernel) rfl ?_
          refine hx_cmp .ge 38 (by decide +kernel) (fun c4 => ?_) (fun c4 => ?_)
          · have c4 : 2 ≤ x2 := c4
            refine hx_blk (npc := 43) (L' := [(0, .inr (.inl 0)), (1, .inl x1), (2, .inl x2)]) (st' := [.inl x1, .inr (.inl 5)]) (m' := m) [((38, .aload_n 0, 1, 0, 0, 0, 0), (0, 0, 0)), ((39, .getfield 26, 3, 9, 2, 2121, 0), (1, 0, 5)), ((42, .iload_n 1, 1, 0, 0, 0, 0), (0, 0, 0))] (by decide +kernel) rfl ?_
            exact hx_call (E := (43, .invokevirtual 194, 3, 76, 0, 3218, 0)) (M' := yp_m76) [.inr (.inl 5), .inl x1] [] rfl (by decide +kernel) rfl ⟨rfl, rfl⟩ rfl rfl (hx_mono (h2 c1 c2 c3 c4) (fun r m' h' => hx_pick [2] h'))
          · have c4 : x2 < 2 := by have h : ¬ (2 ≤ x2) := c4; omega
            refine hx_blk (npc := 32) (L' := [(0, .inr (.inl 0)), (1, .inl x1), (2, .inl x2)]) (st' := [.inl x1, .inr (.inl 5)]) (m' := m) [((27, .aload_n 0, 1, 0, 0, 0, 0), (0, 0, 0)), ((28, .getfield 26, 3, 9, 2, 2121, 0), (1, 0, 5)), ((31, .iload_n 1, 1, 0, 0, 0, 0), (0, 0, 0))] (by decide +kernel) rfl ?_
            exact hx_call (E := (32, .invokevirtual 181, 3, 60, 0, 3215, 0)) (M' := yp_m60) [.inr (.inl 5), .inl x1] [] rfl (by decide +kernel) rfl ⟨rfl, rfl⟩ rfl rfl (hx_mono (h3 c1 c2 c3 c4) (fun r m' h' => hx_pick [2] h'))
        · have c3 : 3 < x2 := by have h : ¬ (x2 ≤ 3) := c3; omega
          refine hx_blk (npc := 21) (L' := [(0, .inr (.inl 0)), (1, .inl x1), (2, .inl x2)]) (st' := [.inl (-1)]) (m' := m) [((20, .iconst (-1), 1, 0, 0, 0, 0), (0, 0, 0))] (by decide +kernel) rfl ?_
          exact hx_reti (by decide +kernel) (h4 c1 c2 c3)
  · have c1 : ¬ (cPers 5 m x1) := c1
    show hxn xs n yp_m80 8 [(0, .inr (.inl 0)), (1, .inl x1), (2, .inl x2)] [.inl 0] m Q
    refine hx_if .eq 20 (by decide +kernel) (fun c2 => ?_) (fun c2 => ?_)
    · have c2 : (0 : Int) = 0 := c2
      refine hx_blk (npc := 21) (L' := [(0, .inr (.inl 0)), (1, .inl x1), (2, .inl x2)]) (st' := [.inl (-1)]) (m' := m) [((20, .iconst (-1), 1, 0, 0, 0, 0), (0, 0, 0))] (by decide +kernel) rfl ?_
      exact hx_reti (by decide +kernel) (h5 c1)
    · have c2 : (0 : Int) ≠ 0 := c2
      exfalso; omega

/-- years from 35 on -/
theorem hr80_35 {xs : List Int32} {n : Nat} {Q : hQ} {m : gx_M} {x2 s0 : Int}
    (h1 : Q (some (.inl (gx_and (gx_w (hlushr s0 (20 * (gx_and x2 1)))) 1048575))) m) : hxn xs (n + 1) yp_m80 35 [(2, .inl x2)] [.inr (.inr s0)] m Q := by
  have f1 := gx_and_bd x2 1 (by decide)
  have e2 : gx_w (20 * (gx_and x2 1)) = 20 * (gx_and x2 1) := gx_w_id (by omega) (by omega)
  have f3 := gx_and_bd (gx_w (hlushr s0 (20 * (gx_and x2 1)))) 1048575 (by decide)
  refine hx_blks (npc := 63) (L' := [(2, .inl x2), (3, .inr (.inr s0)), (5, .inl 1048575)]) (st' := [.inl (gx_and (gx_w (hlushr s0 (gx_w (20 * (gx_and x2 1))))) 1048575)]) (m' := m) ((35, .goto 11, 3, 0, 0, 0, 0), (0, 0, 0)) [((46, .lstore_n 3, 1, 0, 0, 0, 0), (0, 0, 0)), ((47, .ldc 200, 2, 0, 0, 3238, 1048575), (0, 0, 0)), ((49, .istore 5, 2, 0, 0, 0, 0), (0, 0, 0)), ((51, .lload_n 3, 1, 0, 0, 0, 0), (0, 0, 0)), ((52, .bipush 20, 2, 0, 0, 0, 0), (0, 0, 0)), ((54, .iload_n 2, 1, 0, 0, 0, 0), (0, 0, 0)), ((55, .iconst 1, 1, 0, 0, 0, 0), (0, 0, 0)), ((56, .iand, 1, 0, 0, 0, 0), (0, 0, 0)), ((57, .imul, 1, 0, 0, 0, 0), (0, 0, 0)), ((58, .lushr, 1, 0, 0, 0, 0), (0, 0, 0)), ((59, .l2i, 1, 0, 0, 0, 0), (0, 0, 0)), ((60, .iload 5, 2, 0, 0, 0, 0), (0, 0, 0)), ((62, .iand, 1, 0, 0, 0, 0), (0, 0, 0))] (by decide +kernel) rfl ?_
  rw [e2]
  exact hx_reti (by decide +kernel) h1

/-- years from 46 on -/
theorem hr80_46 {xs : List Int32} {n : Nat} {Q : hQ} {m : gx_M} {x2 s0 : Int}
    (h1 : Q (some (.inl (gx_and (gx_w (hlushr s0 (20 * (gx_and x2 1)))) 1048575))) m) : hxn xs (n + 1) yp_m80 46 [(2, .inl x2)] [.inr (.inr s0)] m Q := by
  have f1 := gx_and_bd x2 1 (by decide)
  have e2 : gx_w (20 * (gx_and x2 1)) = 20 * (gx_and x2 1) := gx_w_id (by omega) (by omega)
  have f3 := gx_and_bd (gx_w (hlushr s0 (20 * (gx_and x2 1)))) 1048575 (by decide)
  refine hx_blks (npc := 63) (L' := [(2, .inl x2), (3, .inr (.inr s0)), (5, .inl 1048575)]) (st' := [.inl (gx_and (gx_w (hlushr s0 (gx_w (20 * (gx_and x2 1))))) 1048575)]) (m' := m) ((46, .lstore_n 3, 1, 0, 0, 0, 0), (0, 0, 0)) [((47, .ldc 200, 2, 0, 0, 3238, 1048575), (0, 0, 0)), ((49, .istore 5, 2, 0, 0, 0, 0), (0, 0, 0)), ((51, .lload_n 3, 1, 0, 0, 0, 0), (0, 0, 0)), ((52, .bipush 20, 2, 0, 0, 0, 0), (0, 0, 0)), ((54, .iload_n 2, 1, 0, 0, 0, 0), (0, 0, 0)), ((55, .iconst 1, 1, 0, 0, 0, 0), (0, 0, 0)), ((56, .iand, 1, 0, 0, 0, 0), (0, 0, 0)), ((57, .imul, 1, 0, 0, 0, 0), (0, 0, 0)), ((58, .lushr, 1, 0, 0, 0, 0), (0, 0, 0)), ((59, .l2i, 1, 0, 0, 0, 0), (0, 0, 0)), ((60, .iload 5, 2, 0, 0, 0, 0), (0, 0, 0)), ((62, .iand, 1, 0, 0, 0, 0), (0, 0, 0))] (by decide +kernel) rfl ?_
  rw [e2]
  exact hx_reti (by decide +kernel) h1

/-- hasHad from 0 on -/
theorem hr220_0 {xs : List Int32} {n : Nat} {Q : hQ} {m : gx_M} {x1 x2 : Int}
    (h1 : hxn xs n yp_m220 2 [(0, .inr (.inl 86)), (1, .inl x1), (2, .inl x2), (3, .inl 0)] [] m Q) : hxn xs (n + 1) yp_m220 0 [(0, .inr (.inl 86)), (1, .inl x1), (2, .inl x2)] [] m Q := by
  refine hx_blks (npc := 2) (L' := [(0, .inr (.inl 86)), (1, .inl x1), (2, .inl x2), (3, .inl 0)]) (st' := []) (m' := m) ((0, .iconst 0, 1, 0, 0, 0, 0), (0, 0, 0)) [((1, .istore_n 3, 1, 0, 0, 0, 0), (0, 0, 0))] (by decide +kernel) rfl ?_
  exact hx_pick [0, 1, 2, 3] h1

/-- hasHad from 2 on -/
theorem hr220_2 {xs : List Int32} {n : Nat} {Q : hQ} {m : gx_M} {x1 x2 x3 : Int}
    (h1 : ((m 87 (gx_w (400 + x1)).toNat) ≤ x3) → Q (some (.inl 0)) m)
    (h2 : (x3 < (m 87 (gx_w (400 + x1)).toNat)) → ((m 87 (gx_w (440 + x1)).toNat) ≠ 1) → Q (some (.inl 0)) m)
    (h3 : (x3 < (m 87 (gx_w (400 + x1)).toNat)) → ((m 87 (gx_w (440 + x1)).toNat) = 1) → ((m 87 (gx_w ((gx_w (480 + (gx_w (16 * x1)))) + x3)).toNat) ≠ x2) → hxn xs n yp_m220 2 [(0, .inr (.inl 86)), (1, .inl x1), (2, .inl x2), (3, .inl (gx_w (x3 + 1)))] [] m Q)
    (h4 : (x3 < (m 87 (gx_w (400 + x1)).toNat)) → ((m 87 (gx_w (440 + x1)).toNat) = 1) → ((m 87 (gx_w ((gx_w (480 + (gx_w (16 * x1)))) + x3)).toNat) = x2) → Q (some (.inl 1)) m) : hxn xs (n + 1) yp_m220 2 [(0, .inr (.inl 86)), (1, .inl x1), (2, .inl x2), (3, .inl x3)] [] m Q := by
  refine hx_blks (npc := 13) (L' := [(0, .inr (.inl 86)), (1, .inl x1), (2, .inl x2), (3, .inl x3)]) (st' := [.inl (m 87 (gx_w (400 + x1)).toNat), .inl x3]) (m' := m) ((2, .iload_n 3, 1, 0, 0, 0, 0), (0, 0, 0)) [((3, .aload_n 0, 1, 0, 0, 0, 0), (0, 0, 0)), ((4, .getfield 7, 3, 10, 0, 5113, 0), (1, 86, 87)), ((7, .sipush 400, 3, 0, 0, 0, 0), (0, 0, 0)), ((10, .iload_n 1, 1, 0, 0, 0, 0), (0, 0, 0)), ((11, .iadd, 1, 0, 0, 0, 0), (0, 0, 0)), ((12, .iaload, 1, 0, 0, 0, 0), (0, 87, 0))] (by decide +kernel) rfl ?_
  refine hx_cmp .ge 57 (by decide +kernel) (fun c1 => ?_) (fun c1 => ?_)
  · have c1 : (m 87 (gx_w (400 + x1)).toNat) ≤ x3 := c1
    refine hx_blk (npc := 58) (L' := [(0, .inr (.inl 86)), (1, .inl x1), (2, .inl x2), (3, .inl x3)]) (st' := [.inl 0]) (m' := m) [((57, .iconst 0, 1, 0, 0, 0, 0), (0, 0, 0))] (by decide +kernel) rfl ?_
    exact hx_reti (by decide +kernel) (h1 c1)
  · have c1 : x3 < (m 87 (gx_w (400 + x1)).toNat) := by have h : ¬ ((m 87 (gx_w (400 + x1)).toNat) ≤ x3) := c1; omega
    refine hx_blk (npc := 27) (L' := [(0, .inr (.inl 86)), (1, .inl x1), (2, .inl x2), (3, .inl x3)]) (st' := [.inl 1, .inl (m 87 (gx_w (440 + x1)).toNat)]) (m' := m) [((16, .aload_n 0, 1, 0, 0, 0, 0), (0, 0, 0)), ((17, .getfield 7, 3, 10, 0, 5113, 0), (1, 86, 87)), ((20, .sipush 440, 3, 0, 0, 0, 0), (0, 0, 0)), ((23, .iload_n 1, 1, 0, 0, 0, 0), (0, 0, 0)), ((24, .iadd, 1, 0, 0, 0, 0), (0, 0, 0)), ((25, .iaload, 1, 0, 0, 0, 0), (0, 87, 0)), ((26, .iconst 1, 1, 0, 0, 0, 0), (0, 0, 0))] (by decide +kernel) rfl ?_
    refine hx_cmp .ne 57 (by decide +kernel) (fun c2 => ?_) (fun c2 => ?_)
    · have c2 : (m 87 (gx_w (440 + x1)).toNat) ≠ 1 := c2
      refine hx_blk (npc := 58) (L' := [(0, .inr (.inl 86)), (1, .inl x1), (2, .inl x2), (3, .inl x3)]) (st' := [.inl 0]) (m' := m) [((57, .iconst 0, 1, 0, 0, 0, 0), (0, 0, 0))] (by decide +kernel) rfl ?_
      exact hx_reti (by decide +kernel) (h2 c1 c2)
    · have c2 : (m 87 (gx_w (440 + x1)).toNat) = 1 := by have h : ¬ ((m 87 (gx_w (440 + x1)).toNat) ≠ 1) := c2; omega
      refine hx_blk (npc := 46) (L' := [(0, .inr (.inl 86)), (1, .inl x1), (2, .inl x2), (3, .inl x3)]) (st' := [.inl x2, .inl (m 87 (gx_w ((gx_w (480 + (gx_w (16 * x1)))) + x3)).toNat)]) (m' := m) [((30, .aload_n 0, 1, 0, 0, 0, 0), (0, 0, 0)), ((31, .getfield 7, 3, 10, 0, 5113, 0), (1, 86, 87)), ((34, .sipush 480, 3, 0, 0, 0, 0), (0, 0, 0)), ((37, .bipush 16, 2, 0, 0, 0, 0), (0, 0, 0)), ((39, .iload_n 1, 1, 0, 0, 0, 0), (0, 0, 0)), ((40, .imul, 1, 0, 0, 0, 0), (0, 0, 0)), ((41, .iadd, 1, 0, 0, 0, 0), (0, 0, 0)), ((42, .iload_n 3, 1, 0, 0, 0, 0), (0, 0, 0)), ((43, .iadd, 1, 0, 0, 0, 0), (0, 0, 0)), ((44, .iaload, 1, 0, 0, 0, 0), (0, 87, 0)), ((45, .iload_n 2, 1, 0, 0, 0, 0), (0, 0, 0))] (by decide +kernel) rfl ?_
      refine hx_cmp .ne 51 (by decide +kernel) (fun c3 => ?_) (fun c3 => ?_)
      · have c3 : (m 87 (gx_w ((gx_w (480 + (gx_w (16 * x1)))) + x3)).toNat) ≠ x2 := c3
        refine hx_blk (npc := 2) (L' := [(0, .inr (.inl 86)), (1, .inl x1), (2, .inl x2), (3, .inl (gx_w (x3 + 1)))]) (st' := []) (m' := m) [((51, .iinc 3 1, 3, 0, 0, 0, 0), (0, 0, 0)), ((54, .goto (-52), 3, 0, 0, 0, 0), (0, 0, 0))] (by decide +kernel) rfl ?_
        exact hx_pick [0, 1, 2, 3] (h3 c1 c2 c3)
      · have c3 : (m 87 (gx_w ((gx_w (480 + (gx_w (16 * x1)))) + x3)).toNat) = x2 := by have h : ¬ ((m 87 (gx_w ((gx_w (480 + (gx_w (16 * x1)))) + x3)).toNat) ≠ x2) := c3; omega
        refine hx_blk (npc := 50) (L' := [(0, .inr (.inl 86)), (1, .inl x1), (2, .inl x2), (3, .inl x3)]) (st' := [.inl 1]) (m' := m) [((49, .iconst 1, 1, 0, 0, 0, 0), (0, 0, 0))] (by decide +kernel) rfl ?_
        exact hx_reti (by decide +kernel) (h4 c1 c2 c3)

/-- hadBy from 0 on -/
theorem hr219_0 {xs : List Int32} {n : Nat} {Q : hQ} {m : gx_M} {x1 : Int}
    (h1 : hxn xs n yp_m219 4 [(0, .inr (.inl 86)), (1, .inl x1), (2, .inl 0), (3, .inl 0)] [] m Q) : hxn xs (n + 1) yp_m219 0 [(0, .inr (.inl 86)), (1, .inl x1)] [] m Q := by
  refine hx_blks (npc := 4) (L' := [(0, .inr (.inl 86)), (1, .inl x1), (2, .inl 0), (3, .inl 0)]) (st' := []) (m' := m) ((0, .iconst 0, 1, 0, 0, 0, 0), (0, 0, 0)) [((1, .istore_n 2, 1, 0, 0, 0, 0), (0, 0, 0)), ((2, .iconst 0, 1, 0, 0, 0, 0), (0, 0, 0)), ((3, .istore_n 3, 1, 0, 0, 0, 0), (0, 0, 0))] (by decide +kernel) rfl ?_
  exact hx_pick [0, 1, 2, 3] h1

/-- hadBy from 4 on -/
theorem hr219_4 {xs : List Int32} {n : Nat} {Q : hQ} {m : gx_M} {x1 x2 x3 : Int}
    (h1 : (40 ≤ x3) → Q (some (.inl x2)) m)
    (h2 : (x3 < 40) → hxn xs n yp_m220 0 [(0, .inr (.inl 86)), (1, .inl x3), (2, .inl x1)] [] m (fun r m' => hxn xs n yp_m219 17 [(0, .inr (.inl 86)), (1, .inl x1), (3, .inl x3)] (hrs r ++ [.inl x2]) m' Q)) : hxn xs (n + 1) yp_m219 4 [(0, .inr (.inl 86)), (1, .inl x1), (2, .inl x2), (3, .inl x3)] [] m Q := by
  refine hx_blks (npc := 7) (L' := [(0, .inr (.inl 86)), (1, .inl x1), (2, .inl x2), (3, .inl x3)]) (st' := [.inl 40, .inl x3]) (m' := m) ((4, .iload_n 3, 1, 0, 0, 0, 0), (0, 0, 0)) [((5, .bipush 40, 2, 0, 0, 0, 0), (0, 0, 0))] (by decide +kernel) rfl ?_
  refine hx_cmp .ge 33 (by decide +kernel) (fun c1 => ?_) (fun c1 => ?_)
  · have c1 : 40 ≤ x3 := c1
    refine hx_blk (npc := 34) (L' := [(0, .inr (.inl 86)), (1, .inl x1), (2, .inl x2), (3, .inl x3)]) (st' := [.inl x2]) (m' := m) [((33, .iload_n 2, 1, 0, 0, 0, 0), (0, 0, 0))] (by decide +kernel) rfl ?_
    exact hx_reti (by decide +kernel) (h1 c1)
  · have c1 : x3 < 40 := by have h : ¬ (40 ≤ x3) := c1; omega
    refine hx_blk (npc := 14) (L' := [(0, .inr (.inl 86)), (1, .inl x1), (2, .inl x2), (3, .inl x3)]) (st' := [.inl x1, .inl x3, .inr (.inl 86), .inl x2]) (m' := m) [((10, .iload_n 2, 1, 0, 0, 0, 0), (0, 0, 0)), ((11, .aload_n 0, 1, 0, 0, 0, 0), (0, 0, 0)), ((12, .iload_n 3, 1, 0, 0, 0, 0), (0, 0, 0)), ((13, .iload_n 1, 1, 0, 0, 0, 0), (0, 0, 0))] (by decide +kernel) rfl ?_
    exact hx_call (E := (14, .invokevirtual 303, 3, 220, 0, 7008, 0)) (M' := yp_m220) [.inr (.inl 86), .inl x3, .inl x1] [.inl x2] rfl (by decide +kernel) rfl ⟨rfl, rfl⟩ rfl rfl (hx_mono (h2 c1) (fun r m' h' => hx_pick [0, 1, 3] h'))

/-- hadBy from 17 on -/
theorem hr219_17 {xs : List Int32} {n : Nat} {Q : hQ} {m : gx_M} {x1 x3 s0 s1 : Int}
    (h1 : (s1 = 0) → hxn xs n yp_m219 4 [(0, .inr (.inl 86)), (1, .inl x1), (2, .inl (gx_w (s0 + 0))), (3, .inl (gx_w (x3 + 1)))] [] m Q)
    (h2 : (s1 ≠ 0) → hxn xs n yp_m219 4 [(0, .inr (.inl 86)), (1, .inl x1), (2, .inl (gx_w (s0 + 1))), (3, .inl (gx_w (x3 + 1)))] [] m Q) : hxn xs (n + 1) yp_m219 17 [(0, .inr (.inl 86)), (1, .inl x1), (3, .inl x3)] [.inl s1, .inl s0] m Q := by
  refine hx_ifs .eq 24 (by decide +kernel) (fun c1 => ?_) (fun c1 => ?_)
  · have c1 : s1 = 0 := c1
    refine hx_blk (npc := 4) (L' := [(0, .inr (.inl 86)), (1, .inl x1), (3, .inl (gx_w (x3 + 1))), (2, .inl (gx_w (s0 + 0)))]) (st' := []) (m' := m) [((24, .iconst 0, 1, 0, 0, 0, 0), (0, 0, 0)), ((25, .iadd, 1, 0, 0, 0, 0), (0, 0, 0)), ((26, .istore_n 2, 1, 0, 0, 0, 0), (0, 0, 0)), ((27, .iinc 3 1, 3, 0, 0, 0, 0), (0, 0, 0)), ((30, .goto (-26), 3, 0, 0, 0, 0), (0, 0, 0))] (by decide +kernel) rfl ?_
    exact hx_pick [0, 1, 2, 3] (h1 c1)
  · have c1 : s1 ≠ 0 := c1
    refine hx_blk (npc := 4) (L' := [(0, .inr (.inl 86)), (1, .inl x1), (3, .inl (gx_w (x3 + 1))), (2, .inl (gx_w (s0 + 1)))]) (st' := []) (m' := m) [((20, .iconst 1, 1, 0, 0, 0, 0), (0, 0, 0)), ((21, .goto 4, 3, 0, 0, 0, 0), (0, 0, 0)), ((25, .iadd, 1, 0, 0, 0, 0), (0, 0, 0)), ((26, .istore_n 2, 1, 0, 0, 0, 0), (0, 0, 0)), ((27, .iinc 3 1, 3, 0, 0, 0, 0), (0, 0, 0)), ((30, .goto (-26), 3, 0, 0, 0, 0), (0, 0, 0))] (by decide +kernel) rfl ?_
    exact hx_pick [0, 1, 2, 3] (h2 c1)

/-- heldBy from 0 on -/
theorem hr221_0 {xs : List Int32} {n : Nat} {Q : hQ} {m : gx_M} {x1 : Int}
    (h1 : hxn xs n yp_m221 4 [(0, .inr (.inl 86)), (1, .inl x1), (2, .inl 0), (3, .inl 0)] [] m Q) : hxn xs (n + 1) yp_m221 0 [(0, .inr (.inl 86)), (1, .inl x1)] [] m Q := by
  refine hx_blks (npc := 4) (L' := [(0, .inr (.inl 86)), (1, .inl x1), (2, .inl 0), (3, .inl 0)]) (st' := []) (m' := m) ((0, .iconst 0, 1, 0, 0, 0, 0), (0, 0, 0)) [((1, .istore_n 2, 1, 0, 0, 0, 0), (0, 0, 0)), ((2, .iconst 0, 1, 0, 0, 0, 0), (0, 0, 0)), ((3, .istore_n 3, 1, 0, 0, 0, 0), (0, 0, 0))] (by decide +kernel) rfl ?_
  exact hx_pick [0, 1, 2, 3] h1

/-- heldBy from 4 on -/
theorem hr221_4 {xs : List Int32} {n : Nat} {Q : hQ} {m : gx_M} {x1 x2 x3 : Int}
    (h1 : (40 ≤ x3) → Q (some (.inl x2)) m)
    (h2 : (x3 < 40) → (aYr (m 87) x3) → ((m 87 (gx_w (280 + x3)).toNat) ≠ x1) → hxn xs n yp_m221 4 [(0, .inr (.inl 86)), (1, .inl x1), (2, .inl (gx_w (x2 + 0))), (3, .inl (gx_w (x3 + 1)))] [] m Q)
    (h3 : (x3 < 40) → (aYr (m 87) x3) → ((m 87 (gx_w (280 + x3)).toNat) = x1) → hxn xs n yp_m221 4 [(0, .inr (.inl 86)), (1, .inl x1), (2, .inl (gx_w (x2 + 1))), (3, .inl (gx_w (x3 + 1)))] [] m Q)
    (h4 : (x3 < 40) → (¬ (aYr (m 87) x3)) → hxn xs n yp_m221 4 [(0, .inr (.inl 86)), (1, .inl x1), (2, .inl (gx_w (x2 + 0))), (3, .inl (gx_w (x3 + 1)))] [] m Q) : hxn xs (n + 1) yp_m221 4 [(0, .inr (.inl 86)), (1, .inl x1), (2, .inl x2), (3, .inl x3)] [] m Q := by
  refine hx_blks (npc := 7) (L' := [(0, .inr (.inl 86)), (1, .inl x1), (2, .inl x2), (3, .inl x3)]) (st' := [.inl 40, .inl x3]) (m' := m) ((4, .iload_n 3, 1, 0, 0, 0, 0), (0, 0, 0)) [((5, .bipush 40, 2, 0, 0, 0, 0), (0, 0, 0))] (by decide +kernel) rfl ?_
  refine hx_cmp .ge 46 (by decide +kernel) (fun c1 => ?_) (fun c1 => ?_)
  · have c1 : 40 ≤ x3 := c1
    refine hx_blk (npc := 47) (L' := [(0, .inr (.inl 86)), (1, .inl x1), (2, .inl x2), (3, .inl x3)]) (st' := [.inl x2]) (m' := m) [((46, .iload_n 2, 1, 0, 0, 0, 0), (0, 0, 0))] (by decide +kernel) rfl ?_
    exact hx_reti (by decide +kernel) (h1 c1)
  · have c1 : x3 < 40 := by have h : ¬ (40 ≤ x3) := c1; omega
    refine hx_blk (npc := 13) (L' := [(0, .inr (.inl 86)), (1, .inl x1), (2, .inl x2), (3, .inl x3)]) (st' := [.inl x3, .inr (.inl 86), .inl x2]) (m' := m) [((10, .iload_n 2, 1, 0, 0, 0, 0), (0, 0, 0)), ((11, .aload_n 0, 1, 0, 0, 0, 0), (0, 0, 0)), ((12, .iload_n 3, 1, 0, 0, 0, 0), (0, 0, 0))] (by decide +kernel) rfl ?_
    refine hx_call (E := (13, .invokevirtual 269, 3, 196, 0, 6156, 0)) (M' := yp_m196) [.inr (.inl 86), .inl x3] [.inl x2] rfl (by decide +kernel) rfl ⟨rfl, rfl⟩ rfl rfl (hs196 (fun c2 => ?_) (fun c2 => ?_))
    · have c2 : aYr (m 87) x3 := c2
      show hxn xs n yp_m221 16 [(0, .inr (.inl 86)), (1, .inl x1), (2, .inl x2), (3, .inl x3)] [.inl 1, .inl x2] m Q
      refine hx_if .eq 37 (by decide +kernel) (fun c3 => ?_) (fun c3 => ?_)
      · have c3 : (1 : Int) = 0 := c3
        exfalso; omega
      · have c3 : (1 : Int) ≠ 0 := c3
        refine hx_blk (npc := 30) (L' := [(0, .inr (.inl 86)), (1, .inl x1), (2, .inl x2), (3, .inl x3)]) (st' := [.inl x1, .inl (m 87 (gx_w (280 + x3)).toNat), .inl x2]) (m' := m) [((19, .aload_n 0, 1, 0, 0, 0, 0), (0, 0, 0)), ((20, .getfield 7, 3, 10, 0, 5113, 0), (1, 86, 87)), ((23, .sipush 280, 3, 0, 0, 0, 0), (0, 0, 0)), ((26, .iload_n 3, 1, 0, 0, 0, 0), (0, 0, 0)), ((27, .iadd, 1, 0, 0, 0, 0), (0, 0, 0)), ((28, .iaload, 1, 0, 0, 0, 0), (0, 87, 0)), ((29, .iload_n 1, 1, 0, 0, 0, 0), (0, 0, 0))] (by decide +kernel) rfl ?_
        refine hx_cmp .ne 37 (by decide +kernel) (fun c3 => ?_) (fun c3 => ?_)
        · have c3 : (m 87 (gx_w (280 + x3)).toNat) ≠ x1 := c3
          refine hx_blk (npc := 4) (L' := [(0, .inr (.inl 86)), (1, .inl x1), (2, .inl (gx_w (x2 + 0))), (3, .inl (gx_w (x3 + 1)))]) (st' := []) (m' := m) [((37, .iconst 0, 1, 0, 0, 0, 0), (0, 0, 0)), ((38, .iadd, 1, 0, 0, 0, 0), (0, 0, 0)), ((39, .istore_n 2, 1, 0, 0, 0, 0), (0, 0, 0)), ((40, .iinc 3 1, 3, 0, 0, 0, 0), (0, 0, 0)), ((43, .goto (-39), 3, 0, 0, 0, 0), (0, 0, 0))] (by decide +kernel) rfl ?_
          exact hx_pick [0, 1, 2, 3] (h2 c1 c2 c3)
        · have c3 : (m 87 (gx_w (280 + x3)).toNat) = x1 := by have h : ¬ ((m 87 (gx_w (280 + x3)).toNat) ≠ x1) := c3; omega
          refine hx_blk (npc := 4) (L' := [(0, .inr (.inl 86)), (1, .inl x1), (2, .inl (gx_w (x2 + 1))), (3, .inl (gx_w (x3 + 1)))]) (st' := []) (m' := m) [((33, .iconst 1, 1, 0, 0, 0, 0), (0, 0, 0)), ((34, .goto 4, 3, 0, 0, 0, 0), (0, 0, 0)), ((38, .iadd, 1, 0, 0, 0, 0), (0, 0, 0)), ((39, .istore_n 2, 1, 0, 0, 0, 0), (0, 0, 0)), ((40, .iinc 3 1, 3, 0, 0, 0, 0), (0, 0, 0)), ((43, .goto (-39), 3, 0, 0, 0, 0), (0, 0, 0))] (by decide +kernel) rfl ?_
          exact hx_pick [0, 1, 2, 3] (h3 c1 c2 c3)
    · have c2 : ¬ (aYr (m 87) x3) := c2
      show hxn xs n yp_m221 16 [(0, .inr (.inl 86)), (1, .inl x1), (2, .inl x2), (3, .inl x3)] [.inl 0, .inl x2] m Q
      refine hx_if .eq 37 (by decide +kernel) (fun c3 => ?_) (fun c3 => ?_)
      · have c3 : (0 : Int) = 0 := c3
        refine hx_blk (npc := 4) (L' := [(0, .inr (.inl 86)), (1, .inl x1), (2, .inl (gx_w (x2 + 0))), (3, .inl (gx_w (x3 + 1)))]) (st' := []) (m' := m) [((37, .iconst 0, 1, 0, 0, 0, 0), (0, 0, 0)), ((38, .iadd, 1, 0, 0, 0, 0), (0, 0, 0)), ((39, .istore_n 2, 1, 0, 0, 0, 0), (0, 0, 0)), ((40, .iinc 3 1, 3, 0, 0, 0, 0), (0, 0, 0)), ((43, .goto (-39), 3, 0, 0, 0, 0), (0, 0, 0))] (by decide +kernel) rfl ?_
        exact hx_pick [0, 1, 2, 3] (h4 c1 c2)
      · have c3 : (0 : Int) ≠ 0 := c3
        exfalso; omega

/-- personIs from 0 on -/
theorem hr218_0 {xs : List Int32} {n : Nat} {Q : hQ} {m : gx_M} {x1 x2 : Int}
    (h1 : (aPers (m 87) x1) → (x2 = 0) → Q (some (.inl (m 87 (gx_w (1120 + x1)).toNat))) m)
    (h2 : (aPers (m 87) x1) → (x2 ≠ 0) → (x2 = 1) → hxn xs n yp_m204 0 [(0, .inr (.inl 86)), (1, .inl x1)] [] m (fun r m' => hxn xs n yp_m218 60 [] (hrs r ++ []) m' Q))
    (h3 : (aPers (m 87) x1) → (x2 ≠ 0) → (x2 ≠ 1) → (x2 = 2) → hxn xs n yp_m207 0 [(0, .inr (.inl 86)), (1, .inl x1), (2, .inl (-1))] [] m (fun r m' => hxn xs n yp_m218 67 [] (hrs r ++ []) m' Q))
    (h4 : (aPers (m 87) x1) → (x2 ≠ 0) → (x2 ≠ 1) → (x2 ≠ 2) → (x2 = 3) → hxn xs n yp_m219 0 [(0, .inr (.inl 86)), (1, .inl x1)] [] m (fun r m' => hxn xs n yp_m218 73 [] (hrs r ++ []) m' Q))
    (h5 : (aPers (m 87) x1) → (x2 ≠ 0) → (x2 ≠ 1) → (x2 ≠ 2) → (x2 ≠ 3) → (x2 = 4) → hxn xs n yp_m221 0 [(0, .inr (.inl 86)), (1, .inl x1)] [] m (fun r m' => hxn xs n yp_m218 79 [] (hrs r ++ []) m' Q))
    (h6 : (aPers (m 87) x1) → (x2 ≠ 0) → (x2 ≠ 1) → (x2 ≠ 2) → (x2 ≠ 3) → (x2 ≠ 4) → Q (some (.inl (-1))) m)
    (h7 : (¬ (aPers (m 87) x1)) → Q (some (.inl (-1))) m) : hxn xs (n + 1) yp_m218 0 [(0, .inr (.inl 86)), (1, .inl x1), (2, .inl x2)] [] m Q := by
  refine hx_blks (npc := 2) (L' := [(0, .inr (.inl 86)), (1, .inl x1), (2, .inl x2)]) (st' := [.inl x1, .inr (.inl 86)]) (m' := m) ((0, .aload_n 0, 1, 0, 0, 0, 0), (0, 0, 0)) [((1, .iload_n 1, 1, 0, 0, 0, 0), (0, 0, 0))] (by decide +kernel) rfl ?_
  refine hx_call (E := (2, .invokevirtual 113, 3, 164, 0, 6031, 0)) (M' := yp_m164) [.inr (.inl 86), .inl x1] [] rfl (by decide +kernel) rfl ⟨rfl, rfl⟩ rfl rfl (hs164 (fun c1 => ?_) (fun c1 => ?_))
  · have c1 : aPers (m 87) x1 := c1
    show hxn xs n yp_m218 5 [(0, .inr (.inl 86)), (1, .inl x1), (2, .inl x2)] [.inl 1] m Q
    refine hx_if .ne 10 (by decide +kernel) (fun c2 => ?_) (fun c2 => ?_)
    · have c2 : (1 : Int) ≠ 0 := c2
      refine hx_blk (npc := 11) (L' := [(0, .inr (.inl 86)), (1, .inl x1), (2, .inl x2)]) (st' := [.inl x2]) (m' := m) [((10, .iload_n 2, 1, 0, 0, 0, 0), (0, 0, 0))] (by decide +kernel) rfl ?_
      refine hx_tsw 80 [(0, 44), (1, 55), (2, 61), (3, 68), (4, 74)] (by decide +kernel) ?_
      refine hsw_c (fun c2 => ?_) (fun c2 => ?_)
      · have c2 : x2 = 0 := c2
        refine hx_blk (npc := 54) (L' := [(0, .inr (.inl 86)), (1, .inl x1), (2, .inl x2)]) (st' := [.inl (m 87 (gx_w (1120 + x1)).toNat)]) (m' := m) [((44, .aload_n 0, 1, 0, 0, 0, 0), (0, 0, 0)), ((45, .getfield 7, 3, 10, 0, 5113, 0), (1, 86, 87)), ((48, .sipush 1120, 3, 0, 0, 0, 0), (0, 0, 0)), ((51, .iload_n 1, 1, 0, 0, 0, 0), (0, 0, 0)), ((52, .iadd, 1, 0, 0, 0, 0), (0, 0, 0)), ((53, .iaload, 1, 0, 0, 0, 0), (0, 87, 0))] (by decide +kernel) rfl ?_
        exact hx_reti (by decide +kernel) (h1 c1 c2)
      refine hsw_c (fun c3 => ?_) (fun c3 => ?_)
      · have c3 : x2 = 1 := c3
        refine hx_blk (npc := 57) (L' := [(0, .inr (.inl 86)), (1, .inl x1), (2, .inl x2)]) (st' := [.inl x1, .inr (.inl 86)]) (m' := m) [((55, .aload_n 0, 1, 0, 0, 0, 0), (0, 0, 0)), ((56, .iload_n 1, 1, 0, 0, 0, 0), (0, 0, 0))] (by decide +kernel) rfl ?_
        exact hx_call (E := (57, .invokevirtual 235, 3, 204, 0, 6187, 0)) (M' := yp_m204) [.inr (.inl 86), .inl x1] [] rfl (by decide +kernel) rfl ⟨rfl, rfl⟩ rfl rfl (hx_mono (h2 c1 c2 c3) (fun r m' h' => hx_pick [] h'))
      refine hsw_c (fun c4 => ?_) (fun c4 => ?_)
      · have c4 : x2 = 2 := c4
        refine hx_blk (npc := 64) (L' := [(0, .inr (.inl 86)), (1, .inl x1), (2, .inl x2)]) (st' := [.inl (-1), .inl x1, .inr (.inl 86)]) (m' := m) [((61, .aload_n 0, 1, 0, 0, 0, 0), (0, 0, 0)), ((62, .iload_n 1, 1, 0, 0, 0, 0), (0, 0, 0)), ((63, .iconst (-1), 1, 0, 0, 0, 0), (0, 0, 0))] (by decide +kernel) rfl ?_
        exact hx_call (E := (64, .invokevirtual 244, 3, 207, 0, 6198, 0)) (M' := yp_m207) [.inr (.inl 86), .inl x1, .inl (-1)] [] rfl (by decide +kernel) rfl ⟨rfl, rfl⟩ rfl rfl (hx_mono (h3 c1 c2 c3 c4) (fun r m' h' => hx_pick [] h'))
      refine hsw_c (fun c5 => ?_) (fun c5 => ?_)
      · have c5 : x2 = 3 := c5
        refine hx_blk (npc := 70) (L' := [(0, .inr (.inl 86)), (1, .inl x1), (2, .inl x2)]) (st' := [.inl x1, .inr (.inl 86)]) (m' := m) [((68, .aload_n 0, 1, 0, 0, 0, 0), (0, 0, 0)), ((69, .iload_n 1, 1, 0, 0, 0, 0), (0, 0, 0))] (by decide +kernel) rfl ?_
        exact hx_call (E := (70, .invokevirtual 306, 3, 219, 0, 7004, 0)) (M' := yp_m219) [.inr (.inl 86), .inl x1] [] rfl (by decide +kernel) rfl ⟨rfl, rfl⟩ rfl rfl (hx_mono (h4 c1 c2 c3 c4 c5) (fun r m' h' => hx_pick [] h'))
      refine hsw_c (fun c6 => ?_) (fun c6 => ?_)
      · have c6 : x2 = 4 := c6
        refine hx_blk (npc := 76) (L' := [(0, .inr (.inl 86)), (1, .inl x1), (2, .inl x2)]) (st' := [.inl x1, .inr (.inl 86)]) (m' := m) [((74, .aload_n 0, 1, 0, 0, 0, 0), (0, 0, 0)), ((75, .iload_n 1, 1, 0, 0, 0, 0), (0, 0, 0))] (by decide +kernel) rfl ?_
        exact hx_call (E := (76, .invokevirtual 309, 3, 221, 0, 7012, 0)) (M' := yp_m221) [.inr (.inl 86), .inl x1] [] rfl (by decide +kernel) rfl ⟨rfl, rfl⟩ rfl rfl (hx_mono (h5 c1 c2 c3 c4 c5 c6) (fun r m' h' => hx_pick [] h'))
      refine hsw_n ?_
      refine hx_blk (npc := 81) (L' := [(0, .inr (.inl 86)), (1, .inl x1), (2, .inl x2)]) (st' := [.inl (-1)]) (m' := m) [((80, .iconst (-1), 1, 0, 0, 0, 0), (0, 0, 0))] (by decide +kernel) rfl ?_
      exact hx_reti (by decide +kernel) (h6 c1 c2 c3 c4 c5 c6)
    · have c2 : (1 : Int) = 0 := by have h : ¬ ((1 : Int) ≠ 0) := c2; omega
      exfalso; omega
  · have c1 : ¬ (aPers (m 87) x1) := c1
    show hxn xs n yp_m218 5 [(0, .inr (.inl 86)), (1, .inl x1), (2, .inl x2)] [.inl 0] m Q
    refine hx_if .ne 10 (by decide +kernel) (fun c2 => ?_) (fun c2 => ?_)
    · have c2 : (0 : Int) ≠ 0 := c2
      exfalso; omega
    · have c2 : (0 : Int) = 0 := by have h : ¬ ((0 : Int) ≠ 0) := c2; omega
      refine hx_blk (npc := 9) (L' := [(0, .inr (.inl 86)), (1, .inl x1), (2, .inl x2)]) (st' := [.inl (-1)]) (m' := m) [((8, .iconst (-1), 1, 0, 0, 0, 0), (0, 0, 0))] (by decide +kernel) rfl ?_
      exact hx_reti (by decide +kernel) (h7 c1)

/-- personIs from 60 on -/
theorem hr218_60 {xs : List Int32} {n : Nat} {Q : hQ} {m : gx_M} {s0 : Int}
    (h1 : Q (some (.inl s0)) m) : hxn xs (n + 1) yp_m218 60 [] [.inl s0] m Q := by
  exact hx_reti (by decide +kernel) h1

/-- personIs from 67 on -/
theorem hr218_67 {xs : List Int32} {n : Nat} {Q : hQ} {m : gx_M} {s0 : Int}
    (h1 : Q (some (.inl s0)) m) : hxn xs (n + 1) yp_m218 67 [] [.inl s0] m Q := by
  exact hx_reti (by decide +kernel) h1

/-- personIs from 73 on -/
theorem hr218_73 {xs : List Int32} {n : Nat} {Q : hQ} {m : gx_M} {s0 : Int}
    (h1 : Q (some (.inl s0)) m) : hxn xs (n + 1) yp_m218 73 [] [.inl s0] m Q := by
  exact hx_reti (by decide +kernel) h1

/-- personIs from 79 on -/
theorem hr218_79 {xs : List Int32} {n : Nat} {Q : hQ} {m : gx_M} {s0 : Int}
    (h1 : Q (some (.inl s0)) m) : hxn xs (n + 1) yp_m218 79 [] [.inl s0] m Q := by
  exact hx_reti (by decide +kernel) h1

/-- years from 0 on -/
theorem hr222_0 {xs : List Int32} {n : Nat} {Q : hQ} {m : gx_M} {x1 x2 : Int}
    (h1 : (aPers (m 87) x1) → (0 ≤ x2 ∧ x2 ≤ 3) → hxn xs n yp_m222 24 [(0, .inr (.inl 86)), (1, .inl x1), (2, .inl x2), (3, .inl 0), (4, .inl 0)] [] m Q)
    (h2 : (aPers (m 87) x1) → (¬ (0 ≤ x2 ∧ x2 ≤ 3)) → Q (some (.inl (-1))) m)
    (h3 : (¬ (aPers (m 87) x1)) → Q (some (.inl (-1))) m) : hxn xs (n + 1) yp_m222 0 [(0, .inr (.inl 86)), (1, .inl x1), (2, .inl x2)] [] m Q := by
  refine hx_blks (npc := 2) (L' := [(0, .inr (.inl 86)), (1, .inl x1), (2, .inl x2)]) (st' := [.inl x1, .inr (.inl 86)]) (m' := m) ((0, .aload_n 0, 1, 0, 0, 0, 0), (0, 0, 0)) [((1, .iload_n 1, 1, 0, 0, 0, 0), (0, 0, 0))] (by decide +kernel) rfl ?_
  refine hx_call (E := (2, .invokevirtual 113, 3, 164, 0, 6031, 0)) (M' := yp_m164) [.inr (.inl 86), .inl x1] [] rfl (by decide +kernel) rfl ⟨rfl, rfl⟩ rfl rfl (hs164 (fun c1 => ?_) (fun c1 => ?_))
  · have c1 : aPers (m 87) x1 := c1
    show hxn xs n yp_m222 5 [(0, .inr (.inl 86)), (1, .inl x1), (2, .inl x2)] [.inl 1] m Q
    refine hx_if .eq 17 (by decide +kernel) (fun c2 => ?_) (fun c2 => ?_)
    · have c2 : (1 : Int) = 0 := c2
      exfalso; omega
    · have c2 : (1 : Int) ≠ 0 := c2
      refine hx_blk (npc := 11) (L' := [(0, .inr (.inl 86)), (1, .inl x1), (2, .inl x2)]) (st' := [.inl 3, .inl 0, .inl x2]) (m' := m) [((8, .iload_n 2, 1, 0, 0, 0, 0), (0, 0, 0)), ((9, .iconst 0, 1, 0, 0, 0, 0), (0, 0, 0)), ((10, .iconst 3, 1, 0, 0, 0, 0), (0, 0, 0))] (by decide +kernel) rfl ?_
      refine hx_call (E := (11, .invokestatic 108, 3, 162, 0, 6023, 0)) (M' := yp_m162) [.inl x2, .inl 0, .inl 3] [] rfl (by decide +kernel) rfl ⟨rfl, rfl⟩ rfl rfl (hs162 (fun c2 => ?_) (fun c2 => ?_))
      · have c2 : 0 ≤ x2 ∧ x2 ≤ 3 := c2
        show hxn xs n yp_m222 14 [(0, .inr (.inl 86)), (1, .inl x1), (2, .inl x2)] [.inl 1] m Q
        refine hx_if .ne 19 (by decide +kernel) (fun c3 => ?_) (fun c3 => ?_)
        · have c3 : (1 : Int) ≠ 0 := c3
          refine hx_blk (npc := 24) (L' := [(0, .inr (.inl 86)), (1, .inl x1), (2, .inl x2), (3, .inl 0), (4, .inl 0)]) (st' := []) (m' := m) [((19, .iconst 0, 1, 0, 0, 0, 0), (0, 0, 0)), ((20, .istore_n 3, 1, 0, 0, 0, 0), (0, 0, 0)), ((21, .iconst 0, 1, 0, 0, 0, 0), (0, 0, 0)), ((22, .istore 4, 2, 0, 0, 0, 0), (0, 0, 0))] (by decide +kernel) rfl ?_
          exact hx_pick [0, 1, 2, 3, 4] (h1 c1 c2)
        · have c3 : (1 : Int) = 0 := by have h : ¬ ((1 : Int) ≠ 0) := c3; omega
          exfalso; omega
      · have c2 : ¬ (0 ≤ x2 ∧ x2 ≤ 3) := c2
        show hxn xs n yp_m222 14 [(0, .inr (.inl 86)), (1, .inl x1), (2, .inl x2)] [.inl 0] m Q
        refine hx_if .ne 19 (by decide +kernel) (fun c3 => ?_) (fun c3 => ?_)
        · have c3 : (0 : Int) ≠ 0 := c3
          exfalso; omega
        · have c3 : (0 : Int) = 0 := by have h : ¬ ((0 : Int) ≠ 0) := c3; omega
          refine hx_blk (npc := 18) (L' := [(0, .inr (.inl 86)), (1, .inl x1), (2, .inl x2)]) (st' := [.inl (-1)]) (m' := m) [((17, .iconst (-1), 1, 0, 0, 0, 0), (0, 0, 0))] (by decide +kernel) rfl ?_
          exact hx_reti (by decide +kernel) (h2 c1 c2)
  · have c1 : ¬ (aPers (m 87) x1) := c1
    show hxn xs n yp_m222 5 [(0, .inr (.inl 86)), (1, .inl x1), (2, .inl x2)] [.inl 0] m Q
    refine hx_if .eq 17 (by decide +kernel) (fun c2 => ?_) (fun c2 => ?_)
    · have c2 : (0 : Int) = 0 := c2
      refine hx_blk (npc := 18) (L' := [(0, .inr (.inl 86)), (1, .inl x1), (2, .inl x2)]) (st' := [.inl (-1)]) (m' := m) [((17, .iconst (-1), 1, 0, 0, 0, 0), (0, 0, 0))] (by decide +kernel) rfl ?_
      exact hx_reti (by decide +kernel) (h3 c1)
    · have c2 : (0 : Int) ≠ 0 := c2
      exfalso; omega

/-- years from 24 on -/
theorem hr222_24 {xs : List Int32} {n : Nat} {Q : hQ} {m : gx_M} {x1 x2 x3 x4 : Int}
    (h1 : (20 ≤ x4) → Q (some (.inl x3)) m)
    (h2 : (x4 < 20) → (2 ≤ x2) → hxn xs n yp_m220 0 [(0, .inr (.inl 86)), (1, .inl (gx_w ((gx_w (20 * (Int.tmod x2 2))) + x4))), (2, .inl x1)] [] m (fun r m' => hxn xs n yp_m222 67 [(0, .inr (.inl 86)), (1, .inl x1), (2, .inl x2), (3, .inl x3), (4, .inl x4)] (hrs r ++ []) m' Q))
    (h3 : (x4 < 20) → (x2 < 2) → hxn xs n yp_m205 0 [(0, .inr (.inl 86)), (1, .inl (gx_w ((gx_w (20 * (Int.tmod x2 2))) + x4))), (2, .inl x1)] [] m (fun r m' => hxn xs n yp_m222 54 [(0, .inr (.inl 86)), (1, .inl x1), (2, .inl x2), (3, .inl x3), (4, .inl x4)] (hrs r ++ []) m' Q)) : hxn xs (n + 1) yp_m222 24 [(0, .inr (.inl 86)), (1, .inl x1), (2, .inl x2), (3, .inl x3), (4, .inl x4)] [] m Q := by
  refine hx_blks (npc := 28) (L' := [(0, .inr (.inl 86)), (1, .inl x1), (2, .inl x2), (3, .inl x3), (4, .inl x4)]) (st' := [.inl 20, .inl x4]) (m' := m) ((24, .iload 4, 2, 0, 0, 0, 0), (0, 0, 0)) [((26, .bipush 20, 2, 0, 0, 0, 0), (0, 0, 0))] (by decide +kernel) rfl ?_
  refine hx_cmp .ge 83 (by decide +kernel) (fun c1 => ?_) (fun c1 => ?_)
  · have c1 : 20 ≤ x4 := c1
    refine hx_blk (npc := 84) (L' := [(0, .inr (.inl 86)), (1, .inl x1), (2, .inl x2), (3, .inl x3), (4, .inl x4)]) (st' := [.inl x3]) (m' := m) [((83, .iload_n 3, 1, 0, 0, 0, 0), (0, 0, 0))] (by decide +kernel) rfl ?_
    exact hx_reti (by decide +kernel) (h1 c1)
  · have c1 : x4 < 20 := by have h : ¬ (20 ≤ x4) := c1; omega
    refine hx_blk (npc := 44) (L' := [(0, .inr (.inl 86)), (1, .inl x1), (2, .inl x2), (3, .inl x3), (4, .inl x4), (5, .inl (gx_w ((gx_w (20 * (Int.tmod x2 2))) + x4)))]) (st' := [.inl 2, .inl x2]) (m' := m) [((31, .bipush 20, 2, 0, 0, 0, 0), (0, 0, 0)), ((33, .iload_n 2, 1, 0, 0, 0, 0), (0, 0, 0)), ((34, .iconst 2, 1, 0, 0, 0, 0), (0, 0, 0)), ((35, .irem, 1, 0, 0, 0, 0), (0, 0, 0)), ((36, .imul, 1, 0, 0, 0, 0), (0, 0, 0)), ((37, .iload 4, 2, 0, 0, 0, 0), (0, 0, 0)), ((39, .iadd, 1, 0, 0, 0, 0), (0, 0, 0)), ((40, .istore 5, 2, 0, 0, 0, 0), (0, 0, 0)), ((42, .iload_n 2, 1, 0, 0, 0, 0), (0, 0, 0)), ((43, .iconst 2, 1, 0, 0, 0, 0), (0, 0, 0))] (by decide +kernel) rfl ?_
    refine hx_cmp .ge 60 (by decide +kernel) (fun c2 => ?_) (fun c2 => ?_)
    · have c2 : 2 ≤ x2 := c2
      refine hx_blk (npc := 64) (L' := [(0, .inr (.inl 86)), (1, .inl x1), (2, .inl x2), (3, .inl x3), (4, .inl x4), (5, .inl (gx_w ((gx_w (20 * (Int.tmod x2 2))) + x4)))]) (st' := [.inl x1, .inl (gx_w ((gx_w (20 * (Int.tmod x2 2))) + x4)), .inr (.inl 86)]) (m' := m) [((60, .aload_n 0, 1, 0, 0, 0, 0), (0, 0, 0)), ((61, .iload 5, 2, 0, 0, 0, 0), (0, 0, 0)), ((63, .iload_n 1, 1, 0, 0, 0, 0), (0, 0, 0))] (by decide +kernel) rfl ?_
      exact hx_call (E := (64, .invokevirtual 303, 3, 220, 0, 7008, 0)) (M' := yp_m220) [.inr (.inl 86), .inl (gx_w ((gx_w (20 * (Int.tmod x2 2))) + x4)), .inl x1] [] rfl (by decide +kernel) rfl ⟨rfl, rfl⟩ rfl rfl (hx_mono (h2 c1 c2) (fun r m' h' => hx_pick [0, 1, 2, 3, 4] h'))
    · have c2 : x2 < 2 := by have h : ¬ (2 ≤ x2) := c2; omega
      refine hx_blk (npc := 51) (L' := [(0, .inr (.inl 86)), (1, .inl x1), (2, .inl x2), (3, .inl x3), (4, .inl x4), (5, .inl (gx_w ((gx_w (20 * (Int.tmod x2 2))) + x4)))]) (st' := [.inl x1, .inl (gx_w ((gx_w (20 * (Int.tmod x2 2))) + x4)), .inr (.inl 86)]) (m' := m) [((47, .aload_n 0, 1, 0, 0, 0, 0), (0, 0, 0)), ((48, .iload 5, 2, 0, 0, 0, 0), (0, 0, 0)), ((50, .iload_n 1, 1, 0, 0, 0, 0), (0, 0, 0))] (by decide +kernel) rfl ?_
      exact hx_call (E := (51, .invokevirtual 117, 3, 205, 0, 6191, 0)) (M' := yp_m205) [.inr (.inl 86), .inl (gx_w ((gx_w (20 * (Int.tmod x2 2))) + x4)), .inl x1] [] rfl (by decide +kernel) rfl ⟨rfl, rfl⟩ rfl rfl (hx_mono (h3 c1 c2) (fun r m' h' => hx_pick [0, 1, 2, 3, 4] h'))

/-- years from 54 on -/
theorem hr222_54 {xs : List Int32} {n : Nat} {Q : hQ} {m : gx_M} {x1 x2 x3 x4 s0 : Int}
    (h1 : (s0 = 0) → hxn xs n yp_m222 24 [(0, .inr (.inl 86)), (1, .inl x1), (2, .inl x2), (3, .inl x3), (4, .inl (gx_w (x4 + 1)))] [] m Q)
    (h2 : (s0 ≠ 0) → hxn xs n yp_m222 24 [(0, .inr (.inl 86)), (1, .inl x1), (2, .inl x2), (3, .inl (gx_or x3 (gx_shl 1 x4))), (4, .inl (gx_w (x4 + 1)))] [] m Q) : hxn xs (n + 1) yp_m222 54 [(0, .inr (.inl 86)), (1, .inl x1), (2, .inl x2), (3, .inl x3), (4, .inl x4)] [.inl s0] m Q := by
  refine hx_ifs .eq 77 (by decide +kernel) (fun c1 => ?_) (fun c1 => ?_)
  · have c1 : s0 = 0 := c1
    refine hx_blk (npc := 24) (L' := [(0, .inr (.inl 86)), (1, .inl x1), (2, .inl x2), (3, .inl x3), (4, .inl (gx_w (x4 + 1)))]) (st' := []) (m' := m) [((77, .iinc 4 1, 3, 0, 0, 0, 0), (0, 0, 0)), ((80, .goto (-56), 3, 0, 0, 0, 0), (0, 0, 0))] (by decide +kernel) rfl ?_
    exact hx_pick [0, 1, 2, 3, 4] (h1 c1)
  · have c1 : s0 ≠ 0 := c1
    refine hx_blk (npc := 24) (L' := [(0, .inr (.inl 86)), (1, .inl x1), (2, .inl x2), (3, .inl (gx_or x3 (gx_shl 1 x4))), (4, .inl (gx_w (x4 + 1)))]) (st' := []) (m' := m) [((57, .goto 13, 3, 0, 0, 0, 0), (0, 0, 0)), ((70, .iload_n 3, 1, 0, 0, 0, 0), (0, 0, 0)), ((71, .iconst 1, 1, 0, 0, 0, 0), (0, 0, 0)), ((72, .iload 4, 2, 0, 0, 0, 0), (0, 0, 0)), ((74, .ishl, 1, 0, 0, 0, 0), (0, 0, 0)), ((75, .ior, 1, 0, 0, 0, 0), (0, 0, 0)), ((76, .istore_n 3, 1, 0, 0, 0, 0), (0, 0, 0)), ((77, .iinc 4 1, 3, 0, 0, 0, 0), (0, 0, 0)), ((80, .goto (-56), 3, 0, 0, 0, 0), (0, 0, 0))] (by decide +kernel) rfl ?_
    exact hx_pick [0, 1, 2, 3, 4] (h2 c1)

/-- years from 67 on -/
theorem hr222_67 {xs : List Int32} {n : Nat} {Q : hQ} {m : gx_M} {x1 x2 x3 x4 s0 : Int}
    (h1 : (s0 = 0) → hxn xs n yp_m222 24 [(0, .inr (.inl 86)), (1, .inl x1), (2, .inl x2), (3, .inl x3), (4, .inl (gx_w (x4 + 1)))] [] m Q)
    (h2 : (s0 ≠ 0) → hxn xs n yp_m222 24 [(0, .inr (.inl 86)), (1, .inl x1), (2, .inl x2), (3, .inl (gx_or x3 (gx_shl 1 x4))), (4, .inl (gx_w (x4 + 1)))] [] m Q) : hxn xs (n + 1) yp_m222 67 [(0, .inr (.inl 86)), (1, .inl x1), (2, .inl x2), (3, .inl x3), (4, .inl x4)] [.inl s0] m Q := by
  refine hx_ifs .eq 77 (by decide +kernel) (fun c1 => ?_) (fun c1 => ?_)
  · have c1 : s0 = 0 := c1
    refine hx_blk (npc := 24) (L' := [(0, .inr (.inl 86)), (1, .inl x1), (2, .inl x2), (3, .inl x3), (4, .inl (gx_w (x4 + 1)))]) (st' := []) (m' := m) [((77, .iinc 4 1, 3, 0, 0, 0, 0), (0, 0, 0)), ((80, .goto (-56), 3, 0, 0, 0, 0), (0, 0, 0))] (by decide +kernel) rfl ?_
    exact hx_pick [0, 1, 2, 3, 4] (h1 c1)
  · have c1 : s0 ≠ 0 := c1
    refine hx_blk (npc := 24) (L' := [(0, .inr (.inl 86)), (1, .inl x1), (2, .inl x2), (3, .inl (gx_or x3 (gx_shl 1 x4))), (4, .inl (gx_w (x4 + 1)))]) (st' := []) (m' := m) [((70, .iload_n 3, 1, 0, 0, 0, 0), (0, 0, 0)), ((71, .iconst 1, 1, 0, 0, 0, 0), (0, 0, 0)), ((72, .iload 4, 2, 0, 0, 0, 0), (0, 0, 0)), ((74, .ishl, 1, 0, 0, 0, 0), (0, 0, 0)), ((75, .ior, 1, 0, 0, 0, 0), (0, 0, 0)), ((76, .istore_n 3, 1, 0, 0, 0, 0), (0, 0, 0)), ((77, .iinc 4 1, 3, 0, 0, 0, 0), (0, 0, 0)), ((80, .goto (-56), 3, 0, 0, 0, 0), (0, 0, 0))] (by decide +kernel) rfl ?_
    exact hx_pick [0, 1, 2, 3, 4] (h2 c1)
end
section
/-! who has had a year, who holds one: by both -/
def hAnyB (f : Nat → Bool) : Nat → Bool
  | 0 => false
  | k + 1 => hAnyB f k || f k
theorem hAnyB_iff {f : Nat → Bool} : ∀ {k : Nat}, hAnyB f k = true ↔ ∃ j, j < k ∧ f j = true
  | 0 => ⟨fun h => (nomatch h), fun ⟨j, h, _⟩ => absurd h (Nat.not_lt_zero _)⟩
  | k + 1 => by
    show (hAnyB f k || f k) = true ↔ _
    rw [Bool.or_eq_true, hAnyB_iff]
    constructor
    · rintro (⟨j, h1, h2⟩ | h)
      · exact ⟨j, by omega, h2⟩
      · exact ⟨k, by omega, h⟩
    · rintro ⟨j, h1, h2⟩
      by_cases e : j = k
      · subst e
        exact .inr h2
      · exact .inl ⟨j, by omega, h2⟩
theorem hAnyB_f {f : Nat → Bool} {k : Nat} (h : ∀ j, j < k → f j = false) : hAnyB f k = false := by
  rw [Bool.eq_false_iff]
  intro q
  obtain ⟨j, h1, h2⟩ := hAnyB_iff.mp q
  rw [h j h1] at h2
  cases h2
def aHad (s : Nat → Int) (p : Int) (y : Nat) : Bool := decide (s (440 + y) = 1) && hAnyB (fun k => decide (s (480 + (16 * y + k)) = p)) (s (400 + y)).toNat
def aHeld (s : Nat → Int) (p : Int) (y : Nat) : Bool := decide (s (440 + y) = 1) && decide (s (280 + y) = p)
def hgr (s : Nat → Int) (y : Nat) : Nat → Nat
  | 0 => 0
  | k + 1 => hgr s y k ||| 2 ^ (s (480 + (16 * y + k))).toNat
def hGr (s : Nat → Int) (y : Nat) : Nat := if s (440 + y) = 1 then hgr s y (s (400 + y)).toNat else 0
theorem p2_lt {P : Nat} (h : P < 8) : 2 ^ P < 256 := by
  have : P = 0 ∨ P = 1 ∨ P = 2 ∨ P = 3 ∨ P = 4 ∨ P = 5 ∨ P = 6 ∨ P = 7 := by omega
  rcases this with rfl | rfl | rfl | rfl | rfl | rfl | rfl | rfl <;> decide
section SH
variable {s : Nat → Int} {y : Nat}
theorem hgr_lt (hs : sOK s) (hy : y < 40) : ∀ k, k ≤ 16 → hgr s y k < 256
  | 0, _ => by show 0 < 256; decide
  | k + 1, hk => by
    have ih := hgr_lt hs hy k (by omega)
    have hh := hs.hand (16 * y + k) (by omega)
    exact Nat.or_lt_two_pow (n := 8) ih (p2_lt (by omega))
theorem hgr_bit (hs : sOK s) (hy : y < 40) {p : Nat} : ∀ k, k ≤ 16 → (hgr s y k).testBit p = hAnyB (fun k => decide (s (480 + (16 * y + k)) = (p : Int))) k
  | 0, _ => Nat.zero_testBit p
  | k + 1, hk => by
    have ih := hgr_bit hs hy (p := p) k (by omega)
    have hh := hs.hand (16 * y + k) (by omega)
    show (hgr s y k ||| 2 ^ (s (480 + (16 * y + k))).toNat).testBit p = (hAnyB (fun k => decide (s (480 + (16 * y + k)) = (p : Int))) k || decide (s (480 + (16 * y + k)) = (p : Int)))
    rw [Nat.testBit_or, ih, Nat.testBit_two_pow]
    congr 1
    exact decide_eq_decide.mpr ⟨fun e => by omega, fun e => by omega⟩
theorem hGr_lt (hs : sOK s) (hy : y < 40) : hGr s y < 256 := by
  have hm := hs.many y hy
  unfold hGr
  split
  · exact hgr_lt hs hy _ (by omega)
  · decide
theorem hGr_bit (hs : sOK s) (hy : y < 40) {p : Nat} : (hGr s y).testBit p = aHad s (p : Int) y := by
  have hm := hs.many y hy
  unfold hGr aHad
  split
  · rename_i h
    rw [decide_eq_true h, Bool.true_and]
    exact hgr_bit hs hy _ (by omega)
  · rename_i h
    rw [decide_eq_false h, Bool.false_and]
    exact Nat.zero_testBit p
theorem hGr_tst (hs : sOK s) (hy : y < 40) {p : Nat} (hp : p < 8) : gx_and (gx_shr ((hGr s y : Nat) : Int) (p : Int)) 1 = if aHad s (p : Int) y = true then 1 else 0 := by
  have := hGr_lt hs hy
  rw [hibit (by omega) (by omega), hGr_bit hs hy]
end SH
section SC
variable {xs : List Int32} {n : Nat} {Q : hQ} {s : Nat → Int} {m : gx_M} {Y : Nat}
theorem c77 (hs : sOK s) (hB : sBk 5 s m) (hY : Y < 40) (h : Q (some (.inl ((hGr s Y : Nat) : Int))) m) : hxn xs n yp_m77 0 [(0, .inr (.inl 5)), (1, .inl (Y : Int))] [] m Q := by
  have hm := hs.many Y hY
  unfold hGr at h
  refine hx_dn (hr77_0 (fun c => ?_) (fun c => ?_))
  · rw [if_pos ((cY_iff hB hY).mp c)] at h
    have hl := hloop (N := (s (400 + Y)).toNat) (P := fun k => hxn xs n yp_m77 14 [(0, .inr (.inl 5)), (1, .inl (Y : Int)), (2, .inl ((hgr s Y k : Nat) : Int)), (3, .inl (k : Int))] [] m Q) (hx_dn (hr77_14 (fun _ => h) (fun _ _ => h) (fun _ c => ?_))) (fun k hk ih => ?_) 0 (Nat.zero_le _)
    · exact hl
    · rw [Int.toNat_natCast, sB5_many hB Y hY] at c
      exact absurd c (by omega)
    · have hh := hs.hand (16 * Y + k) (by omega)
      have hg := hgr_lt hs hY k (by omega)
      have e2 := p2_lt (P := (s (480 + (16 * Y + k))).toNat) (by omega)
      refine hx_dn (hr77_14 (fun c => absurd c (by omega)) (fun _ c => ?_) (fun _ _ => ?_))
      · rw [Int.toNat_natCast, sB5_many hB Y hY] at c
        exact absurd c (by omega)
      · have ei : (gx_w ((gx_w ((Y : Int) * 16)) + (k : Int))).toNat = 16 * Y + k := by
          rw [gx_w_id (x := (Y : Int) * 16) (by omega) (by omega), gx_w_id (by omega) (by omega)]
          omega
        obtain ⟨H, hH⟩ : ∃ H : Nat, s (480 + (16 * Y + k)) = (H : Int) := ⟨(s (480 + (16 * Y + k))).toNat, by omega⟩
        have ih : hxn xs n yp_m77 14 [(0, .inr (.inl 5)), (1, .inl (Y : Int)), (2, .inl ((hgr s Y k ||| 2 ^ (s (480 + (16 * Y + k))).toNat : Nat) : Int)), (3, .inl ((k + 1 : Nat) : Int))] [] m Q := ih
        rw [hH, Int.toNat_natCast] at ih e2
        rw [ei, sB5_hand hB _ (by omega), hH, hshl_one H (by omega), hor_nat (by omega) (by omega), ew_u (by omega)]
        exact ih
  · rw [if_neg (fun q => c ((cY_iff hB hY).mpr q))] at h
    exact h
theorem c76 {p : Nat} (hp : p < 8) (hs : sOK s) (hB : sBk 5 s m) (h : Q (some (.inr (.inr ((hmask (aHad s (p : Int)) 40 : Nat) : Int)))) m) : hxn xs n yp_m76 0 [(0, .inr (.inl 5)), (1, .inl (p : Int))] [] m Q := by
  have hl := hloop (N := 40) (P := fun y => hxn xs n yp_m76 5 [(0, .inr (.inl 5)), (1, .inl (p : Int)), (2, .inr (.inr ((hmask (aHad s (p : Int)) y : Nat) : Int))), (4, .inl (y : Int))] [] m Q) (hx_dn (hr76_5 (fun _ => h) (fun c => absurd c (by decide)))) (fun y hy ih => ?_) 0 (Nat.zero_le _)
  · exact hx_dn (hr76_0 hl)
  · refine hx_dn (hr76_5 (fun c => absurd c (by omega)) (fun _ => c77 hs hB hy ?_))
    have et := hGr_tst hs hy hp
    refine hx_dn (hr76_18 (fun c => ?_) (fun c => ?_))
    · rw [et] at c
      have hf : aHad s (p : Int) y = false := by
        split at c
        · cases c
        · rename_i g
          simpa using g
      rw [hmask_f hf] at ih
      rw [ew_u (by omega)]
      exact ih
    · rw [et] at c
      have hf : aHad s (p : Int) y = true := by
        split at c
        · assumption
        · exact absurd rfl c
      rw [hmask_t hf] at ih
      rw [ew_u (by omega), hmask_grow hy]
      exact ih
theorem c78 {p : Nat} (hs : sOK s) (hB : sBk 5 s m) (h : Q (some (.inr (.inr ((hmask (aHeld s (p : Int)) 40 : Nat) : Int)))) m) : hxn xs n yp_m78 0 [(0, .inr (.inl 5)), (1, .inl (p : Int))] [] m Q := by
  have hl := hloop (N := 40) (P := fun y => hxn xs n yp_m78 5 [(0, .inr (.inl 5)), (1, .inl (p : Int)), (2, .inr (.inr ((hmask (aHeld s (p : Int)) y : Nat) : Int))), (4, .inl (y : Int))] [] m Q) (hx_dn (hr78_5 (fun _ => h) (fun c => absurd c (by decide)) (fun c => absurd c (by decide)) (fun c => absurd c (by decide)))) (fun y hy ih => ?_) 0 (Nat.zero_le _)
  · exact hx_dn (hr78_0 hl)
  · have no : aHeld s (p : Int) y = false → hxn xs n yp_m78 5 [(0, .inr (.inl 5)), (1, .inl (p : Int)), (2, .inr (.inr ((hmask (aHeld s (p : Int)) y : Nat) : Int))), (4, .inl (gx_w ((y : Int) + 1)))] [] m Q := fun hf => by
      rw [hmask_f hf] at ih
      rw [ew_u (by omega)]
      exact ih
    have iff := cPw5_iff hs hB hy
    refine hx_dn (hr78_5 (fun c => absurd c (by omega)) (fun _ c d => no ?_) (fun _ c d => ?_) (fun _ c => no ?_))
    · rw [Int.toNat_natCast, sB5_hold hB y hy (iff.mp c).1] at d
      unfold aHeld
      rw [decide_eq_false d, Bool.and_false]
    · rw [Int.toNat_natCast, sB5_hold hB y hy (iff.mp c).1] at d
      have hf : aHeld s (p : Int) y = true := by
        unfold aHeld
        rw [decide_eq_true d, decide_eq_true (iff.mp c).1]
        rfl
      rw [hmask_t hf] at ih
      rw [ew_u (by omega), hmask_grow hy]
      exact ih
    · unfold aHeld
      rw [Bool.and_eq_false_iff, decide_eq_false_iff_not, decide_eq_false_iff_not]
      by_cases e : s (440 + y) = 1
      · right
        intro q
        exact c (iff.mpr ⟨e, by omega⟩)
      · exact .inl e
theorem c60 {p : Int} (hB : sBk 5 s m) (h : Q (some (.inr (.inr ((hmask (aOwn s p) 40 : Nat) : Int)))) m) : hxn xs n yp_m60 0 [(0, .inr (.inl 5)), (1, .inl p)] [] m Q := hs60 (sB5_yrs hB) (sB5_own hB) h
theorem c64 {f : Nat → Bool} (hB : sBk 5 s m) (h : Q (some (.inl (hOr f (fun j => s (80 + j)) 40))) m) : hxn xs n yp_m64 0 [(0, .inr (.inl 5)), (1, .inr (.inr ((hmask f 40 : Nat) : Int)))] [] m Q := hs64 (v := fun j => s (80 + j)) (sB5_skl hB) h
theorem c61 {f : Nat → Bool} (h : Q (some (.inl ((hcnt f 40 : Nat) : Int))) m) : hxn xs n yp_m61 0 [(0, .inr (.inr ((hmask f 40 : Nat) : Int)))] [] m Q := by
  refine hs61 (hmask_lt _ 40) ?_
  rw [hpop_hmask]
  exact h
/-! the reference -/
theorem r220 {p : Int} (hs : sOK (m 87)) (hY : Y < 40) (h : Q (some (.inl (if aHad (m 87) p Y = true then 1 else 0))) m) : hxn xs n yp_m220 0 [(0, .inr (.inl 86)), (1, .inl (Y : Int)), (2, .inl p)] [] m Q := by
  have hm := hs.many Y hY
  have hT := hs.there Y hY
  unfold aHad at h
  have hl := hloop (N := (m 87 (400 + Y)).toNat) (P := fun k => hAnyB (fun k => decide (m 87 (480 + (16 * Y + k)) = p)) k = false → hxn xs n yp_m220 2 [(0, .inr (.inl 86)), (1, .inl (Y : Int)), (2, .inl p), (3, .inl (k : Int))] [] m Q) (fun q => ?_) (fun k hk ih q => ?_) 0 (Nat.zero_le _) rfl
  · exact hx_dn (hr220_0 hl)
  · refine hx_dn (hr220_2 (fun _ => ?_) (fun c => ?_) (fun c => ?_) (fun c => ?_))
    · rw [q, Bool.and_false, if_neg (by decide)] at h
      exact h
    all_goals
      rw [w400 hY] at c
      exact absurd c (by omega)
  · have ei : (gx_w ((gx_w (480 + (gx_w (16 * (Y : Int))))) + (k : Int))).toNat = 480 + (16 * Y + k) := by
      rw [gx_w_id (x := 16 * (Y : Int)) (by omega) (by omega), gx_w_id (x := 480 + 16 * (Y : Int)) (by omega) (by omega), gx_w_id (by omega) (by omega)]
      omega
    refine hx_dn (hr220_2 (fun c => ?_) (fun _ d => ?_) (fun _ d e => ?_) (fun _ d e => ?_))
    · rw [w400 hY] at c
      exact absurd c (by omega)
    · rw [w440 hY] at d
      rw [decide_eq_false d, Bool.false_and, if_neg (by decide)] at h
      exact h
    · rw [ei] at e
      rw [ew_u (by omega)]
      refine ih ?_
      show (hAnyB _ k || decide (m 87 (480 + (16 * Y + k)) = p)) = false
      rw [q, decide_eq_false e]
      rfl
    · rw [w440 hY] at d
      rw [ei] at e
      have ha : hAnyB (fun k => decide (m 87 (480 + (16 * Y + k)) = p)) (m 87 (400 + Y)).toNat = true := hAnyB_iff.mpr ⟨k, hk, decide_eq_true e⟩
      rw [decide_eq_true d, ha, if_pos (show (true && true) = true from rfl)] at h
      exact h
theorem r219 {p : Int} (hs : sOK (m 87)) (h : Q (some (.inl ((hcnt (aHad (m 87) p) 40 : Nat) : Int))) m) : hxn xs n yp_m219 0 [(0, .inr (.inl 86)), (1, .inl p)] [] m Q := by
  have hl := hloop (N := 40) (P := fun y => hxn xs n yp_m219 4 [(0, .inr (.inl 86)), (1, .inl p), (2, .inl ((hcnt (aHad (m 87) p) y : Nat) : Int)), (3, .inl (y : Int))] [] m Q) (hx_dn (hr219_4 (fun _ => h) (fun c => absurd c (by decide)))) (fun y hy ih => ?_) 0 (Nat.zero_le _)
  · exact hx_dn (hr219_0 hl)
  · refine hx_dn (hr219_4 (fun c => absurd c (by omega)) (fun _ => r220 hs hy ?_))
    have hle := hcnt_le (aHad (m 87) p) y
    by_cases c : aHad (m 87) p y = true
    · rw [if_pos c]
      rw [hcnt_t c] at ih
      refine hx_dn (hr219_17 (fun c => absurd c (by decide)) (fun _ => ?_))
      rw [ew_u (by omega), gx_w_id (by omega) (by omega)]
      exact ih
    · rw [if_neg c]
      rw [hcnt_f (by simpa using c)] at ih
      refine hx_dn (hr219_17 (fun _ => ?_) (fun c => absurd rfl c))
      rw [ew_u (by omega), gx_w_id (by omega) (by omega)]
      exact ih
theorem r221 {p : Int} (hs : sOK (m 87)) (h : Q (some (.inl ((hcnt (aHeld (m 87) p) 40 : Nat) : Int))) m) : hxn xs n yp_m221 0 [(0, .inr (.inl 86)), (1, .inl p)] [] m Q := by
  have hl := hloop (N := 40) (P := fun y => hxn xs n yp_m221 4 [(0, .inr (.inl 86)), (1, .inl p), (2, .inl ((hcnt (aHeld (m 87) p) y : Nat) : Int)), (3, .inl (y : Int))] [] m Q) (hx_dn (hr221_4 (fun _ => h) (fun c => absurd c (by decide)) (fun c => absurd c (by decide)) (fun c => absurd c (by decide)))) (fun y hy ih => ?_) 0 (Nat.zero_le _)
  · exact hx_dn (hr221_0 hl)
  · have hle := hcnt_le (aHeld (m 87) p) y
    have no : aHeld (m 87) p y = false → hxn xs n yp_m221 4 [(0, .inr (.inl 86)), (1, .inl p), (2, .inl (gx_w (((hcnt (aHeld (m 87) p) y : Nat) : Int) + 0))), (3, .inl (gx_w ((y : Int) + 1)))] [] m Q := fun hf => by
      rw [hcnt_f hf] at ih
      rw [ew_u (by omega), gx_w_id (by omega) (by omega)]
      exact ih
    refine hx_dn (hr221_4 (fun c => absurd c (by omega)) (fun _ c d => no ?_) (fun _ c d => ?_) (fun _ c => no ?_))
    · rw [w280 hy] at d
      unfold aHeld
      rw [decide_eq_false d, Bool.and_false]
    · rw [w280 hy] at d
      have hf : aHeld (m 87) p y = true := by
        unfold aHeld
        rw [decide_eq_true d, decide_eq_true ((aYr_iff hy).mp c)]
        rfl
      rw [hcnt_t hf] at ih
      rw [ew_u (by omega), gx_w_id (by omega) (by omega)]
      exact ih
    · unfold aHeld
      rw [decide_eq_false (fun q => c ((aYr_iff hy).mpr q)), Bool.false_and]
theorem r207 {p : Int} (hs : sOK (m 87)) (h : Q (some (.inl (hOr (aOwn (m 87) p) (fun j => m 87 (80 + j)) 40))) m) : hxn xs n yp_m207 0 [(0, .inr (.inl 86)), (1, .inl p), (2, .inl (-1))] [] m Q := by
  refine hs207 hs.there ?_
  have e : hOr (aKn (m 87) p (-1)) (fun j => m 87 (80 + j)) 40 = hOr (aOwn (m 87) p) (fun j => m 87 (80 + j)) 40 := hOr_ext 40 (fun j _ => by
    unfold aKn
    rw [decide_eq_false (show ¬ ((j : Int) = -1) by omega)]
    simp) (fun _ _ => rfl)
  rw [e]
  exact h
theorem aPers_nat {x : Int} (h : aPers s x) : ∃ P : Nat, x = (P : Int) ∧ P < 8 ∧ gx_and (gx_shr (s 1128) (P : Int)) 1 = 1 := by
  obtain ⟨h1, h2, h3⟩ := h
  refine ⟨x.toNat, by omega, by omega, ?_⟩
  rw [Int.toNat_of_nonneg h1]
  exact h3
end SC
end
