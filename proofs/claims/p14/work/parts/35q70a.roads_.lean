section
/-! givenBack: roads (88 lies in 64a) -/
/-- clashesAny from 0 on -/
theorem hr91_0 {xs : List Int32} {n : Nat} {Q : hQ} {m : gx_M} {x1 x3 : Int}
    (h1 : hxn xs n yp_m91 3 [(0, .inr (.inl 5)), (1, .inr (.inr x1)), (3, .inl x3), (4, .inl 0)] [] m Q) : hxn xs (n + 1) yp_m91 0 [(0, .inr (.inl 5)), (1, .inr (.inr x1)), (3, .inl x3)] [] m Q := by
  refine hx_blks (npc := 3) (L' := [(0, .inr (.inl 5)), (1, .inr (.inr x1)), (3, .inl x3), (4, .inl 0)]) (st' := []) (m' := m) ((0, .iconst 0, 1, 0, 0, 0, 0), (0, 0, 0)) [((1, .istore 4, 2, 0, 0, 0, 0), (0, 0, 0))] (by decide +kernel) rfl ?_
  exact hx_pick [0, 1, 3, 4] h1

/-- clashesAny from 3 on -/
theorem hr91_3 {xs : List Int32} {n : Nat} {Q : hQ} {m : gx_M} {x1 x3 x4 : Int}
    (h1 : (40 ≤ x4) → Q (some (.inl 0)) m)
    (h2 : (x4 < 40) → ((hlcmp (hland (hlushr x1 x4) 1) 0) = 0) → hxn xs n yp_m91 3 [(0, .inr (.inl 5)), (1, .inr (.inr x1)), (3, .inl x3), (4, .inl (gx_w (x4 + 1)))] [] m Q)
    (h3 : (x4 < 40) → ((hlcmp (hland (hlushr x1 x4) 1) 0) ≠ 0) → hxn xs n yp_m88 0 [(0, .inr (.inl 5)), (1, .inl x3), (2, .inl x4)] [] m (fun r m' => hxn xs n yp_m91 28 [(0, .inr (.inl 5)), (1, .inr (.inr x1)), (3, .inl x3), (4, .inl x4)] (hrs r ++ []) m' Q)) : hxn xs (n + 1) yp_m91 3 [(0, .inr (.inl 5)), (1, .inr (.inr x1)), (3, .inl x3), (4, .inl x4)] [] m Q := by
  refine hx_blks (npc := 7) (L' := [(0, .inr (.inl 5)), (1, .inr (.inr x1)), (3, .inl x3), (4, .inl x4)]) (st' := [.inl 40, .inl x4]) (m' := m) ((3, .iload 4, 2, 0, 0, 0, 0), (0, 0, 0)) [((5, .bipush 40, 2, 0, 0, 0, 0), (0, 0, 0))] (by decide +kernel) rfl ?_
  refine hx_cmp .ge 39 (by decide +kernel) (fun c1 => ?_) (fun c1 => ?_)
  · have c1 : 40 ≤ x4 := c1
    refine hx_blk (npc := 40) (L' := [(0, .inr (.inl 5)), (1, .inr (.inr x1)), (3, .inl x3), (4, .inl x4)]) (st' := [.inl 0]) (m' := m) [((39, .iconst 0, 1, 0, 0, 0, 0), (0, 0, 0))] (by decide +kernel) rfl ?_
    exact hx_reti (by decide +kernel) (h1 c1)
  · have c1 : x4 < 40 := by have h : ¬ (40 ≤ x4) := c1; omega
    refine hx_blk (npc := 18) (L' := [(0, .inr (.inl 5)), (1, .inr (.inr x1)), (3, .inl x3), (4, .inl x4)]) (st' := [.inl (hlcmp (hland (hlushr x1 x4) 1) 0)]) (m' := m) [((10, .lload_n 1, 1, 0, 0, 0, 0), (0, 0, 0)), ((11, .iload 4, 2, 0, 0, 0, 0), (0, 0, 0)), ((13, .lushr, 1, 0, 0, 0, 0), (0, 0, 0)), ((14, .lconst 1, 1, 0, 0, 0, 0), (0, 0, 0)), ((15, .land, 1, 0, 0, 0, 0), (0, 0, 0)), ((16, .lconst 0, 1, 0, 0, 0, 0), (0, 0, 0)), ((17, .lcmp, 1, 0, 0, 0, 0), (0, 0, 0))] (by decide +kernel) rfl ?_
    refine hx_if .eq 33 (by decide +kernel) (fun c2 => ?_) (fun c2 => ?_)
    · have c2 : (hlcmp (hland (hlushr x1 x4) 1) 0) = 0 := c2
      refine hx_blk (npc := 3) (L' := [(0, .inr (.inl 5)), (1, .inr (.inr x1)), (3, .inl x3), (4, .inl (gx_w (x4 + 1)))]) (st' := []) (m' := m) [((33, .iinc 4 1, 3, 0, 0, 0, 0), (0, 0, 0)), ((36, .goto (-33), 3, 0, 0, 0, 0), (0, 0, 0))] (by decide +kernel) rfl ?_
      exact hx_pick [0, 1, 3, 4] (h2 c1 c2)
    · have c2 : (hlcmp (hland (hlushr x1 x4) 1) 0) ≠ 0 := c2
      refine hx_blk (npc := 25) (L' := [(0, .inr (.inl 5)), (1, .inr (.inr x1)), (3, .inl x3), (4, .inl x4)]) (st' := [.inl x4, .inl x3, .inr (.inl 5)]) (m' := m) [((21, .aload_n 0, 1, 0, 0, 0, 0), (0, 0, 0)), ((22, .iload_n 3, 1, 0, 0, 0, 0), (0, 0, 0)), ((23, .iload 4, 2, 0, 0, 0, 0), (0, 0, 0))] (by decide +kernel) rfl ?_
      exact hx_call (E := (25, .invokestatic 50, 3, 88, 0, 4028, 0)) (M' := yp_m88) [.inr (.inl 5), .inl x3, .inl x4] [] rfl (by decide +kernel) rfl ⟨rfl, rfl⟩ rfl rfl (hx_mono (h3 c1 c2) (fun r m' h' => hx_pick [0, 1, 3, 4] h'))

/-- clashesAny from 28 on -/
theorem hr91_28 {xs : List Int32} {n : Nat} {Q : hQ} {m : gx_M} {x1 x3 x4 s0 : Int}
    (h1 : (s0 = 0) → hxn xs n yp_m91 3 [(0, .inr (.inl 5)), (1, .inr (.inr x1)), (3, .inl x3), (4, .inl (gx_w (x4 + 1)))] [] m Q)
    (h2 : (s0 ≠ 0) → Q (some (.inl 1)) m) : hxn xs (n + 1) yp_m91 28 [(0, .inr (.inl 5)), (1, .inr (.inr x1)), (3, .inl x3), (4, .inl x4)] [.inl s0] m Q := by
  refine hx_ifs .eq 33 (by decide +kernel) (fun c1 => ?_) (fun c1 => ?_)
  · have c1 : s0 = 0 := c1
    refine hx_blk (npc := 3) (L' := [(0, .inr (.inl 5)), (1, .inr (.inr x1)), (3, .inl x3), (4, .inl (gx_w (x4 + 1)))]) (st' := []) (m' := m) [((33, .iinc 4 1, 3, 0, 0, 0, 0), (0, 0, 0)), ((36, .goto (-33), 3, 0, 0, 0, 0), (0, 0, 0))] (by decide +kernel) rfl ?_
    exact hx_pick [0, 1, 3, 4] (h1 c1)
  · have c1 : s0 ≠ 0 := c1
    refine hx_blk (npc := 32) (L' := [(0, .inr (.inl 5)), (1, .inr (.inr x1)), (3, .inl x3), (4, .inl x4)]) (st' := [.inl 1]) (m' := m) [((31, .iconst 1, 1, 0, 0, 0, 0), (0, 0, 0))] (by decide +kernel) rfl ?_
    exact hx_reti (by decide +kernel) (h2 c1)

/-- gatherClashing from 0 on -/
theorem hr90_0 {xs : List Int32} {n : Nat} {Q : hQ} {m : gx_M} {x2 : Int}
    (h1 : hxn xs n yp_m60 0 [(0, .inr (.inl 5)), (1, .inl x2)] [] m (fun r m' => hxn xs n yp_m90 5 [(0, .inr (.inl 70)), (1, .inr (.inl 5))] (hrs r ++ []) m' Q)) : hxn xs (n + 1) yp_m90 0 [(0, .inr (.inl 70)), (1, .inr (.inl 5)), (2, .inl x2)] [] m Q := by
  refine hx_blks (npc := 2) (L' := [(0, .inr (.inl 70)), (1, .inr (.inl 5)), (2, .inl x2)]) (st' := [.inl x2, .inr (.inl 5)]) (m' := m) ((0, .aload_n 1, 1, 0, 0, 0, 0), (0, 0, 0)) [((1, .iload_n 2, 1, 0, 0, 0, 0), (0, 0, 0))] (by decide +kernel) rfl ?_
  exact hx_call (E := (2, .invokevirtual 42, 3, 60, 0, 4024, 0)) (M' := yp_m60) [.inr (.inl 5), .inl x2] [] rfl (by decide +kernel) rfl ⟨rfl, rfl⟩ rfl rfl (hx_mono h1 (fun r m' h' => hx_pick [0, 1] h'))

/-- gatherClashing from 5 on -/
theorem hr90_5 {xs : List Int32} {n : Nat} {Q : hQ} {m : gx_M} {s0 : Int}
    (h1 : hxn xs n yp_m90 14 [(0, .inr (.inl 70)), (1, .inr (.inl 5)), (3, .inr (.inr s0)), (5, .inl 0)] [] (gx_u m 70 2 0) Q) : hxn xs (n + 1) yp_m90 5 [(0, .inr (.inl 70)), (1, .inr (.inl 5))] [.inr (.inr s0)] m Q := by
  refine hx_blks (npc := 14) (L' := [(0, .inr (.inl 70)), (1, .inr (.inl 5)), (3, .inr (.inr s0)), (5, .inl 0)]) (st' := []) (m' := (gx_u m 70 2 0)) ((5, .lstore_n 3, 1, 0, 0, 0, 0), (0, 0, 0)) [((6, .aload_n 0, 1, 0, 0, 0, 0), (0, 0, 0)), ((7, .iconst 0, 1, 0, 0, 0, 0), (0, 0, 0)), ((8, .putfield 54, 3, 6, 2, 2039, 0), (0, 70, 0)), ((11, .iconst 0, 1, 0, 0, 0, 0), (0, 0, 0)), ((12, .istore 5, 2, 0, 0, 0, 0), (0, 0, 0))] (by decide +kernel) rfl ?_
  exact hx_pick [0, 1, 3, 5] h1

/-- gatherClashing from 14 on -/
theorem hr90_14 {xs : List Int32} {n : Nat} {Q : hQ} {m : gx_M} {x3 x5 : Int}
    (h1 : (40 ≤ x5) → hxn xs n yp_m90 78 [(0, .inr (.inl 70)), (1, .inr (.inl 5)), (5, .inl 0)] [] m Q)
    (h2 : (x5 < 40) → (12 ≤ (m 70 2)) → hxn xs n yp_m90 78 [(0, .inr (.inl 70)), (1, .inr (.inl 5)), (5, .inl 0)] [] m Q)
    (h3 : (x5 < 40) → ((m 70 2) < 12) → ((hlcmp (hland (hlushr x3 x5) 1) 0) = 0) → hxn xs n yp_m90 14 [(0, .inr (.inl 70)), (1, .inr (.inl 5)), (3, .inr (.inr x3)), (5, .inl (gx_w (x5 + 1)))] [] m Q)
    (h4 : (x5 < 40) → ((m 70 2) < 12) → ((hlcmp (hland (hlushr x3 x5) 1) 0) ≠ 0) → hxn xs n yp_m91 0 [(0, .inr (.inl 5)), (1, .inr (.inr x3)), (3, .inl x5)] [] m (fun r m' => hxn xs n yp_m90 48 [(0, .inr (.inl 70)), (1, .inr (.inl 5)), (3, .inr (.inr x3)), (5, .inl x5)] (hrs r ++ []) m' Q)) : hxn xs (n + 1) yp_m90 14 [(0, .inr (.inl 70)), (1, .inr (.inl 5)), (3, .inr (.inr x3)), (5, .inl x5)] [] m Q := by
  refine hx_blks (npc := 18) (L' := [(0, .inr (.inl 70)), (1, .inr (.inl 5)), (3, .inr (.inr x3)), (5, .inl x5)]) (st' := [.inl 40, .inl x5]) (m' := m) ((14, .iload 5, 2, 0, 0, 0, 0), (0, 0, 0)) [((16, .bipush 40, 2, 0, 0, 0, 0), (0, 0, 0))] (by decide +kernel) rfl ?_
  refine hx_cmp .ge 75 (by decide +kernel) (fun c1 => ?_) (fun c1 => ?_)
  · have c1 : 40 ≤ x5 := c1
    refine hx_blk (npc := 78) (L' := [(0, .inr (.inl 70)), (1, .inr (.inl 5)), (3, .inr (.inr x3)), (5, .inl 0)]) (st' := []) (m' := m) [((75, .iconst 0, 1, 0, 0, 0, 0), (0, 0, 0)), ((76, .istore 5, 2, 0, 0, 0, 0), (0, 0, 0))] (by decide +kernel) rfl ?_
    exact hx_pick [0, 1, 5] (h1 c1)
  · have c1 : x5 < 40 := by have h : ¬ (40 ≤ x5) := c1; omega
    refine hx_blk (npc := 27) (L' := [(0, .inr (.inl 70)), (1, .inr (.inl 5)), (3, .inr (.inr x3)), (5, .inl x5)]) (st' := [.inl 12, .inl (m 70 2)]) (m' := m) [((21, .aload_n 0, 1, 0, 0, 0, 0), (0, 0, 0)), ((22, .getfield 54, 3, 6, 2, 2039, 0), (0, 70, 0)), ((25, .bipush 12, 2, 0, 0, 0, 0), (0, 0, 0))] (by decide +kernel) rfl ?_
    refine hx_cmp .ge 75 (by decide +kernel) (fun c2 => ?_) (fun c2 => ?_)
    · have c2 : 12 ≤ (m 70 2) := c2
      refine hx_blk (npc := 78) (L' := [(0, .inr (.inl 70)), (1, .inr (.inl 5)), (3, .inr (.inr x3)), (5, .inl 0)]) (st' := []) (m' := m) [((75, .iconst 0, 1, 0, 0, 0, 0), (0, 0, 0)), ((76, .istore 5, 2, 0, 0, 0, 0), (0, 0, 0))] (by decide +kernel) rfl ?_
      exact hx_pick [0, 1, 5] (h2 c1 c2)
    · have c2 : (m 70 2) < 12 := by have h : ¬ (12 ≤ (m 70 2)) := c2; omega
      refine hx_blk (npc := 38) (L' := [(0, .inr (.inl 70)), (1, .inr (.inl 5)), (3, .inr (.inr x3)), (5, .inl x5)]) (st' := [.inl (hlcmp (hland (hlushr x3 x5) 1) 0)]) (m' := m) [((30, .lload_n 3, 1, 0, 0, 0, 0), (0, 0, 0)), ((31, .iload 5, 2, 0, 0, 0, 0), (0, 0, 0)), ((33, .lushr, 1, 0, 0, 0, 0), (0, 0, 0)), ((34, .lconst 1, 1, 0, 0, 0, 0), (0, 0, 0)), ((35, .land, 1, 0, 0, 0, 0), (0, 0, 0)), ((36, .lconst 0, 1, 0, 0, 0, 0), (0, 0, 0)), ((37, .lcmp, 1, 0, 0, 0, 0), (0, 0, 0))] (by decide +kernel) rfl ?_
      refine hx_if .eq 69 (by decide +kernel) (fun c3 => ?_) (fun c3 => ?_)
      · have c3 : (hlcmp (hland (hlushr x3 x5) 1) 0) = 0 := c3
        refine hx_blk (npc := 14) (L' := [(0, .inr (.inl 70)), (1, .inr (.inl 5)), (3, .inr (.inr x3)), (5, .inl (gx_w (x5 + 1)))]) (st' := []) (m' := m) [((69, .iinc 5 1, 3, 0, 0, 0, 0), (0, 0, 0)), ((72, .goto (-58), 3, 0, 0, 0, 0), (0, 0, 0))] (by decide +kernel) rfl ?_
        exact hx_pick [0, 1, 3, 5] (h3 c1 c2 c3)
      · have c3 : (hlcmp (hland (hlushr x3 x5) 1) 0) ≠ 0 := c3
        refine hx_blk (npc := 45) (L' := [(0, .inr (.inl 70)), (1, .inr (.inl 5)), (3, .inr (.inr x3)), (5, .inl x5)]) (st' := [.inl x5, .inr (.inr x3), .inr (.inl 5)]) (m' := m) [((41, .aload_n 1, 1, 0, 0, 0, 0), (0, 0, 0)), ((42, .lload_n 3, 1, 0, 0, 0, 0), (0, 0, 0)), ((43, .iload 5, 2, 0, 0, 0, 0), (0, 0, 0))] (by decide +kernel) rfl ?_
        exact hx_call (E := (45, .invokestatic 58, 3, 91, 0, 4040, 0)) (M' := yp_m91) [.inr (.inl 5), .inr (.inr x3), .inl x5] [] rfl (by decide +kernel) rfl ⟨rfl, rfl⟩ rfl rfl (hx_mono (h4 c1 c2 c3) (fun r m' h' => hx_pick [0, 1, 3, 5] h'))

/-- gatherClashing from 48 on -/
theorem hr90_48 {xs : List Int32} {n : Nat} {Q : hQ} {m : gx_M} {x3 x5 s0 : Int}
    (h1 : (s0 = 0) → hxn xs n yp_m90 14 [(0, .inr (.inl 70)), (1, .inr (.inl 5)), (3, .inr (.inr x3)), (5, .inl (gx_w (x5 + 1)))] [] m Q)
    (h2 : (s0 ≠ 0) → hxn xs n yp_m90 14 [(0, .inr (.inl 70)), (1, .inr (.inl 5)), (3, .inr (.inr x3)), (5, .inl (gx_w (x5 + 1)))] [] (gx_u (gx_u m 70 2 (gx_w ((m 70 2) + 1))) 71 (m 70 2).toNat x5) Q) : hxn xs (n + 1) yp_m90 48 [(0, .inr (.inl 70)), (1, .inr (.inl 5)), (3, .inr (.inr x3)), (5, .inl x5)] [.inl s0] m Q := by
  refine hx_ifs .eq 69 (by decide +kernel) (fun c1 => ?_) (fun c1 => ?_)
  · have c1 : s0 = 0 := c1
    refine hx_blk (npc := 14) (L' := [(0, .inr (.inl 70)), (1, .inr (.inl 5)), (3, .inr (.inr x3)), (5, .inl (gx_w (x5 + 1)))]) (st' := []) (m' := m) [((69, .iinc 5 1, 3, 0, 0, 0, 0), (0, 0, 0)), ((72, .goto (-58), 3, 0, 0, 0, 0), (0, 0, 0))] (by decide +kernel) rfl ?_
    exact hx_pick [0, 1, 3, 5] (h1 c1)
  · have c1 : s0 ≠ 0 := c1
    refine hx_blk (npc := 14) (L' := [(0, .inr (.inl 70)), (1, .inr (.inl 5)), (3, .inr (.inr x3)), (5, .inl (gx_w (x5 + 1)))]) (st' := []) (m' := (gx_u (gx_u m 70 2 (gx_w ((m 70 2) + 1))) 71 (m 70 2).toNat x5)) [((51, .aload_n 0, 1, 0, 0, 0, 0), (0, 0, 0)), ((52, .getfield 9, 3, 6, 0, 2037, 0), (1, 70, 71)), ((55, .aload_n 0, 1, 0, 0, 0, 0), (0, 0, 0)), ((56, .dup, 1, 0, 0, 0, 0), (0, 0, 0)), ((57, .getfield 54, 3, 6, 2, 2039, 0), (0, 70, 0)), ((60, .dup_x1, 1, 0, 0, 0, 0), (0, 0, 0)), ((61, .iconst 1, 1, 0, 0, 0, 0), (0, 0, 0)), ((62, .iadd, 1, 0, 0, 0, 0), (0, 0, 0)), ((63, .putfield 54, 3, 6, 2, 2039, 0), (0, 70, 0)), ((66, .iload 5, 2, 0, 0, 0, 0), (0, 0, 0)), ((68, .iastore, 1, 0, 0, 0, 0), (0, 71, 0)), ((69, .iinc 5 1, 3, 0, 0, 0, 0), (0, 0, 0)), ((72, .goto (-58), 3, 0, 0, 0, 0), (0, 0, 0))] (by decide +kernel) rfl ?_
    exact hx_pick [0, 1, 3, 5] (h2 c1)

/-- gatherClashing from 78 on -/
theorem hr90_78 {xs : List Int32} {n : Nat} {Q : hQ} {m : gx_M} {x5 : Int}
    (h1 : ((m 70 2) ≤ x5) → Q none m)
    (h2 : (x5 < (m 70 2)) → (12 ≤ x5) → Q none m)
    (h3 : (x5 < (m 70 2)) → (x5 < 12) → hxn xs n yp_m90 105 [(0, .inr (.inl 70)), (1, .inr (.inl 5)), (5, .inl x5), (6, .inl 0)] [] (gx_u m 72 (x5).toNat 0) Q) : hxn xs (n + 1) yp_m90 78 [(0, .inr (.inl 70)), (1, .inr (.inl 5)), (5, .inl x5)] [] m Q := by
  refine hx_blks (npc := 84) (L' := [(0, .inr (.inl 70)), (1, .inr (.inl 5)), (5, .inl x5)]) (st' := [.inl (m 70 2), .inl x5]) (m' := m) ((78, .iload 5, 2, 0, 0, 0, 0), (0, 0, 0)) [((80, .aload_n 0, 1, 0, 0, 0, 0), (0, 0, 0)), ((81, .getfield 54, 3, 6, 2, 2039, 0), (0, 70, 0))] (by decide +kernel) rfl ?_
  refine hx_cmp .ge 168 (by decide +kernel) (fun c1 => ?_) (fun c1 => ?_)
  · have c1 : (m 70 2) ≤ x5 := c1
    exact hx_ret0 (by decide +kernel) (h1 c1)
  · have c1 : x5 < (m 70 2) := by have h : ¬ ((m 70 2) ≤ x5) := c1; omega
    refine hx_blk (npc := 91) (L' := [(0, .inr (.inl 70)), (1, .inr (.inl 5)), (5, .inl x5)]) (st' := [.inl 12, .inl x5]) (m' := m) [((87, .iload 5, 2, 0, 0, 0, 0), (0, 0, 0)), ((89, .bipush 12, 2, 0, 0, 0, 0), (0, 0, 0))] (by decide +kernel) rfl ?_
    refine hx_cmp .ge 168 (by decide +kernel) (fun c2 => ?_) (fun c2 => ?_)
    · have c2 : 12 ≤ x5 := c2
      exact hx_ret0 (by decide +kernel) (h2 c1 c2)
    · have c2 : x5 < 12 := by have h : ¬ (12 ≤ x5) := c2; omega
      refine hx_blk (npc := 105) (L' := [(0, .inr (.inl 70)), (1, .inr (.inl 5)), (5, .inl x5), (6, .inl 0)]) (st' := []) (m' := (gx_u m 72 (x5).toNat 0)) [((94, .aload_n 0, 1, 0, 0, 0, 0), (0, 0, 0)), ((95, .getfield 15, 3, 6, 1, 2038, 0), (1, 70, 72)), ((98, .iload 5, 2, 0, 0, 0, 0), (0, 0, 0)), ((100, .iconst 0, 1, 0, 0, 0, 0), (0, 0, 0)), ((101, .iastore, 1, 0, 0, 0, 0), (0, 72, 0)), ((102, .iconst 0, 1, 0, 0, 0, 0), (0, 0, 0)), ((103, .istore 6, 2, 0, 0, 0, 0), (0, 0, 0))] (by decide +kernel) rfl ?_
      exact hx_pick [0, 1, 5, 6] (h3 c1 c2)

/-- gatherClashing from 105 on -/
theorem hr90_105 {xs : List Int32} {n : Nat} {Q : hQ} {m : gx_M} {x5 x6 : Int}
    (h1 : ((m 70 2) ≤ x6) → hxn xs n yp_m90 78 [(0, .inr (.inl 70)), (1, .inr (.inl 5)), (5, .inl (gx_w (x5 + 1)))] [] m Q)
    (h2 : (x6 < (m 70 2)) → (12 ≤ x6) → hxn xs n yp_m90 78 [(0, .inr (.inl 70)), (1, .inr (.inl 5)), (5, .inl (gx_w (x5 + 1)))] [] m Q)
    (h3 : (x6 < (m 70 2)) → (x6 < 12) → hxn xs n yp_m88 0 [(0, .inr (.inl 5)), (1, .inl (m 71 (x5).toNat)), (2, .inl (m 71 (x6).toNat))] [] m (fun r m' => hxn xs n yp_m90 139 [(0, .inr (.inl 70)), (1, .inr (.inl 5)), (5, .inl x5), (6, .inl x6)] (hrs r ++ []) m' Q)) : hxn xs (n + 1) yp_m90 105 [(0, .inr (.inl 70)), (1, .inr (.inl 5)), (5, .inl x5), (6, .inl x6)] [] m Q := by
  refine hx_blks (npc := 111) (L' := [(0, .inr (.inl 70)), (1, .inr (.inl 5)), (5, .inl x5), (6, .inl x6)]) (st' := [.inl (m 70 2), .inl x6]) (m' := m) ((105, .iload 6, 2, 0, 0, 0, 0), (0, 0, 0)) [((107, .aload_n 0, 1, 0, 0, 0, 0), (0, 0, 0)), ((108, .getfield 54, 3, 6, 2, 2039, 0), (0, 70, 0))] (by decide +kernel) rfl ?_
  refine hx_cmp .ge 162 (by decide +kernel) (fun c1 => ?_) (fun c1 => ?_)
  · have c1 : (m 70 2) ≤ x6 := c1
    refine hx_blk (npc := 78) (L' := [(0, .inr (.inl 70)), (1, .inr (.inl 5)), (5, .inl (gx_w (x5 + 1))), (6, .inl x6)]) (st' := []) (m' := m) [((162, .iinc 5 1, 3, 0, 0, 0, 0), (0, 0, 0)), ((165, .goto (-87), 3, 0, 0, 0, 0), (0, 0, 0))] (by decide +kernel) rfl ?_
    exact hx_pick [0, 1, 5] (h1 c1)
  · have c1 : x6 < (m 70 2) := by have h : ¬ ((m 70 2) ≤ x6) := c1; omega
    refine hx_blk (npc := 118) (L' := [(0, .inr (.inl 70)), (1, .inr (.inl 5)), (5, .inl x5), (6, .inl x6)]) (st' := [.inl 12, .inl x6]) (m' := m) [((114, .iload 6, 2, 0, 0, 0, 0), (0, 0, 0)), ((116, .bipush 12, 2, 0, 0, 0, 0), (0, 0, 0))] (by decide +kernel) rfl ?_
    refine hx_cmp .ge 162 (by decide +kernel) (fun c2 => ?_) (fun c2 => ?_)
    · have c2 : 12 ≤ x6 := c2
      refine hx_blk (npc := 78) (L' := [(0, .inr (.inl 70)), (1, .inr (.inl 5)), (5, .inl (gx_w (x5 + 1))), (6, .inl x6)]) (st' := []) (m' := m) [((162, .iinc 5 1, 3, 0, 0, 0, 0), (0, 0, 0)), ((165, .goto (-87), 3, 0, 0, 0, 0), (0, 0, 0))] (by decide +kernel) rfl ?_
      exact hx_pick [0, 1, 5] (h2 c1 c2)
    · have c2 : x6 < 12 := by have h : ¬ (12 ≤ x6) := c2; omega
      refine hx_blk (npc := 136) (L' := [(0, .inr (.inl 70)), (1, .inr (.inl 5)), (5, .inl x5), (6, .inl x6)]) (st' := [.inl (m 71 (x6).toNat), .inl (m 71 (x5).toNat), .inr (.inl 5)]) (m' := m) [((121, .aload_n 1, 1, 0, 0, 0, 0), (0, 0, 0)), ((122, .aload_n 0, 1, 0, 0, 0, 0), (0, 0, 0)), ((123, .getfield 9, 3, 6, 0, 2037, 0), (1, 70, 71)), ((126, .iload 5, 2, 0, 0, 0, 0), (0, 0, 0)), ((128, .iaload, 1, 0, 0, 0, 0), (0, 71, 0)), ((129, .aload_n 0, 1, 0, 0, 0, 0), (0, 0, 0)), ((130, .getfield 9, 3, 6, 0, 2037, 0), (1, 70, 71)), ((133, .iload 6, 2, 0, 0, 0, 0), (0, 0, 0)), ((135, .iaload, 1, 0, 0, 0, 0), (0, 71, 0))] (by decide +kernel) rfl ?_
      exact hx_call (E := (136, .invokestatic 50, 3, 88, 0, 4028, 0)) (M' := yp_m88) [.inr (.inl 5), .inl (m 71 (x5).toNat), .inl (m 71 (x6).toNat)] [] rfl (by decide +kernel) rfl ⟨rfl, rfl⟩ rfl rfl (hx_mono (h3 c1 c2) (fun r m' h' => hx_pick [0, 1, 5, 6] h'))

/-- gatherClashing from 139 on -/
theorem hr90_139 {xs : List Int32} {n : Nat} {Q : hQ} {m : gx_M} {x5 x6 s0 : Int}
    (h1 : (s0 = 0) → hxn xs n yp_m90 105 [(0, .inr (.inl 70)), (1, .inr (.inl 5)), (5, .inl x5), (6, .inl (gx_w (x6 + 1)))] [] m Q)
    (h2 : (s0 ≠ 0) → hxn xs n yp_m90 105 [(0, .inr (.inl 70)), (1, .inr (.inl 5)), (5, .inl x5), (6, .inl (gx_w (x6 + 1)))] [] (gx_u m 72 (x5).toNat (gx_or (m 72 (x5).toNat) (gx_shl 1 x6))) Q) : hxn xs (n + 1) yp_m90 139 [(0, .inr (.inl 70)), (1, .inr (.inl 5)), (5, .inl x5), (6, .inl x6)] [.inl s0] m Q := by
  refine hx_ifs .eq 156 (by decide +kernel) (fun c1 => ?_) (fun c1 => ?_)
  · have c1 : s0 = 0 := c1
    refine hx_blk (npc := 105) (L' := [(0, .inr (.inl 70)), (1, .inr (.inl 5)), (5, .inl x5), (6, .inl (gx_w (x6 + 1)))]) (st' := []) (m' := m) [((156, .iinc 6 1, 3, 0, 0, 0, 0), (0, 0, 0)), ((159, .goto (-54), 3, 0, 0, 0, 0), (0, 0, 0))] (by decide +kernel) rfl ?_
    exact hx_pick [0, 1, 5, 6] (h1 c1)
  · have c1 : s0 ≠ 0 := c1
    refine hx_blk (npc := 105) (L' := [(0, .inr (.inl 70)), (1, .inr (.inl 5)), (5, .inl x5), (6, .inl (gx_w (x6 + 1)))]) (st' := []) (m' := (gx_u m 72 (x5).toNat (gx_or (m 72 (x5).toNat) (gx_shl 1 x6)))) [((142, .aload_n 0, 1, 0, 0, 0, 0), (0, 0, 0)), ((143, .getfield 15, 3, 6, 1, 2038, 0), (1, 70, 72)), ((146, .iload 5, 2, 0, 0, 0, 0), (0, 0, 0)), ((148, .dup2, 1, 0, 0, 0, 0), (0, 0, 0)), ((149, .iaload, 1, 0, 0, 0, 0), (0, 72, 0)), ((150, .iconst 1, 1, 0, 0, 0, 0), (0, 0, 0)), ((151, .iload 6, 2, 0, 0, 0, 0), (0, 0, 0)), ((153, .ishl, 1, 0, 0, 0, 0), (0, 0, 0)), ((154, .ior, 1, 0, 0, 0, 0), (0, 0, 0)), ((155, .iastore, 1, 0, 0, 0, 0), (0, 72, 0)), ((156, .iinc 6 1, 3, 0, 0, 0, 0), (0, 0, 0)), ((159, .goto (-54), 3, 0, 0, 0, 0), (0, 0, 0))] (by decide +kernel) rfl ?_
    exact hx_pick [0, 1, 5, 6] (h2 c1)

/-- clashingAt from 0 on -/
theorem hr92_0 {xs : List Int32} {n : Nat} {Q : hQ} {m : gx_M} {x1 : Int}
    (h1 : (x1 < 0) → Q (some (.inl (-2))) m)
    (h2 : (0 ≤ x1) → ((m 70 2) ≤ x1) → Q (some (.inl (-2))) m)
    (h3 : (0 ≤ x1) → (x1 < (m 70 2)) → (12 ≤ x1) → Q (some (.inl (-2))) m)
    (h4 : (0 ≤ x1) → (x1 < (m 70 2)) → (x1 < 12) → Q (some (.inl (m 71 (x1).toNat))) m) : hxn xs (n + 1) yp_m92 0 [(0, .inr (.inl 70)), (1, .inl x1)] [] m Q := by
  refine hx_blks (npc := 1) (L' := [(0, .inr (.inl 70)), (1, .inl x1)]) (st' := [.inl x1]) (m' := m) ((0, .iload_n 1, 1, 0, 0, 0, 0), (0, 0, 0)) [] (by decide +kernel) rfl ?_
  refine hx_if .lt 27 (by decide +kernel) (fun c1 => ?_) (fun c1 => ?_)
  · have c1 : x1 < 0 := c1
    refine hx_blk (npc := 29) (L' := [(0, .inr (.inl 70)), (1, .inl x1)]) (st' := [.inl (-2)]) (m' := m) [((27, .bipush (-2), 2, 0, 0, 0, 0), (0, 0, 0))] (by decide +kernel) rfl ?_
    exact hx_reti (by decide +kernel) (h1 c1)
  · have c1 : 0 ≤ x1 := by have h : ¬ (x1 < 0) := c1; omega
    refine hx_blk (npc := 9) (L' := [(0, .inr (.inl 70)), (1, .inl x1)]) (st' := [.inl (m 70 2), .inl x1]) (m' := m) [((4, .iload_n 1, 1, 0, 0, 0, 0), (0, 0, 0)), ((5, .aload_n 0, 1, 0, 0, 0, 0), (0, 0, 0)), ((6, .getfield 54, 3, 6, 2, 2039, 0), (0, 70, 0))] (by decide +kernel) rfl ?_
    refine hx_cmp .ge 27 (by decide +kernel) (fun c2 => ?_) (fun c2 => ?_)
    · have c2 : (m 70 2) ≤ x1 := c2
      refine hx_blk (npc := 29) (L' := [(0, .inr (.inl 70)), (1, .inl x1)]) (st' := [.inl (-2)]) (m' := m) [((27, .bipush (-2), 2, 0, 0, 0, 0), (0, 0, 0))] (by decide +kernel) rfl ?_
      exact hx_reti (by decide +kernel) (h2 c1 c2)
    · have c2 : x1 < (m 70 2) := by have h : ¬ ((m 70 2) ≤ x1) := c2; omega
      refine hx_blk (npc := 15) (L' := [(0, .inr (.inl 70)), (1, .inl x1)]) (st' := [.inl 12, .inl x1]) (m' := m) [((12, .iload_n 1, 1, 0, 0, 0, 0), (0, 0, 0)), ((13, .bipush 12, 2, 0, 0, 0, 0), (0, 0, 0))] (by decide +kernel) rfl ?_
      refine hx_cmp .ge 27 (by decide +kernel) (fun c3 => ?_) (fun c3 => ?_)
      · have c3 : 12 ≤ x1 := c3
        refine hx_blk (npc := 29) (L' := [(0, .inr (.inl 70)), (1, .inl x1)]) (st' := [.inl (-2)]) (m' := m) [((27, .bipush (-2), 2, 0, 0, 0, 0), (0, 0, 0))] (by decide +kernel) rfl ?_
        exact hx_reti (by decide +kernel) (h3 c1 c2 c3)
      · have c3 : x1 < 12 := by have h : ¬ (12 ≤ x1) := c3; omega
        refine hx_blk (npc := 29) (L' := [(0, .inr (.inl 70)), (1, .inl x1)]) (st' := [.inl (m 71 (x1).toNat)]) (m' := m) [((18, .aload_n 0, 1, 0, 0, 0, 0), (0, 0, 0)), ((19, .getfield 9, 3, 6, 0, 2037, 0), (1, 70, 71)), ((22, .iload_n 1, 1, 0, 0, 0, 0), (0, 0, 0)), ((23, .iaload, 1, 0, 0, 0, 0), (0, 71, 0)), ((24, .goto 5, 3, 0, 0, 0, 0), (0, 0, 0))] (by decide +kernel) rfl ?_
        exact hx_reti (by decide +kernel) (h4 c1 c2 c3)

/-- endsClashes from 0 on -/
theorem hr94_0 {xs : List Int32} {n : Nat} {Q : hQ} {m : gx_M} {x1 : Int}
    (h1 : hxn xs n yp_m94 2 [(0, .inr (.inl 70)), (1, .inl x1), (2, .inl 0)] [] m Q) : hxn xs (n + 1) yp_m94 0 [(0, .inr (.inl 70)), (1, .inl x1)] [] m Q := by
  refine hx_blks (npc := 2) (L' := [(0, .inr (.inl 70)), (1, .inl x1), (2, .inl 0)]) (st' := []) (m' := m) ((0, .iconst 0, 1, 0, 0, 0, 0), (0, 0, 0)) [((1, .istore_n 2, 1, 0, 0, 0, 0), (0, 0, 0))] (by decide +kernel) rfl ?_
  exact hx_pick [0, 1, 2] h1

/-- endsClashes from 2 on -/
theorem hr94_2 {xs : List Int32} {n : Nat} {Q : hQ} {m : gx_M} {x1 x2 : Int}
    (h1 : ((m 70 2) ≤ x2) → Q (some (.inl 1)) m)
    (h2 : (x2 < (m 70 2)) → (12 ≤ x2) → Q (some (.inl 1)) m)
    (h3 : (x2 < (m 70 2)) → (x2 < 12) → ((gx_and (gx_shr x1 x2) 1) ≠ 0) → hxn xs n yp_m94 2 [(0, .inr (.inl 70)), (1, .inl x1), (2, .inl (gx_w (x2 + 1)))] [] m Q)
    (h4 : (x2 < (m 70 2)) → (x2 < 12) → ((gx_and (gx_shr x1 x2) 1) = 0) → ((gx_and (m 72 (x2).toNat) (gx_xor x1 (-1))) = 0) → hxn xs n yp_m94 2 [(0, .inr (.inl 70)), (1, .inl x1), (2, .inl (gx_w (x2 + 1)))] [] m Q)
    (h5 : (x2 < (m 70 2)) → (x2 < 12) → ((gx_and (gx_shr x1 x2) 1) = 0) → ((gx_and (m 72 (x2).toNat) (gx_xor x1 (-1))) ≠ 0) → Q (some (.inl 0)) m) : hxn xs (n + 1) yp_m94 2 [(0, .inr (.inl 70)), (1, .inl x1), (2, .inl x2)] [] m Q := by
  refine hx_blks (npc := 7) (L' := [(0, .inr (.inl 70)), (1, .inl x1), (2, .inl x2)]) (st' := [.inl (m 70 2), .inl x2]) (m' := m) ((2, .iload_n 2, 1, 0, 0, 0, 0), (0, 0, 0)) [((3, .aload_n 0, 1, 0, 0, 0, 0), (0, 0, 0)), ((4, .getfield 54, 3, 6, 2, 2039, 0), (0, 70, 0))] (by decide +kernel) rfl ?_
  refine hx_cmp .ge 45 (by decide +kernel) (fun c1 => ?_) (fun c1 => ?_)
  · have c1 : (m 70 2) ≤ x2 := c1
    refine hx_blk (npc := 46) (L' := [(0, .inr (.inl 70)), (1, .inl x1), (2, .inl x2)]) (st' := [.inl 1]) (m' := m) [((45, .iconst 1, 1, 0, 0, 0, 0), (0, 0, 0))] (by decide +kernel) rfl ?_
    exact hx_reti (by decide +kernel) (h1 c1)
  · have c1 : x2 < (m 70 2) := by have h : ¬ ((m 70 2) ≤ x2) := c1; omega
    refine hx_blk (npc := 13) (L' := [(0, .inr (.inl 70)), (1, .inl x1), (2, .inl x2)]) (st' := [.inl 12, .inl x2]) (m' := m) [((10, .iload_n 2, 1, 0, 0, 0, 0), (0, 0, 0)), ((11, .bipush 12, 2, 0, 0, 0, 0), (0, 0, 0))] (by decide +kernel) rfl ?_
    refine hx_cmp .ge 45 (by decide +kernel) (fun c2 => ?_) (fun c2 => ?_)
    · have c2 : 12 ≤ x2 := c2
      refine hx_blk (npc := 46) (L' := [(0, .inr (.inl 70)), (1, .inl x1), (2, .inl x2)]) (st' := [.inl 1]) (m' := m) [((45, .iconst 1, 1, 0, 0, 0, 0), (0, 0, 0))] (by decide +kernel) rfl ?_
      exact hx_reti (by decide +kernel) (h2 c1 c2)
    · have c2 : x2 < 12 := by have h : ¬ (12 ≤ x2) := c2; omega
      have f1 := gx_and_bd (gx_shr x1 x2) 1 (by decide)
      refine hx_blk (npc := 21) (L' := [(0, .inr (.inl 70)), (1, .inl x1), (2, .inl x2)]) (st' := [.inl (gx_and (gx_shr x1 x2) 1)]) (m' := m) [((16, .iload_n 1, 1, 0, 0, 0, 0), (0, 0, 0)), ((17, .iload_n 2, 1, 0, 0, 0, 0), (0, 0, 0)), ((18, .ishr, 1, 0, 0, 0, 0), (0, 0, 0)), ((19, .iconst 1, 1, 0, 0, 0, 0), (0, 0, 0)), ((20, .iand, 1, 0, 0, 0, 0), (0, 0, 0))] (by decide +kernel) rfl ?_
      refine hx_if .ne 39 (by decide +kernel) (fun c3 => ?_) (fun c3 => ?_)
      · have c3 : (gx_and (gx_shr x1 x2) 1) ≠ 0 := c3
        refine hx_blk (npc := 2) (L' := [(0, .inr (.inl 70)), (1, .inl x1), (2, .inl (gx_w (x2 + 1)))]) (st' := []) (m' := m) [((39, .iinc 2 1, 3, 0, 0, 0, 0), (0, 0, 0)), ((42, .goto (-40), 3, 0, 0, 0, 0), (0, 0, 0))] (by decide +kernel) rfl ?_
        exact hx_pick [0, 1, 2] (h3 c1 c2 c3)
      · have c3 : (gx_and (gx_shr x1 x2) 1) = 0 := by have h : ¬ ((gx_and (gx_shr x1 x2) 1) ≠ 0) := c3; omega
        refine hx_blk (npc := 34) (L' := [(0, .inr (.inl 70)), (1, .inl x1), (2, .inl x2)]) (st' := [.inl (gx_and (m 72 (x2).toNat) (gx_xor x1 (-1)))]) (m' := m) [((24, .aload_n 0, 1, 0, 0, 0, 0), (0, 0, 0)), ((25, .getfield 15, 3, 6, 1, 2038, 0), (1, 70, 72)), ((28, .iload_n 2, 1, 0, 0, 0, 0), (0, 0, 0)), ((29, .iaload, 1, 0, 0, 0, 0), (0, 72, 0)), ((30, .iload_n 1, 1, 0, 0, 0, 0), (0, 0, 0)), ((31, .iconst (-1), 1, 0, 0, 0, 0), (0, 0, 0)), ((32, .ixor, 1, 0, 0, 0, 0), (0, 0, 0)), ((33, .iand, 1, 0, 0, 0, 0), (0, 0, 0))] (by decide +kernel) rfl ?_
        refine hx_if .eq 39 (by decide +kernel) (fun c4 => ?_) (fun c4 => ?_)
        · have c4 : (gx_and (m 72 (x2).toNat) (gx_xor x1 (-1))) = 0 := c4
          refine hx_blk (npc := 2) (L' := [(0, .inr (.inl 70)), (1, .inl x1), (2, .inl (gx_w (x2 + 1)))]) (st' := []) (m' := m) [((39, .iinc 2 1, 3, 0, 0, 0, 0), (0, 0, 0)), ((42, .goto (-40), 3, 0, 0, 0, 0), (0, 0, 0))] (by decide +kernel) rfl ?_
          exact hx_pick [0, 1, 2] (h4 c1 c2 c3 c4)
        · have c4 : (gx_and (m 72 (x2).toNat) (gx_xor x1 (-1))) ≠ 0 := c4
          refine hx_blk (npc := 38) (L' := [(0, .inr (.inl 70)), (1, .inl x1), (2, .inl x2)]) (st' := [.inl 0]) (m' := m) [((37, .iconst 0, 1, 0, 0, 0, 0), (0, 0, 0))] (by decide +kernel) rfl ?_
          exact hx_reti (by decide +kernel) (h5 c1 c2 c3 c4)

/-- fewestBack from 0 on -/
theorem hr93_0 {xs : List Int32} {n : Nat} {Q : hQ} {m : gx_M}
    (h1 : hxn xs n yp_m93 13 [(0, .inr (.inl 70)), (1, .inl (gx_w ((gx_shl 1 (m 70 2)) - 1))), (2, .inl (gx_w ((gx_shl 1 (m 70 2)) - 1))), (3, .inl 0)] [] m Q) : hxn xs (n + 1) yp_m93 0 [(0, .inr (.inl 70))] [] m Q := by
  refine hx_blks (npc := 13) (L' := [(0, .inr (.inl 70)), (1, .inl (gx_w ((gx_shl 1 (m 70 2)) - 1))), (2, .inl (gx_w ((gx_shl 1 (m 70 2)) - 1))), (3, .inl 0)]) (st' := []) (m' := m) ((0, .iconst 1, 1, 0, 0, 0, 0), (0, 0, 0)) [((1, .aload_n 0, 1, 0, 0, 0, 0), (0, 0, 0)), ((2, .getfield 54, 3, 6, 2, 2039, 0), (0, 70, 0)), ((5, .ishl, 1, 0, 0, 0, 0), (0, 0, 0)), ((6, .iconst 1, 1, 0, 0, 0, 0), (0, 0, 0)), ((7, .isub, 1, 0, 0, 0, 0), (0, 0, 0)), ((8, .istore_n 1, 1, 0, 0, 0, 0), (0, 0, 0)), ((9, .iload_n 1, 1, 0, 0, 0, 0), (0, 0, 0)), ((10, .istore_n 2, 1, 0, 0, 0, 0), (0, 0, 0)), ((11, .iconst 0, 1, 0, 0, 0, 0), (0, 0, 0)), ((12, .istore_n 3, 1, 0, 0, 0, 0), (0, 0, 0))] (by decide +kernel) rfl ?_
  exact hx_pick [0, 1, 2, 3] h1

/-- fewestBack from 13 on -/
theorem hr93_13 {xs : List Int32} {n : Nat} {Q : hQ} {m : gx_M} {x1 x2 x3 : Int}
    (h1 : (x1 ≤ x3) → Q (some (.inl x2)) m)
    (h2 : (x3 < x1) → hxn xs n yp_m63 0 [(0, .inl x3)] [] m (fun r m' => hxn xs n yp_m93 22 [(0, .inr (.inl 70)), (1, .inl x1), (2, .inl x2), (3, .inl x3)] (hrs r ++ []) m' Q)) : hxn xs (n + 1) yp_m93 13 [(0, .inr (.inl 70)), (1, .inl x1), (2, .inl x2), (3, .inl x3)] [] m Q := by
  refine hx_blks (npc := 15) (L' := [(0, .inr (.inl 70)), (1, .inl x1), (2, .inl x2), (3, .inl x3)]) (st' := [.inl x1, .inl x3]) (m' := m) ((13, .iload_n 3, 1, 0, 0, 0, 0), (0, 0, 0)) [((14, .iload_n 1, 1, 0, 0, 0, 0), (0, 0, 0))] (by decide +kernel) rfl ?_
  refine hx_cmp .ge 45 (by decide +kernel) (fun c1 => ?_) (fun c1 => ?_)
  · have c1 : x1 ≤ x3 := c1
    refine hx_blk (npc := 46) (L' := [(0, .inr (.inl 70)), (1, .inl x1), (2, .inl x2), (3, .inl x3)]) (st' := [.inl x2]) (m' := m) [((45, .iload_n 2, 1, 0, 0, 0, 0), (0, 0, 0))] (by decide +kernel) rfl ?_
    exact hx_reti (by decide +kernel) (h1 c1)
  · have c1 : x3 < x1 := by have h : ¬ (x1 ≤ x3) := c1; omega
    refine hx_blk (npc := 19) (L' := [(0, .inr (.inl 70)), (1, .inl x1), (2, .inl x2), (3, .inl x3)]) (st' := [.inl x3]) (m' := m) [((18, .iload_n 3, 1, 0, 0, 0, 0), (0, 0, 0))] (by decide +kernel) rfl ?_
    exact hx_call (E := (19, .invokestatic 62, 3, 63, 0, 4051, 0)) (M' := yp_m63) [.inl x3] [] rfl (by decide +kernel) rfl ⟨rfl, rfl⟩ rfl rfl (hx_mono (h2 c1) (fun r m' h' => hx_pick [0, 1, 2, 3] h'))

/-- fewestBack from 22 on -/
theorem hr93_22 {xs : List Int32} {n : Nat} {Q : hQ} {m : gx_M} {x1 x2 x3 s0 : Int}
    (h1 : hxn xs n yp_m63 0 [(0, .inl x2)] [] m (fun r m' => hxn xs n yp_m93 26 [(0, .inr (.inl 70)), (1, .inl x1), (2, .inl x2), (3, .inl x3)] (hrs r ++ [.inl s0]) m' Q)) : hxn xs (n + 1) yp_m93 22 [(0, .inr (.inl 70)), (1, .inl x1), (2, .inl x2), (3, .inl x3)] [.inl s0] m Q := by
  refine hx_blks (npc := 23) (L' := [(0, .inr (.inl 70)), (1, .inl x1), (2, .inl x2), (3, .inl x3)]) (st' := [.inl x2, .inl s0]) (m' := m) ((22, .iload_n 2, 1, 0, 0, 0, 0), (0, 0, 0)) [] (by decide +kernel) rfl ?_
  exact hx_call (E := (23, .invokestatic 62, 3, 63, 0, 4051, 0)) (M' := yp_m63) [.inl x2] [.inl s0] rfl (by decide +kernel) rfl ⟨rfl, rfl⟩ rfl rfl (hx_mono h1 (fun r m' h' => hx_pick [0, 1, 2, 3] h'))

/-- fewestBack from 26 on -/
theorem hr93_26 {xs : List Int32} {n : Nat} {Q : hQ} {m : gx_M} {x1 x2 x3 s0 s1 : Int}
    (h1 : (s1 ≤ s0) → hxn xs n yp_m93 13 [(0, .inr (.inl 70)), (1, .inl x1), (2, .inl x2), (3, .inl (gx_w (x3 + 1)))] [] m Q)
    (h2 : (s0 < s1) → hxn xs n yp_m94 0 [(0, .inr (.inl 70)), (1, .inl x3)] [] m (fun r m' => hxn xs n yp_m93 34 [(0, .inr (.inl 70)), (1, .inl x1), (2, .inl x2), (3, .inl x3)] (hrs r ++ []) m' Q)) : hxn xs (n + 1) yp_m93 26 [(0, .inr (.inl 70)), (1, .inl x1), (2, .inl x2), (3, .inl x3)] [.inl s1, .inl s0] m Q := by
  refine hx_cmps .ge 39 (by decide +kernel) (fun c1 => ?_) (fun c1 => ?_)
  · have c1 : s1 ≤ s0 := c1
    refine hx_blk (npc := 13) (L' := [(0, .inr (.inl 70)), (1, .inl x1), (2, .inl x2), (3, .inl (gx_w (x3 + 1)))]) (st' := []) (m' := m) [((39, .iinc 3 1, 3, 0, 0, 0, 0), (0, 0, 0)), ((42, .goto (-29), 3, 0, 0, 0, 0), (0, 0, 0))] (by decide +kernel) rfl ?_
    exact hx_pick [0, 1, 2, 3] (h1 c1)
  · have c1 : s0 < s1 := by have h : ¬ (s1 ≤ s0) := c1; omega
    refine hx_blk (npc := 31) (L' := [(0, .inr (.inl 70)), (1, .inl x1), (2, .inl x2), (3, .inl x3)]) (st' := [.inl x3, .inr (.inl 70)]) (m' := m) [((29, .aload_n 0, 1, 0, 0, 0, 0), (0, 0, 0)), ((30, .iload_n 3, 1, 0, 0, 0, 0), (0, 0, 0))] (by decide +kernel) rfl ?_
    exact hx_call (E := (31, .invokevirtual 68, 3, 94, 0, 4052, 0)) (M' := yp_m94) [.inr (.inl 70), .inl x3] [] rfl (by decide +kernel) rfl ⟨rfl, rfl⟩ rfl rfl (hx_mono (h2 c1) (fun r m' h' => hx_pick [0, 1, 2, 3] h'))

/-- fewestBack from 34 on -/
theorem hr93_34 {xs : List Int32} {n : Nat} {Q : hQ} {m : gx_M} {x1 x2 x3 s0 : Int}
    (h1 : (s0 = 0) → hxn xs n yp_m93 13 [(0, .inr (.inl 70)), (1, .inl x1), (2, .inl x2), (3, .inl (gx_w (x3 + 1)))] [] m Q)
    (h2 : (s0 ≠ 0) → hxn xs n yp_m93 13 [(0, .inr (.inl 70)), (1, .inl x1), (2, .inl x3), (3, .inl (gx_w (x3 + 1)))] [] m Q) : hxn xs (n + 1) yp_m93 34 [(0, .inr (.inl 70)), (1, .inl x1), (2, .inl x2), (3, .inl x3)] [.inl s0] m Q := by
  refine hx_ifs .eq 39 (by decide +kernel) (fun c1 => ?_) (fun c1 => ?_)
  · have c1 : s0 = 0 := c1
    refine hx_blk (npc := 13) (L' := [(0, .inr (.inl 70)), (1, .inl x1), (2, .inl x2), (3, .inl (gx_w (x3 + 1)))]) (st' := []) (m' := m) [((39, .iinc 3 1, 3, 0, 0, 0, 0), (0, 0, 0)), ((42, .goto (-29), 3, 0, 0, 0, 0), (0, 0, 0))] (by decide +kernel) rfl ?_
    exact hx_pick [0, 1, 2, 3] (h1 c1)
  · have c1 : s0 ≠ 0 := c1
    refine hx_blk (npc := 13) (L' := [(0, .inr (.inl 70)), (1, .inl x1), (2, .inl x3), (3, .inl (gx_w (x3 + 1)))]) (st' := []) (m' := m) [((37, .iload_n 3, 1, 0, 0, 0, 0), (0, 0, 0)), ((38, .istore_n 2, 1, 0, 0, 0, 0), (0, 0, 0)), ((39, .iinc 3 1, 3, 0, 0, 0, 0), (0, 0, 0)), ((42, .goto (-29), 3, 0, 0, 0, 0), (0, 0, 0))] (by decide +kernel) rfl ?_
    exact hx_pick [0, 1, 2, 3] (h2 c1)

/-- givenBack from 0 on -/
theorem hr89_0 {xs : List Int32} {n : Nat} {Q : hQ} {m : gx_M} {x1 x2 x3 : Int}
    (h1 : (cPers 5 m x1) → (x3 < 0) → Q (some (.inl (-1))) m)
    (h2 : (cPers 5 m x1) → (0 ≤ x3) → (x3 ≤ 2) → hxn xs n yp_m90 0 [(0, .inr (.inl 70)), (1, .inr (.inl 5)), (2, .inl x1)] [] m (fun r m' => hxn xs n yp_m89 34 [(0, .inr (.inl 0)), (2, .inl x2), (3, .inl x3)] (hrs r ++ []) m' Q))
    (h3 : (cPers 5 m x1) → (0 ≤ x3) → (2 < x3) → Q (some (.inl (-1))) m)
    (h4 : (¬ (cPers 5 m x1)) → Q (some (.inl (-1))) m) : hxn xs (n + 1) yp_m89 0 [(0, .inr (.inl 0)), (1, .inl x1), (2, .inl x2), (3, .inl x3)] [] m Q := by
  refine hx_blks (npc := 5) (L' := [(0, .inr (.inl 0)), (1, .inl x1), (2, .inl x2), (3, .inl x3)]) (st' := [.inl x1, .inr (.inl 5)]) (m' := m) ((0, .aload_n 0, 1, 0, 0, 0, 0), (0, 0, 0)) [((1, .getfield 26, 3, 9, 2, 2121, 0), (1, 0, 5)), ((4, .iload_n 1, 1, 0, 0, 0, 0), (0, 0, 0))] (by decide +kernel) rfl ?_
  refine hx_call (E := (5, .invokevirtual 94, 3, 13, 0, 2171, 0)) (M' := yp_m13) [.inr (.inl 5), .inl x1] [] rfl (by decide +kernel) rfl ⟨rfl, rfl⟩ rfl rfl (hs13_5 (fun c1 => ?_) (fun c1 => ?_))
  · have c1 : cPers 5 m x1 := c1
    show hxn xs n yp_m89 8 [(0, .inr (.inl 0)), (1, .inl x1), (2, .inl x2), (3, .inl x3)] [.inl 1] m Q
    refine hx_if .eq 20 (by decide +kernel) (fun c2 => ?_) (fun c2 => ?_)
    · have c2 : (1 : Int) = 0 := c2
      exfalso; omega
    · have c2 : (1 : Int) ≠ 0 := c2
      refine hx_blk (npc := 12) (L' := [(0, .inr (.inl 0)), (1, .inl x1), (2, .inl x2), (3, .inl x3)]) (st' := [.inl x3]) (m' := m) [((11, .iload_n 3, 1, 0, 0, 0, 0), (0, 0, 0))] (by decide +kernel) rfl ?_
      refine hx_if .lt 20 (by decide +kernel) (fun c2 => ?_) (fun c2 => ?_)
      · have c2 : x3 < 0 := c2
        refine hx_blk (npc := 21) (L' := [(0, .inr (.inl 0)), (1, .inl x1), (2, .inl x2), (3, .inl x3)]) (st' := [.inl (-1)]) (m' := m) [((20, .iconst (-1), 1, 0, 0, 0, 0), (0, 0, 0))] (by decide +kernel) rfl ?_
        exact hx_reti (by decide +kernel) (h1 c1 c2)
      · have c2 : 0 ≤ x3 := by have h : ¬ (x3 < 0) := c2; omega
        refine hx_blk (npc := 17) (L' := [(0, .inr (.inl 0)), (1, .inl x1), (2, .inl x2), (3, .inl x3)]) (st' := [.inl 2, .inl x3]) (m' := m) [((15, .iload_n 3, 1, 0, 0, 0, 0), (0, 0, 0)), ((16, .iconst 2, 1, 0, 0, 0, 0), (0, 0, 0))] (by decide +kernel) rfl ?_
        refine hx_cmp .le 22 (by decide +kernel) (fun c3 => ?_) (fun c3 => ?_)
        · have c3 : x3 ≤ 2 := c3
          refine hx_blk (npc := 31) (L' := [(0, .inr (.inl 0)), (1, .inl x1), (2, .inl x2), (3, .inl x3)]) (st' := [.inl x1, .inr (.inl 5), .inr (.inl 70)]) (m' := m) [((22, .aload_n 0, 1, 0, 0, 0, 0), (0, 0, 0)), ((23, .getfield 67, 3, 9, 9, 2128, 0), (1, 0, 70)), ((26, .aload_n 0, 1, 0, 0, 0, 0), (0, 0, 0)), ((27, .getfield 26, 3, 9, 2, 2121, 0), (1, 0, 5)), ((30, .iload_n 1, 1, 0, 0, 0, 0), (0, 0, 0))] (by decide +kernel) rfl ?_
          exact hx_call (E := (31, .invokevirtual 213, 3, 90, 0, 4036, 0)) (M' := yp_m90) [.inr (.inl 70), .inr (.inl 5), .inl x1] [] rfl (by decide +kernel) rfl ⟨rfl, rfl⟩ rfl rfl (hx_mono (h2 c1 c2 c3) (fun r m' h' => hx_pick [0, 2, 3] h'))
        · have c3 : 2 < x3 := by have h : ¬ (x3 ≤ 2) := c3; omega
          refine hx_blk (npc := 21) (L' := [(0, .inr (.inl 0)), (1, .inl x1), (2, .inl x2), (3, .inl x3)]) (st' := [.inl (-1)]) (m' := m) [((20, .iconst (-1), 1, 0, 0, 0, 0), (0, 0, 0))] (by decide +kernel) rfl ?_
          exact hx_reti (by decide +kernel) (h3 c1 c2 c3)
  · have c1 : ¬ (cPers 5 m x1) := c1
    show hxn xs n yp_m89 8 [(0, .inr (.inl 0)), (1, .inl x1), (2, .inl x2), (3, .inl x3)] [.inl 0] m Q
    refine hx_if .eq 20 (by decide +kernel) (fun c2 => ?_) (fun c2 => ?_)
    · have c2 : (0 : Int) = 0 := c2
      refine hx_blk (npc := 21) (L' := [(0, .inr (.inl 0)), (1, .inl x1), (2, .inl x2), (3, .inl x3)]) (st' := [.inl (-1)]) (m' := m) [((20, .iconst (-1), 1, 0, 0, 0, 0), (0, 0, 0))] (by decide +kernel) rfl ?_
      exact hx_reti (by decide +kernel) (h4 c1)
    · have c2 : (0 : Int) ≠ 0 := c2
      exfalso; omega

/-- givenBack from 34 on -/
theorem hr89_34 {xs : List Int32} {n : Nat} {Q : hQ} {m : gx_M} {x2 x3 : Int}
    (h1 : (x3 ≠ 2) → hxn xs n yp_m93 0 [(0, .inr (.inl 70))] [] m (fun r m' => hxn xs n yp_m89 75 [(3, .inl x3)] (hrs r ++ []) m' Q))
    (h2 : (x3 = 2) → (x2 < 0) → Q (some (.inl (-2))) m)
    (h3 : (x3 = 2) → (0 ≤ x2) → (x2 < (m 70 2)) → hxn xs n yp_m92 0 [(0, .inr (.inl 70)), (1, .inl x2)] [] m (fun r m' => hxn xs n yp_m89 67 [] (hrs r ++ []) m' Q))
    (h4 : (x3 = 2) → (0 ≤ x2) → ((m 70 2) ≤ x2) → Q (some (.inl (-2))) m) : hxn xs (n + 1) yp_m89 34 [(0, .inr (.inl 0)), (2, .inl x2), (3, .inl x3)] [] m Q := by
  refine hx_blks (npc := 36) (L' := [(0, .inr (.inl 0)), (2, .inl x2), (3, .inl x3)]) (st' := [.inl 2, .inl x3]) (m' := m) ((34, .iload_n 3, 1, 0, 0, 0, 0), (0, 0, 0)) [((35, .iconst 2, 1, 0, 0, 0, 0), (0, 0, 0))] (by decide +kernel) rfl ?_
  refine hx_cmp .ne 68 (by decide +kernel) (fun c1 => ?_) (fun c1 => ?_)
  · have c1 : x3 ≠ 2 := c1
    refine hx_blk (npc := 72) (L' := [(0, .inr (.inl 0)), (2, .inl x2), (3, .inl x3)]) (st' := [.inr (.inl 70)]) (m' := m) [((68, .aload_n 0, 1, 0, 0, 0, 0), (0, 0, 0)), ((69, .getfield 67, 3, 9, 9, 2128, 0), (1, 0, 70))] (by decide +kernel) rfl ?_
    exact hx_call (E := (72, .invokevirtual 224, 3, 93, 0, 4047, 0)) (M' := yp_m93) [.inr (.inl 70)] [] rfl (by decide +kernel) rfl ⟨rfl, rfl⟩ rfl rfl (hx_mono (h1 c1) (fun r m' h' => hx_pick [3] h'))
  · have c1 : x3 = 2 := by have h : ¬ (x3 ≠ 2) := c1; omega
    refine hx_blk (npc := 40) (L' := [(0, .inr (.inl 0)), (2, .inl x2), (3, .inl x3)]) (st' := [.inl x2]) (m' := m) [((39, .iload_n 2, 1, 0, 0, 0, 0), (0, 0, 0))] (by decide +kernel) rfl ?_
    refine hx_if .lt 54 (by decide +kernel) (fun c2 => ?_) (fun c2 => ?_)
    · have c2 : x2 < 0 := c2
      refine hx_blk (npc := 67) (L' := [(0, .inr (.inl 0)), (2, .inl x2), (3, .inl x3)]) (st' := [.inl (-2)]) (m' := m) [((54, .bipush (-2), 2, 0, 0, 0, 0), (0, 0, 0)), ((56, .goto 11, 3, 0, 0, 0, 0), (0, 0, 0))] (by decide +kernel) rfl ?_
      exact hx_reti (by decide +kernel) (h2 c1 c2)
    · have c2 : 0 ≤ x2 := by have h : ¬ (x2 < 0) := c2; omega
      refine hx_blk (npc := 51) (L' := [(0, .inr (.inl 0)), (2, .inl x2), (3, .inl x3)]) (st' := [.inl (m 70 2), .inl x2]) (m' := m) [((43, .iload_n 2, 1, 0, 0, 0, 0), (0, 0, 0)), ((44, .aload_n 0, 1, 0, 0, 0, 0), (0, 0, 0)), ((45, .getfield 67, 3, 9, 9, 2128, 0), (1, 0, 70)), ((48, .getfield 217, 3, 6, 2, 2040, 0), (0, 70, 0))] (by decide +kernel) rfl ?_
      refine hx_cmp .lt 59 (by decide +kernel) (fun c3 => ?_) (fun c3 => ?_)
      · have c3 : x2 < (m 70 2) := c3
        refine hx_blk (npc := 64) (L' := [(0, .inr (.inl 0)), (2, .inl x2), (3, .inl x3)]) (st' := [.inl x2, .inr (.inl 70)]) (m' := m) [((59, .aload_n 0, 1, 0, 0, 0, 0), (0, 0, 0)), ((60, .getfield 67, 3, 9, 9, 2128, 0), (1, 0, 70)), ((63, .iload_n 2, 1, 0, 0, 0, 0), (0, 0, 0))] (by decide +kernel) rfl ?_
        exact hx_call (E := (64, .invokevirtual 220, 3, 92, 0, 4043, 0)) (M' := yp_m92) [.inr (.inl 70), .inl x2] [] rfl (by decide +kernel) rfl ⟨rfl, rfl⟩ rfl rfl (hx_mono (h3 c1 c2 c3) (fun r m' h' => hx_pick [] h'))
      · have c3 : (m 70 2) ≤ x2 := by have h : ¬ (x2 < (m 70 2)) := c3; omega
        refine hx_blk (npc := 67) (L' := [(0, .inr (.inl 0)), (2, .inl x2), (3, .inl x3)]) (st' := [.inl (-2)]) (m' := m) [((54, .bipush (-2), 2, 0, 0, 0, 0), (0, 0, 0)), ((56, .goto 11, 3, 0, 0, 0, 0), (0, 0, 0))] (by decide +kernel) rfl ?_
        exact hx_reti (by decide +kernel) (h4 c1 c2 c3)

/-- givenBack from 67 on -/
theorem hr89_67 {xs : List Int32} {n : Nat} {Q : hQ} {m : gx_M} {s0 : Int}
    (h1 : Q (some (.inl s0)) m) : hxn xs (n + 1) yp_m89 67 [] [.inl s0] m Q := by
  exact hx_reti (by decide +kernel) h1

/-- givenBack from 75 on -/
theorem hr89_75 {xs : List Int32} {n : Nat} {Q : hQ} {m : gx_M} {x3 s0 : Int}
    (h1 : (x3 ≠ 0) → Q (some (.inl s0)) m)
    (h2 : (x3 = 0) → hxn xs n yp_m63 0 [(0, .inl s0)] [] m (fun r m' => hxn xs n yp_m89 86 [] (hrs r ++ []) m' Q)) : hxn xs (n + 1) yp_m89 75 [(3, .inl x3)] [.inl s0] m Q := by
  refine hx_blks (npc := 78) (L' := [(3, .inl x3), (4, .inl s0)]) (st' := [.inl x3]) (m' := m) ((75, .istore 4, 2, 0, 0, 0, 0), (0, 0, 0)) [((77, .iload_n 3, 1, 0, 0, 0, 0), (0, 0, 0))] (by decide +kernel) rfl ?_
  refine hx_if .ne 89 (by decide +kernel) (fun c1 => ?_) (fun c1 => ?_)
  · have c1 : x3 ≠ 0 := c1
    refine hx_blk (npc := 91) (L' := [(3, .inl x3), (4, .inl s0)]) (st' := [.inl s0]) (m' := m) [((89, .iload 4, 2, 0, 0, 0, 0), (0, 0, 0))] (by decide +kernel) rfl ?_
    exact hx_reti (by decide +kernel) (h1 c1)
  · have c1 : x3 = 0 := by have h : ¬ (x3 ≠ 0) := c1; omega
    refine hx_blk (npc := 83) (L' := [(3, .inl x3), (4, .inl s0)]) (st' := [.inl s0]) (m' := m) [((81, .iload 4, 2, 0, 0, 0, 0), (0, 0, 0))] (by decide +kernel) rfl ?_
    exact hx_call (E := (83, .invokestatic 228, 3, 63, 0, 4056, 0)) (M' := yp_m63) [.inl s0] [] rfl (by decide +kernel) rfl ⟨rfl, rfl⟩ rfl rfl (hx_mono (h2 c1) (fun r m' h' => hx_pick [] h'))

/-- givenBack from 86 on -/
theorem hr89_86 {xs : List Int32} {n : Nat} {Q : hQ} {m : gx_M} {s0 : Int}
    (h1 : Q (some (.inl s0)) m) : hxn xs (n + 1) yp_m89 86 [] [.inl s0] m Q := by
  refine hx_blks (npc := 91) (L' := []) (st' := [.inl s0]) (m' := m) ((86, .goto 5, 3, 0, 0, 0, 0), (0, 0, 0)) [] (by decide +kernel) rfl ?_
  exact hx_reti (by decide +kernel) h1

/-- isInClash from 0 on -/
theorem hr230_0 {xs : List Int32} {n : Nat} {Q : hQ} {m : gx_M} {x1 x2 : Int}
    (h1 : hxn xs n yp_m230 2 [(0, .inr (.inl 86)), (1, .inl x1), (2, .inl x2), (3, .inl 0)] [] m Q) : hxn xs (n + 1) yp_m230 0 [(0, .inr (.inl 86)), (1, .inl x1), (2, .inl x2)] [] m Q := by
  refine hx_blks (npc := 2) (L' := [(0, .inr (.inl 86)), (1, .inl x1), (2, .inl x2), (3, .inl 0)]) (st' := []) (m' := m) ((0, .iconst 0, 1, 0, 0, 0, 0), (0, 0, 0)) [((1, .istore_n 3, 1, 0, 0, 0, 0), (0, 0, 0))] (by decide +kernel) rfl ?_
  exact hx_pick [0, 1, 2, 3] h1

/-- isInClash from 2 on -/
theorem hr230_2 {xs : List Int32} {n : Nat} {Q : hQ} {m : gx_M} {x1 x2 x3 : Int}
    (h1 : (40 ≤ x3) → Q (some (.inl 0)) m)
    (h2 : (x3 < 40) → (x3 = x2) → hxn xs n yp_m230 2 [(0, .inr (.inl 86)), (1, .inl x1), (2, .inl x2), (3, .inl (gx_w (x3 + 1)))] [] m Q)
    (h3 : (x3 < 40) → (x3 ≠ x2) → hxn xs n yp_m228 0 [(0, .inr (.inl 86)), (1, .inl x1), (2, .inl x2), (3, .inl x3)] [] m (fun r m' => hxn xs n yp_m230 20 [(0, .inr (.inl 86)), (1, .inl x1), (2, .inl x2), (3, .inl x3)] (hrs r ++ []) m' Q)) : hxn xs (n + 1) yp_m230 2 [(0, .inr (.inl 86)), (1, .inl x1), (2, .inl x2), (3, .inl x3)] [] m Q := by
  refine hx_blks (npc := 5) (L' := [(0, .inr (.inl 86)), (1, .inl x1), (2, .inl x2), (3, .inl x3)]) (st' := [.inl 40, .inl x3]) (m' := m) ((2, .iload_n 3, 1, 0, 0, 0, 0), (0, 0, 0)) [((3, .bipush 40, 2, 0, 0, 0, 0), (0, 0, 0))] (by decide +kernel) rfl ?_
  refine hx_cmp .ge 31 (by decide +kernel) (fun c1 => ?_) (fun c1 => ?_)
  · have c1 : 40 ≤ x3 := c1
    refine hx_blk (npc := 32) (L' := [(0, .inr (.inl 86)), (1, .inl x1), (2, .inl x2), (3, .inl x3)]) (st' := [.inl 0]) (m' := m) [((31, .iconst 0, 1, 0, 0, 0, 0), (0, 0, 0))] (by decide +kernel) rfl ?_
    exact hx_reti (by decide +kernel) (h1 c1)
  · have c1 : x3 < 40 := by have h : ¬ (40 ≤ x3) := c1; omega
    refine hx_blk (npc := 10) (L' := [(0, .inr (.inl 86)), (1, .inl x1), (2, .inl x2), (3, .inl x3)]) (st' := [.inl x2, .inl x3]) (m' := m) [((8, .iload_n 3, 1, 0, 0, 0, 0), (0, 0, 0)), ((9, .iload_n 2, 1, 0, 0, 0, 0), (0, 0, 0))] (by decide +kernel) rfl ?_
    refine hx_cmp .eq 25 (by decide +kernel) (fun c2 => ?_) (fun c2 => ?_)
    · have c2 : x3 = x2 := c2
      refine hx_blk (npc := 2) (L' := [(0, .inr (.inl 86)), (1, .inl x1), (2, .inl x2), (3, .inl (gx_w (x3 + 1)))]) (st' := []) (m' := m) [((25, .iinc 3 1, 3, 0, 0, 0, 0), (0, 0, 0)), ((28, .goto (-26), 3, 0, 0, 0, 0), (0, 0, 0))] (by decide +kernel) rfl ?_
      exact hx_pick [0, 1, 2, 3] (h2 c1 c2)
    · have c2 : x3 ≠ x2 := c2
      refine hx_blk (npc := 17) (L' := [(0, .inr (.inl 86)), (1, .inl x1), (2, .inl x2), (3, .inl x3)]) (st' := [.inl x3, .inl x2, .inl x1, .inr (.inl 86)]) (m' := m) [((13, .aload_n 0, 1, 0, 0, 0, 0), (0, 0, 0)), ((14, .iload_n 1, 1, 0, 0, 0, 0), (0, 0, 0)), ((15, .iload_n 2, 1, 0, 0, 0, 0), (0, 0, 0)), ((16, .iload_n 3, 1, 0, 0, 0, 0), (0, 0, 0))] (by decide +kernel) rfl ?_
      exact hx_call (E := (17, .invokevirtual 315, 3, 228, 0, 7040, 0)) (M' := yp_m228) [.inr (.inl 86), .inl x1, .inl x2, .inl x3] [] rfl (by decide +kernel) rfl ⟨rfl, rfl⟩ rfl rfl (hx_mono (h3 c1 c2) (fun r m' h' => hx_pick [0, 1, 2, 3] h'))

/-- isInClash from 20 on -/
theorem hr230_20 {xs : List Int32} {n : Nat} {Q : hQ} {m : gx_M} {x1 x2 x3 s0 : Int}
    (h1 : (s0 = 0) → hxn xs n yp_m230 2 [(0, .inr (.inl 86)), (1, .inl x1), (2, .inl x2), (3, .inl (gx_w (x3 + 1)))] [] m Q)
    (h2 : (s0 ≠ 0) → Q (some (.inl 1)) m) : hxn xs (n + 1) yp_m230 20 [(0, .inr (.inl 86)), (1, .inl x1), (2, .inl x2), (3, .inl x3)] [.inl s0] m Q := by
  refine hx_ifs .eq 25 (by decide +kernel) (fun c1 => ?_) (fun c1 => ?_)
  · have c1 : s0 = 0 := c1
    refine hx_blk (npc := 2) (L' := [(0, .inr (.inl 86)), (1, .inl x1), (2, .inl x2), (3, .inl (gx_w (x3 + 1)))]) (st' := []) (m' := m) [((25, .iinc 3 1, 3, 0, 0, 0, 0), (0, 0, 0)), ((28, .goto (-26), 3, 0, 0, 0, 0), (0, 0, 0))] (by decide +kernel) rfl ?_
    exact hx_pick [0, 1, 2, 3] (h1 c1)
  · have c1 : s0 ≠ 0 := c1
    refine hx_blk (npc := 24) (L' := [(0, .inr (.inl 86)), (1, .inl x1), (2, .inl x2), (3, .inl x3)]) (st' := [.inl 1]) (m' := m) [((23, .iconst 1, 1, 0, 0, 0, 0), (0, 0, 0))] (by decide +kernel) rfl ?_
    exact hx_reti (by decide +kernel) (h2 c1)

/-- isFree from 0 on -/
theorem hr231_0 {xs : List Int32} {n : Nat} {Q : hQ} {m : gx_M} {x1 x2 : Int}
    (h1 : hxn xs n yp_m231 2 [(0, .inr (.inl 86)), (1, .inl x1), (2, .inl x2), (3, .inl 0)] [] m Q) : hxn xs (n + 1) yp_m231 0 [(0, .inr (.inl 86)), (1, .inl x1), (2, .inl x2)] [] m Q := by
  refine hx_blks (npc := 2) (L' := [(0, .inr (.inl 86)), (1, .inl x1), (2, .inl x2), (3, .inl 0)]) (st' := []) (m' := m) ((0, .iconst 0, 1, 0, 0, 0, 0), (0, 0, 0)) [((1, .istore_n 3, 1, 0, 0, 0, 0), (0, 0, 0))] (by decide +kernel) rfl ?_
  exact hx_pick [0, 1, 2, 3] h1

/-- isFree from 2 on -/
theorem hr231_2 {xs : List Int32} {n : Nat} {Q : hQ} {m : gx_M} {x1 x2 x3 : Int}
    (h1 : ((m 86 34) ≤ x3) → Q (some (.inl 1)) m)
    (h2 : (x3 < (m 86 34)) → hxn xs n yp_m231 13 [(0, .inr (.inl 86)), (1, .inl x1), (2, .inl x2), (3, .inl x3), (4, .inl 0)] [] m Q) : hxn xs (n + 1) yp_m231 2 [(0, .inr (.inl 86)), (1, .inl x1), (2, .inl x2), (3, .inl x3)] [] m Q := by
  refine hx_blks (npc := 7) (L' := [(0, .inr (.inl 86)), (1, .inl x1), (2, .inl x2), (3, .inl x3)]) (st' := [.inl (m 86 34), .inl x3]) (m' := m) ((2, .iload_n 3, 1, 0, 0, 0, 0), (0, 0, 0)) [((3, .aload_n 0, 1, 0, 0, 0, 0), (0, 0, 0)), ((4, .getfield 318, 3, 10, 34, 5147, 0), (0, 86, 0))] (by decide +kernel) rfl ?_
  refine hx_cmp .ge 71 (by decide +kernel) (fun c1 => ?_) (fun c1 => ?_)
  · have c1 : (m 86 34) ≤ x3 := c1
    refine hx_blk (npc := 72) (L' := [(0, .inr (.inl 86)), (1, .inl x1), (2, .inl x2), (3, .inl x3)]) (st' := [.inl 1]) (m' := m) [((71, .iconst 1, 1, 0, 0, 0, 0), (0, 0, 0))] (by decide +kernel) rfl ?_
    exact hx_reti (by decide +kernel) (h1 c1)
  · have c1 : x3 < (m 86 34) := by have h : ¬ ((m 86 34) ≤ x3) := c1; omega
    refine hx_blk (npc := 13) (L' := [(0, .inr (.inl 86)), (1, .inl x1), (2, .inl x2), (3, .inl x3), (4, .inl 0)]) (st' := []) (m' := m) [((10, .iconst 0, 1, 0, 0, 0, 0), (0, 0, 0)), ((11, .istore 4, 2, 0, 0, 0, 0), (0, 0, 0))] (by decide +kernel) rfl ?_
    exact hx_pick [0, 1, 2, 3, 4] (h2 c1)

/-- isFree from 13 on -/
theorem hr231_13 {xs : List Int32} {n : Nat} {Q : hQ} {m : gx_M} {x1 x2 x3 x4 : Int}
    (h1 : (x3 ≤ x4) → hxn xs n yp_m231 2 [(0, .inr (.inl 86)), (1, .inl x1), (2, .inl x2), (3, .inl (gx_w (x3 + 1)))] [] m Q)
    (h2 : (x4 < x3) → (gx_and (gx_shr x2 x3) 1 = 1) → hxn xs n yp_m231 13 [(0, .inr (.inl 86)), (1, .inl x1), (2, .inl x2), (3, .inl x3), (4, .inl (gx_w (x4 + 1)))] [] m Q)
    (h3 : (x4 < x3) → (¬ (gx_and (gx_shr x2 x3) 1 = 1)) → (gx_and (gx_shr x2 x4) 1 = 1) → hxn xs n yp_m231 13 [(0, .inr (.inl 86)), (1, .inl x1), (2, .inl x2), (3, .inl x3), (4, .inl (gx_w (x4 + 1)))] [] m Q)
    (h4 : (x4 < x3) → (¬ (gx_and (gx_shr x2 x3) 1 = 1)) → (¬ (gx_and (gx_shr x2 x4) 1 = 1)) → hxn xs n yp_m228 0 [(0, .inr (.inl 86)), (1, .inl x1), (2, .inl (m 110 (x3).toNat)), (3, .inl (m 110 (x4).toNat))] [] m (fun r m' => hxn xs n yp_m231 54 [(0, .inr (.inl 86)), (1, .inl x1), (2, .inl x2), (3, .inl x3), (4, .inl x4)] (hrs r ++ []) m' Q)) : hxn xs (n + 1) yp_m231 13 [(0, .inr (.inl 86)), (1, .inl x1), (2, .inl x2), (3, .inl x3), (4, .inl x4)] [] m Q := by
  refine hx_blks (npc := 16) (L' := [(0, .inr (.inl 86)), (1, .inl x1), (2, .inl x2), (3, .inl x3), (4, .inl x4)]) (st' := [.inl x3, .inl x4]) (m' := m) ((13, .iload 4, 2, 0, 0, 0, 0), (0, 0, 0)) [((15, .iload_n 3, 1, 0, 0, 0, 0), (0, 0, 0))] (by decide +kernel) rfl ?_
  refine hx_cmp .ge 65 (by decide +kernel) (fun c1 => ?_) (fun c1 => ?_)
  · have c1 : x3 ≤ x4 := c1
    refine hx_blk (npc := 2) (L' := [(0, .inr (.inl 86)), (1, .inl x1), (2, .inl x2), (3, .inl (gx_w (x3 + 1))), (4, .inl x4)]) (st' := []) (m' := m) [((65, .iinc 3 1, 3, 0, 0, 0, 0), (0, 0, 0)), ((68, .goto (-66), 3, 0, 0, 0, 0), (0, 0, 0))] (by decide +kernel) rfl ?_
    exact hx_pick [0, 1, 2, 3] (h1 c1)
  · have c1 : x4 < x3 := by have h : ¬ (x3 ≤ x4) := c1; omega
    refine hx_blk (npc := 21) (L' := [(0, .inr (.inl 86)), (1, .inl x1), (2, .inl x2), (3, .inl x3), (4, .inl x4)]) (st' := [.inl x3, .inl x2]) (m' := m) [((19, .iload_n 2, 1, 0, 0, 0, 0), (0, 0, 0)), ((20, .iload_n 3, 1, 0, 0, 0, 0), (0, 0, 0))] (by decide +kernel) rfl ?_
    refine hx_call (E := (21, .invokestatic 104, 3, 165, 0, 6035, 0)) (M' := yp_m165) [.inl x2, .inl x3] [] rfl (by decide +kernel) rfl ⟨rfl, rfl⟩ rfl rfl (hs165 (fun c2 => ?_) (fun c2 => ?_))
    · have c2 : gx_and (gx_shr x2 x3) 1 = 1 := c2
      show hxn xs n yp_m231 24 [(0, .inr (.inl 86)), (1, .inl x1), (2, .inl x2), (3, .inl x3), (4, .inl x4)] [.inl 1] m Q
      refine hx_if .ne 59 (by decide +kernel) (fun c3 => ?_) (fun c3 => ?_)
      · have c3 : (1 : Int) ≠ 0 := c3
        refine hx_blk (npc := 13) (L' := [(0, .inr (.inl 86)), (1, .inl x1), (2, .inl x2), (3, .inl x3), (4, .inl (gx_w (x4 + 1)))]) (st' := []) (m' := m) [((59, .iinc 4 1, 3, 0, 0, 0, 0), (0, 0, 0)), ((62, .goto (-49), 3, 0, 0, 0, 0), (0, 0, 0))] (by decide +kernel) rfl ?_
        exact hx_pick [0, 1, 2, 3, 4] (h2 c1 c2)
      · have c3 : (1 : Int) = 0 := by have h : ¬ ((1 : Int) ≠ 0) := c3; omega
        exfalso; omega
    · have c2 : ¬ (gx_and (gx_shr x2 x3) 1 = 1) := c2
      show hxn xs n yp_m231 24 [(0, .inr (.inl 86)), (1, .inl x1), (2, .inl x2), (3, .inl x3), (4, .inl x4)] [.inl 0] m Q
      refine hx_if .ne 59 (by decide +kernel) (fun c3 => ?_) (fun c3 => ?_)
      · have c3 : (0 : Int) ≠ 0 := c3
        exfalso; omega
      · have c3 : (0 : Int) = 0 := by have h : ¬ ((0 : Int) ≠ 0) := c3; omega
        refine hx_blk (npc := 30) (L' := [(0, .inr (.inl 86)), (1, .inl x1), (2, .inl x2), (3, .inl x3), (4, .inl x4)]) (st' := [.inl x4, .inl x2]) (m' := m) [((27, .iload_n 2, 1, 0, 0, 0, 0), (0, 0, 0)), ((28, .iload 4, 2, 0, 0, 0, 0), (0, 0, 0))] (by decide +kernel) rfl ?_
        refine hx_call (E := (30, .invokestatic 104, 3, 165, 0, 6035, 0)) (M' := yp_m165) [.inl x2, .inl x4] [] rfl (by decide +kernel) rfl ⟨rfl, rfl⟩ rfl rfl (hs165 (fun c3 => ?_) (fun c3 => ?_))
        · have c3 : gx_and (gx_shr x2 x4) 1 = 1 := c3
          show hxn xs n yp_m231 33 [(0, .inr (.inl 86)), (1, .inl x1), (2, .inl x2), (3, .inl x3), (4, .inl x4)] [.inl 1] m Q
          refine hx_if .ne 59 (by decide +kernel) (fun c4 => ?_) (fun c4 => ?_)
          · have c4 : (1 : Int) ≠ 0 := c4
            refine hx_blk (npc := 13) (L' := [(0, .inr (.inl 86)), (1, .inl x1), (2, .inl x2), (3, .inl x3), (4, .inl (gx_w (x4 + 1)))]) (st' := []) (m' := m) [((59, .iinc 4 1, 3, 0, 0, 0, 0), (0, 0, 0)), ((62, .goto (-49), 3, 0, 0, 0, 0), (0, 0, 0))] (by decide +kernel) rfl ?_
            exact hx_pick [0, 1, 2, 3, 4] (h3 c1 c2 c3)
          · have c4 : (1 : Int) = 0 := by have h : ¬ ((1 : Int) ≠ 0) := c4; omega
            exfalso; omega
        · have c3 : ¬ (gx_and (gx_shr x2 x4) 1 = 1) := c3
          show hxn xs n yp_m231 33 [(0, .inr (.inl 86)), (1, .inl x1), (2, .inl x2), (3, .inl x3), (4, .inl x4)] [.inl 0] m Q
          refine hx_if .ne 59 (by decide +kernel) (fun c4 => ?_) (fun c4 => ?_)
          · have c4 : (0 : Int) ≠ 0 := c4
            exfalso; omega
          · have c4 : (0 : Int) = 0 := by have h : ¬ ((0 : Int) ≠ 0) := c4; omega
            refine hx_blk (npc := 51) (L' := [(0, .inr (.inl 86)), (1, .inl x1), (2, .inl x2), (3, .inl x3), (4, .inl x4)]) (st' := [.inl (m 110 (x4).toNat), .inl (m 110 (x3).toNat), .inl x1, .inr (.inl 86)]) (m' := m) [((36, .aload_n 0, 1, 0, 0, 0, 0), (0, 0, 0)), ((37, .iload_n 1, 1, 0, 0, 0, 0), (0, 0, 0)), ((38, .aload_n 0, 1, 0, 0, 0, 0), (0, 0, 0)), ((39, .getfield 80, 3, 10, 35, 5148, 0), (1, 86, 110)), ((42, .iload_n 3, 1, 0, 0, 0, 0), (0, 0, 0)), ((43, .iaload, 1, 0, 0, 0, 0), (0, 110, 0)), ((44, .aload_n 0, 1, 0, 0, 0, 0), (0, 0, 0)), ((45, .getfield 80, 3, 10, 35, 5148, 0), (1, 86, 110)), ((48, .iload 4, 2, 0, 0, 0, 0), (0, 0, 0)), ((50, .iaload, 1, 0, 0, 0, 0), (0, 110, 0))] (by decide +kernel) rfl ?_
            exact hx_call (E := (51, .invokevirtual 315, 3, 228, 0, 7040, 0)) (M' := yp_m228) [.inr (.inl 86), .inl x1, .inl (m 110 (x3).toNat), .inl (m 110 (x4).toNat)] [] rfl (by decide +kernel) rfl ⟨rfl, rfl⟩ rfl rfl (hx_mono (h4 c1 c2 c3) (fun r m' h' => hx_pick [0, 1, 2, 3, 4] h'))

/-- isFree from 54 on -/
theorem hr231_54 {xs : List Int32} {n : Nat} {Q : hQ} {m : gx_M} {x1 x2 x3 x4 s0 : Int}
    (h1 : (s0 = 0) → hxn xs n yp_m231 13 [(0, .inr (.inl 86)), (1, .inl x1), (2, .inl x2), (3, .inl x3), (4, .inl (gx_w (x4 + 1)))] [] m Q)
    (h2 : (s0 ≠ 0) → Q (some (.inl 0)) m) : hxn xs (n + 1) yp_m231 54 [(0, .inr (.inl 86)), (1, .inl x1), (2, .inl x2), (3, .inl x3), (4, .inl x4)] [.inl s0] m Q := by
  refine hx_ifs .eq 59 (by decide +kernel) (fun c1 => ?_) (fun c1 => ?_)
  · have c1 : s0 = 0 := c1
    refine hx_blk (npc := 13) (L' := [(0, .inr (.inl 86)), (1, .inl x1), (2, .inl x2), (3, .inl x3), (4, .inl (gx_w (x4 + 1)))]) (st' := []) (m' := m) [((59, .iinc 4 1, 3, 0, 0, 0, 0), (0, 0, 0)), ((62, .goto (-49), 3, 0, 0, 0, 0), (0, 0, 0))] (by decide +kernel) rfl ?_
    exact hx_pick [0, 1, 2, 3, 4] (h1 c1)
  · have c1 : s0 ≠ 0 := c1
    refine hx_blk (npc := 58) (L' := [(0, .inr (.inl 86)), (1, .inl x1), (2, .inl x2), (3, .inl x3), (4, .inl x4)]) (st' := [.inl 0]) (m' := m) [((57, .iconst 0, 1, 0, 0, 0, 0), (0, 0, 0))] (by decide +kernel) rfl ?_
    exact hx_reti (by decide +kernel) (h2 c1)

/-- givenBack from 0 on -/
theorem hr229_0 {xs : List Int32} {n : Nat} {Q : hQ} {m : gx_M} {x1 x2 x3 : Int}
    (h1 : (aPers (m 87) x1) → (0 ≤ x3 ∧ x3 ≤ 2) → hxn xs n yp_m229 27 [(0, .inr (.inl 86)), (1, .inl x1), (2, .inl x2), (3, .inl x3), (4, .inl 0)] [] (gx_u m 86 34 0) Q)
    (h2 : (aPers (m 87) x1) → (¬ (0 ≤ x3 ∧ x3 ≤ 2)) → Q (some (.inl (-1))) m)
    (h3 : (¬ (aPers (m 87) x1)) → Q (some (.inl (-1))) m) : hxn xs (n + 1) yp_m229 0 [(0, .inr (.inl 86)), (1, .inl x1), (2, .inl x2), (3, .inl x3)] [] m Q := by
  refine hx_blks (npc := 2) (L' := [(0, .inr (.inl 86)), (1, .inl x1), (2, .inl x2), (3, .inl x3)]) (st' := [.inl x1, .inr (.inl 86)]) (m' := m) ((0, .aload_n 0, 1, 0, 0, 0, 0), (0, 0, 0)) [((1, .iload_n 1, 1, 0, 0, 0, 0), (0, 0, 0))] (by decide +kernel) rfl ?_
  refine hx_call (E := (2, .invokevirtual 113, 3, 164, 0, 6031, 0)) (M' := yp_m164) [.inr (.inl 86), .inl x1] [] rfl (by decide +kernel) rfl ⟨rfl, rfl⟩ rfl rfl (hs164 (fun c1 => ?_) (fun c1 => ?_))
  · have c1 : aPers (m 87) x1 := c1
    show hxn xs n yp_m229 5 [(0, .inr (.inl 86)), (1, .inl x1), (2, .inl x2), (3, .inl x3)] [.inl 1] m Q
    refine hx_if .eq 17 (by decide +kernel) (fun c2 => ?_) (fun c2 => ?_)
    · have c2 : (1 : Int) = 0 := c2
      exfalso; omega
    · have c2 : (1 : Int) ≠ 0 := c2
      refine hx_blk (npc := 11) (L' := [(0, .inr (.inl 86)), (1, .inl x1), (2, .inl x2), (3, .inl x3)]) (st' := [.inl 2, .inl 0, .inl x3]) (m' := m) [((8, .iload_n 3, 1, 0, 0, 0, 0), (0, 0, 0)), ((9, .iconst 0, 1, 0, 0, 0, 0), (0, 0, 0)), ((10, .iconst 2, 1, 0, 0, 0, 0), (0, 0, 0))] (by decide +kernel) rfl ?_
      refine hx_call (E := (11, .invokestatic 108, 3, 162, 0, 6023, 0)) (M' := yp_m162) [.inl x3, .inl 0, .inl 2] [] rfl (by decide +kernel) rfl ⟨rfl, rfl⟩ rfl rfl (hs162 (fun c2 => ?_) (fun c2 => ?_))
      · have c2 : 0 ≤ x3 ∧ x3 ≤ 2 := c2
        show hxn xs n yp_m229 14 [(0, .inr (.inl 86)), (1, .inl x1), (2, .inl x2), (3, .inl x3)] [.inl 1] m Q
        refine hx_if .ne 19 (by decide +kernel) (fun c3 => ?_) (fun c3 => ?_)
        · have c3 : (1 : Int) ≠ 0 := c3
          refine hx_blk (npc := 27) (L' := [(0, .inr (.inl 86)), (1, .inl x1), (2, .inl x2), (3, .inl x3), (4, .inl 0)]) (st' := []) (m' := (gx_u m 86 34 0)) [((19, .aload_n 0, 1, 0, 0, 0, 0), (0, 0, 0)), ((20, .iconst 0, 1, 0, 0, 0, 0), (0, 0, 0)), ((21, .putfield 318, 3, 10, 34, 5147, 0), (0, 86, 0)), ((24, .iconst 0, 1, 0, 0, 0, 0), (0, 0, 0)), ((25, .istore 4, 2, 0, 0, 0, 0), (0, 0, 0))] (by decide +kernel) rfl ?_
          exact hx_pick [0, 1, 2, 3, 4] (h1 c1 c2)
        · have c3 : (1 : Int) = 0 := by have h : ¬ ((1 : Int) ≠ 0) := c3; omega
          exfalso; omega
      · have c2 : ¬ (0 ≤ x3 ∧ x3 ≤ 2) := c2
        show hxn xs n yp_m229 14 [(0, .inr (.inl 86)), (1, .inl x1), (2, .inl x2), (3, .inl x3)] [.inl 0] m Q
        refine hx_if .ne 19 (by decide +kernel) (fun c3 => ?_) (fun c3 => ?_)
        · have c3 : (0 : Int) ≠ 0 := c3
          exfalso; omega
        · have c3 : (0 : Int) = 0 := by have h : ¬ ((0 : Int) ≠ 0) := c3; omega
          refine hx_blk (npc := 18) (L' := [(0, .inr (.inl 86)), (1, .inl x1), (2, .inl x2), (3, .inl x3)]) (st' := [.inl (-1)]) (m' := m) [((17, .iconst (-1), 1, 0, 0, 0, 0), (0, 0, 0))] (by decide +kernel) rfl ?_
          exact hx_reti (by decide +kernel) (h2 c1 c2)
  · have c1 : ¬ (aPers (m 87) x1) := c1
    show hxn xs n yp_m229 5 [(0, .inr (.inl 86)), (1, .inl x1), (2, .inl x2), (3, .inl x3)] [.inl 0] m Q
    refine hx_if .eq 17 (by decide +kernel) (fun c2 => ?_) (fun c2 => ?_)
    · have c2 : (0 : Int) = 0 := c2
      refine hx_blk (npc := 18) (L' := [(0, .inr (.inl 86)), (1, .inl x1), (2, .inl x2), (3, .inl x3)]) (st' := [.inl (-1)]) (m' := m) [((17, .iconst (-1), 1, 0, 0, 0, 0), (0, 0, 0))] (by decide +kernel) rfl ?_
      exact hx_reti (by decide +kernel) (h3 c1)
    · have c2 : (0 : Int) ≠ 0 := c2
      exfalso; omega

/-- givenBack from 27 on -/
theorem hr229_27 {xs : List Int32} {n : Nat} {Q : hQ} {m : gx_M} {x1 x2 x3 x4 : Int}
    (h1 : (40 ≤ x4) → (x3 ≠ 2) → hxn xs n yp_m229 118 [(0, .inr (.inl 86)), (1, .inl x1), (3, .inl x3), (4, .inl (-1)), (5, .inl 0)] [] m Q)
    (h2 : (40 ≤ x4) → (x3 = 2) → (x2 < 0) → Q (some (.inl (-2))) m)
    (h3 : (40 ≤ x4) → (x3 = 2) → (0 ≤ x2) → ((m 86 34) ≤ x2) → Q (some (.inl (-2))) m)
    (h4 : (40 ≤ x4) → (x3 = 2) → (0 ≤ x2) → (x2 < (m 86 34)) → Q (some (.inl (m 110 (x2).toNat))) m)
    (h5 : (x4 < 40) → (12 ≤ (m 86 34)) → (x3 ≠ 2) → hxn xs n yp_m229 118 [(0, .inr (.inl 86)), (1, .inl x1), (3, .inl x3), (4, .inl (-1)), (5, .inl 0)] [] m Q)
    (h6 : (x4 < 40) → (12 ≤ (m 86 34)) → (x3 = 2) → (x2 < 0) → Q (some (.inl (-2))) m)
    (h7 : (x4 < 40) → (12 ≤ (m 86 34)) → (x3 = 2) → (0 ≤ x2) → ((m 86 34) ≤ x2) → Q (some (.inl (-2))) m)
    (h8 : (x4 < 40) → (12 ≤ (m 86 34)) → (x3 = 2) → (0 ≤ x2) → (x2 < (m 86 34)) → Q (some (.inl (m 110 (x2).toNat))) m)
    (h9 : (x4 < 40) → ((m 86 34) < 12) → hxn xs n yp_m230 0 [(0, .inr (.inl 86)), (1, .inl x1), (2, .inl x4)] [] m (fun r m' => hxn xs n yp_m229 50 [(0, .inr (.inl 86)), (1, .inl x1), (2, .inl x2), (3, .inl x3), (4, .inl x4)] (hrs r ++ []) m' Q)) : hxn xs (n + 1) yp_m229 27 [(0, .inr (.inl 86)), (1, .inl x1), (2, .inl x2), (3, .inl x3), (4, .inl x4)] [] m Q := by
  refine hx_blks (npc := 31) (L' := [(0, .inr (.inl 86)), (1, .inl x1), (2, .inl x2), (3, .inl x3), (4, .inl x4)]) (st' := [.inl 40, .inl x4]) (m' := m) ((27, .iload 4, 2, 0, 0, 0, 0), (0, 0, 0)) [((29, .bipush 40, 2, 0, 0, 0, 0), (0, 0, 0))] (by decide +kernel) rfl ?_
  refine hx_cmp .ge 83 (by decide +kernel) (fun c1 => ?_) (fun c1 => ?_)
  · have c1 : 40 ≤ x4 := c1
    refine hx_blk (npc := 85) (L' := [(0, .inr (.inl 86)), (1, .inl x1), (2, .inl x2), (3, .inl x3), (4, .inl x4)]) (st' := [.inl 2, .inl x3]) (m' := m) [((83, .iload_n 3, 1, 0, 0, 0, 0), (0, 0, 0)), ((84, .iconst 2, 1, 0, 0, 0, 0), (0, 0, 0))] (by decide +kernel) rfl ?_
    refine hx_cmp .ne 112 (by decide +kernel) (fun c2 => ?_) (fun c2 => ?_)
    · have c2 : x3 ≠ 2 := c2
      refine hx_blk (npc := 118) (L' := [(0, .inr (.inl 86)), (1, .inl x1), (2, .inl x2), (3, .inl x3), (4, .inl (-1)), (5, .inl 0)]) (st' := []) (m' := m) [((112, .iconst (-1), 1, 0, 0, 0, 0), (0, 0, 0)), ((113, .istore 4, 2, 0, 0, 0, 0), (0, 0, 0)), ((115, .iconst 0, 1, 0, 0, 0, 0), (0, 0, 0)), ((116, .istore 5, 2, 0, 0, 0, 0), (0, 0, 0))] (by decide +kernel) rfl ?_
      exact hx_pick [0, 1, 3, 4, 5] (h1 c1 c2)
    · have c2 : x3 = 2 := by have h : ¬ (x3 ≠ 2) := c2; omega
      refine hx_blk (npc := 89) (L' := [(0, .inr (.inl 86)), (1, .inl x1), (2, .inl x2), (3, .inl x3), (4, .inl x4)]) (st' := [.inl x2]) (m' := m) [((88, .iload_n 2, 1, 0, 0, 0, 0), (0, 0, 0))] (by decide +kernel) rfl ?_
      refine hx_if .lt 109 (by decide +kernel) (fun c3 => ?_) (fun c3 => ?_)
      · have c3 : x2 < 0 := c3
        refine hx_blk (npc := 111) (L' := [(0, .inr (.inl 86)), (1, .inl x1), (2, .inl x2), (3, .inl x3), (4, .inl x4)]) (st' := [.inl (-2)]) (m' := m) [((109, .bipush (-2), 2, 0, 0, 0, 0), (0, 0, 0))] (by decide +kernel) rfl ?_
        exact hx_reti (by decide +kernel) (h2 c1 c2 c3)
      · have c3 : 0 ≤ x2 := by have h : ¬ (x2 < 0) := c3; omega
        refine hx_blk (npc := 97) (L' := [(0, .inr (.inl 86)), (1, .inl x1), (2, .inl x2), (3, .inl x3), (4, .inl x4)]) (st' := [.inl (m 86 34), .inl x2]) (m' := m) [((92, .iload_n 2, 1, 0, 0, 0, 0), (0, 0, 0)), ((93, .aload_n 0, 1, 0, 0, 0, 0), (0, 0, 0)), ((94, .getfield 318, 3, 10, 34, 5147, 0), (0, 86, 0))] (by decide +kernel) rfl ?_
        refine hx_cmp .ge 109 (by decide +kernel) (fun c4 => ?_) (fun c4 => ?_)
        · have c4 : (m 86 34) ≤ x2 := c4
          refine hx_blk (npc := 111) (L' := [(0, .inr (.inl 86)), (1, .inl x1), (2, .inl x2), (3, .inl x3), (4, .inl x4)]) (st' := [.inl (-2)]) (m' := m) [((109, .bipush (-2), 2, 0, 0, 0, 0), (0, 0, 0))] (by decide +kernel) rfl ?_
          exact hx_reti (by decide +kernel) (h3 c1 c2 c3 c4)
        · have c4 : x2 < (m 86 34) := by have h : ¬ ((m 86 34) ≤ x2) := c4; omega
          refine hx_blk (npc := 111) (L' := [(0, .inr (.inl 86)), (1, .inl x1), (2, .inl x2), (3, .inl x3), (4, .inl x4)]) (st' := [.inl (m 110 (x2).toNat)]) (m' := m) [((100, .aload_n 0, 1, 0, 0, 0, 0), (0, 0, 0)), ((101, .getfield 80, 3, 10, 35, 5148, 0), (1, 86, 110)), ((104, .iload_n 2, 1, 0, 0, 0, 0), (0, 0, 0)), ((105, .iaload, 1, 0, 0, 0, 0), (0, 110, 0)), ((106, .goto 5, 3, 0, 0, 0, 0), (0, 0, 0))] (by decide +kernel) rfl ?_
          exact hx_reti (by decide +kernel) (h4 c1 c2 c3 c4)
  · have c1 : x4 < 40 := by have h : ¬ (40 ≤ x4) := c1; omega
    refine hx_blk (npc := 40) (L' := [(0, .inr (.inl 86)), (1, .inl x1), (2, .inl x2), (3, .inl x3), (4, .inl x4)]) (st' := [.inl 12, .inl (m 86 34)]) (m' := m) [((34, .aload_n 0, 1, 0, 0, 0, 0), (0, 0, 0)), ((35, .getfield 318, 3, 10, 34, 5147, 0), (0, 86, 0)), ((38, .bipush 12, 2, 0, 0, 0, 0), (0, 0, 0))] (by decide +kernel) rfl ?_
    refine hx_cmp .ge 83 (by decide +kernel) (fun c2 => ?_) (fun c2 => ?_)
    · have c2 : 12 ≤ (m 86 34) := c2
      refine hx_blk (npc := 85) (L' := [(0, .inr (.inl 86)), (1, .inl x1), (2, .inl x2), (3, .inl x3), (4, .inl x4)]) (st' := [.inl 2, .inl x3]) (m' := m) [((83, .iload_n 3, 1, 0, 0, 0, 0), (0, 0, 0)), ((84, .iconst 2, 1, 0, 0, 0, 0), (0, 0, 0))] (by decide +kernel) rfl ?_
      refine hx_cmp .ne 112 (by decide +kernel) (fun c3 => ?_) (fun c3 => ?_)
      · have c3 : x3 ≠ 2 := c3
        refine hx_blk (npc := 118) (L' := [(0, .inr (.inl 86)), (1, .inl x1), (2, .inl x2), (3, .inl x3), (4, .inl (-1)), (5, .inl 0)]) (st' := []) (m' := m) [((112, .iconst (-1), 1, 0, 0, 0, 0), (0, 0, 0)), ((113, .istore 4, 2, 0, 0, 0, 0), (0, 0, 0)), ((115, .iconst 0, 1, 0, 0, 0, 0), (0, 0, 0)), ((116, .istore 5, 2, 0, 0, 0, 0), (0, 0, 0))] (by decide +kernel) rfl ?_
        exact hx_pick [0, 1, 3, 4, 5] (h5 c1 c2 c3)
      · have c3 : x3 = 2 := by have h : ¬ (x3 ≠ 2) := c3; omega
        refine hx_blk (npc := 89) (L' := [(0, .inr (.inl 86)), (1, .inl x1), (2, .inl x2), (3, .inl x3), (4, .inl x4)]) (st' := [.inl x2]) (m' := m) [((88, .iload_n 2, 1, 0, 0, 0, 0), (0, 0, 0))] (by decide +kernel) rfl ?_
        refine hx_if .lt 109 (by decide +kernel) (fun c4 => ?_) (fun c4 => ?_)
        · have c4 : x2 < 0 := c4
          refine hx_blk (npc := 111) (L' := [(0, .inr (.inl 86)), (1, .inl x1), (2, .inl x2), (3, .inl x3), (4, .inl x4)]) (st' := [.inl (-2)]) (m' := m) [((109, .bipush (-2), 2, 0, 0, 0, 0), (0, 0, 0))] (by decide +kernel) rfl ?_
          exact hx_reti (by decide +kernel) (h6 c1 c2 c3 c4)
        · have c4 : 0 ≤ x2 := by have h : ¬ (x2 < 0) := c4; omega
          refine hx_blk (npc := 97) (L' := [(0, .inr (.inl 86)), (1, .inl x1), (2, .inl x2), (3, .inl x3), (4, .inl x4)]) (st' := [.inl (m 86 34), .inl x2]) (m' := m) [((92, .iload_n 2, 1, 0, 0, 0, 0), (0, 0, 0)), ((93, .aload_n 0, 1, 0, 0, 0, 0), (0, 0, 0)), ((94, .getfield 318, 3, 10, 34, 5147, 0), (0, 86, 0))] (by decide +kernel) rfl ?_
          refine hx_cmp .ge 109 (by decide +kernel) (fun c5 => ?_) (fun c5 => ?_)
          · have c5 : (m 86 34) ≤ x2 := c5
            refine hx_blk (npc := 111) (L' := [(0, .inr (.inl 86)), (1, .inl x1), (2, .inl x2), (3, .inl x3), (4, .inl x4)]) (st' := [.inl (-2)]) (m' := m) [((109, .bipush (-2), 2, 0, 0, 0, 0), (0, 0, 0))] (by decide +kernel) rfl ?_
            exact hx_reti (by decide +kernel) (h7 c1 c2 c3 c4 c5)
          · have c5 : x2 < (m 86 34) := by have h : ¬ ((m 86 34) ≤ x2) := c5; omega
            refine hx_blk (npc := 111) (L' := [(0, .inr (.inl 86)), (1, .inl x1), (2, .inl x2), (3, .inl x3), (4, .inl x4)]) (st' := [.inl (m 110 (x2).toNat)]) (m' := m) [((100, .aload_n 0, 1, 0, 0, 0, 0), (0, 0, 0)), ((101, .getfield 80, 3, 10, 35, 5148, 0), (1, 86, 110)), ((104, .iload_n 2, 1, 0, 0, 0, 0), (0, 0, 0)), ((105, .iaload, 1, 0, 0, 0, 0), (0, 110, 0)), ((106, .goto 5, 3, 0, 0, 0, 0), (0, 0, 0))] (by decide +kernel) rfl ?_
            exact hx_reti (by decide +kernel) (h8 c1 c2 c3 c4 c5)
    · have c2 : (m 86 34) < 12 := by have h : ¬ (12 ≤ (m 86 34)) := c2; omega
      refine hx_blk (npc := 47) (L' := [(0, .inr (.inl 86)), (1, .inl x1), (2, .inl x2), (3, .inl x3), (4, .inl x4)]) (st' := [.inl x4, .inl x1, .inr (.inl 86)]) (m' := m) [((43, .aload_n 0, 1, 0, 0, 0, 0), (0, 0, 0)), ((44, .iload_n 1, 1, 0, 0, 0, 0), (0, 0, 0)), ((45, .iload 4, 2, 0, 0, 0, 0), (0, 0, 0))] (by decide +kernel) rfl ?_
      exact hx_call (E := (47, .invokevirtual 321, 3, 230, 0, 7048, 0)) (M' := yp_m230) [.inr (.inl 86), .inl x1, .inl x4] [] rfl (by decide +kernel) rfl ⟨rfl, rfl⟩ rfl rfl (hx_mono (h9 c1 c2) (fun r m' h' => hx_pick [0, 1, 2, 3, 4] h'))

/-- givenBack from 50 on -/
theorem hr229_50 {xs : List Int32} {n : Nat} {Q : hQ} {m : gx_M} {x1 x2 x3 x4 s0 : Int}
    (h1 : (s0 ≠ 0) → hxn xs n yp_m229 27 [(0, .inr (.inl 86)), (1, .inl x1), (2, .inl x2), (3, .inl x3), (4, .inl (gx_w (x4 + 1)))] [] (gx_u (gx_u m 110 (m 86 34).toNat x4) 86 34 (gx_w ((m 86 34) + 1))) Q)
    (h2 : (s0 = 0) → hxn xs n yp_m229 27 [(0, .inr (.inl 86)), (1, .inl x1), (2, .inl x2), (3, .inl x3), (4, .inl (gx_w (x4 + 1)))] [] m Q) : hxn xs (n + 1) yp_m229 50 [(0, .inr (.inl 86)), (1, .inl x1), (2, .inl x2), (3, .inl x3), (4, .inl x4)] [.inl s0] m Q := by
  refine hx_ifs .ne 56 (by decide +kernel) (fun c1 => ?_) (fun c1 => ?_)
  · have c1 : s0 ≠ 0 := c1
    refine hx_blk (npc := 27) (L' := [(0, .inr (.inl 86)), (1, .inl x1), (2, .inl x2), (3, .inl x3), (4, .inl (gx_w (x4 + 1)))]) (st' := []) (m' := (gx_u (gx_u m 110 (m 86 34).toNat x4) 86 34 (gx_w ((m 86 34) + 1)))) [((56, .aload_n 0, 1, 0, 0, 0, 0), (0, 0, 0)), ((57, .getfield 80, 3, 10, 35, 5148, 0), (1, 86, 110)), ((60, .aload_n 0, 1, 0, 0, 0, 0), (0, 0, 0)), ((61, .getfield 318, 3, 10, 34, 5147, 0), (0, 86, 0)), ((64, .iload 4, 2, 0, 0, 0, 0), (0, 0, 0)), ((66, .iastore, 1, 0, 0, 0, 0), (0, 110, 0)), ((67, .aload_n 0, 1, 0, 0, 0, 0), (0, 0, 0)), ((68, .aload_n 0, 1, 0, 0, 0, 0), (0, 0, 0)), ((69, .getfield 318, 3, 10, 34, 5147, 0), (0, 86, 0)), ((72, .iconst 1, 1, 0, 0, 0, 0), (0, 0, 0)), ((73, .iadd, 1, 0, 0, 0, 0), (0, 0, 0)), ((74, .putfield 318, 3, 10, 34, 5147, 0), (0, 86, 0)), ((77, .iinc 4 1, 3, 0, 0, 0, 0), (0, 0, 0)), ((80, .goto (-53), 3, 0, 0, 0, 0), (0, 0, 0))] (by decide +kernel) rfl ?_
    exact hx_pick [0, 1, 2, 3, 4] (h1 c1)
  · have c1 : s0 = 0 := by have h : ¬ (s0 ≠ 0) := c1; omega
    refine hx_blk (npc := 27) (L' := [(0, .inr (.inl 86)), (1, .inl x1), (2, .inl x2), (3, .inl x3), (4, .inl (gx_w (x4 + 1)))]) (st' := []) (m' := m) [((53, .goto 24, 3, 0, 0, 0, 0), (0, 0, 0)), ((77, .iinc 4 1, 3, 0, 0, 0, 0), (0, 0, 0)), ((80, .goto (-53), 3, 0, 0, 0, 0), (0, 0, 0))] (by decide +kernel) rfl ?_
    exact hx_pick [0, 1, 2, 3, 4] (h2 c1)

/-- givenBack from 118 on -/
theorem hr229_118 {xs : List Int32} {n : Nat} {Q : hQ} {m : gx_M} {x1 x3 x4 x5 : Int}
    (h1 : ((gx_shl 1 (m 86 34)) ≤ x5) → (x3 ≠ 0) → Q (some (.inl x4)) m)
    (h2 : ((gx_shl 1 (m 86 34)) ≤ x5) → (x3 = 0) → hxn xs n yp_m206 0 [(0, .inl x4)] [] m (fun r m' => hxn xs n yp_m229 177 [] (hrs r ++ []) m' Q))
    (h3 : (x5 < (gx_shl 1 (m 86 34))) → (x4 = (-1)) → hxn xs n yp_m231 0 [(0, .inr (.inl 86)), (1, .inl x1), (2, .inl x5)] [] m (fun r m' => hxn xs n yp_m229 155 [(0, .inr (.inl 86)), (1, .inl x1), (3, .inl x3), (4, .inl x4), (5, .inl x5)] (hrs r ++ []) m' Q))
    (h4 : (x5 < (gx_shl 1 (m 86 34))) → (x4 ≠ (-1)) → hxn xs n yp_m206 0 [(0, .inl x5)] [] m (fun r m' => hxn xs n yp_m229 140 [(0, .inr (.inl 86)), (1, .inl x1), (3, .inl x3), (4, .inl x4), (5, .inl x5)] (hrs r ++ []) m' Q)) : hxn xs (n + 1) yp_m229 118 [(0, .inr (.inl 86)), (1, .inl x1), (3, .inl x3), (4, .inl x4), (5, .inl x5)] [] m Q := by
  refine hx_blks (npc := 126) (L' := [(0, .inr (.inl 86)), (1, .inl x1), (3, .inl x3), (4, .inl x4), (5, .inl x5)]) (st' := [.inl (gx_shl 1 (m 86 34)), .inl x5]) (m' := m) ((118, .iload 5, 2, 0, 0, 0, 0), (0, 0, 0)) [((120, .iconst 1, 1, 0, 0, 0, 0), (0, 0, 0)), ((121, .aload_n 0, 1, 0, 0, 0, 0), (0, 0, 0)), ((122, .getfield 318, 3, 10, 34, 5147, 0), (0, 86, 0)), ((125, .ishl, 1, 0, 0, 0, 0), (0, 0, 0))] (by decide +kernel) rfl ?_
  refine hx_cmp .ge 168 (by decide +kernel) (fun c1 => ?_) (fun c1 => ?_)
  · have c1 : (gx_shl 1 (m 86 34)) ≤ x5 := c1
    refine hx_blk (npc := 169) (L' := [(0, .inr (.inl 86)), (1, .inl x1), (3, .inl x3), (4, .inl x4), (5, .inl x5)]) (st' := [.inl x3]) (m' := m) [((168, .iload_n 3, 1, 0, 0, 0, 0), (0, 0, 0))] (by decide +kernel) rfl ?_
    refine hx_if .ne 180 (by decide +kernel) (fun c2 => ?_) (fun c2 => ?_)
    · have c2 : x3 ≠ 0 := c2
      refine hx_blk (npc := 182) (L' := [(0, .inr (.inl 86)), (1, .inl x1), (3, .inl x3), (4, .inl x4), (5, .inl x5)]) (st' := [.inl x4]) (m' := m) [((180, .iload 4, 2, 0, 0, 0, 0), (0, 0, 0))] (by decide +kernel) rfl ?_
      exact hx_reti (by decide +kernel) (h1 c1 c2)
    · have c2 : x3 = 0 := by have h : ¬ (x3 ≠ 0) := c2; omega
      refine hx_blk (npc := 174) (L' := [(0, .inr (.inl 86)), (1, .inl x1), (3, .inl x3), (4, .inl x4), (5, .inl x5)]) (st' := [.inl x4]) (m' := m) [((172, .iload 4, 2, 0, 0, 0, 0), (0, 0, 0))] (by decide +kernel) rfl ?_
      exact hx_call (E := (174, .invokestatic 241, 3, 206, 0, 6195, 0)) (M' := yp_m206) [.inl x4] [] rfl (by decide +kernel) rfl ⟨rfl, rfl⟩ rfl rfl (hx_mono (h2 c1 c2) (fun r m' h' => hx_pick [] h'))
  · have c1 : x5 < (gx_shl 1 (m 86 34)) := by have h : ¬ ((gx_shl 1 (m 86 34)) ≤ x5) := c1; omega
    refine hx_blk (npc := 132) (L' := [(0, .inr (.inl 86)), (1, .inl x1), (3, .inl x3), (4, .inl x4), (5, .inl x5)]) (st' := [.inl (-1), .inl x4]) (m' := m) [((129, .iload 4, 2, 0, 0, 0, 0), (0, 0, 0)), ((131, .iconst (-1), 1, 0, 0, 0, 0), (0, 0, 0))] (by decide +kernel) rfl ?_
    refine hx_cmp .eq 148 (by decide +kernel) (fun c2 => ?_) (fun c2 => ?_)
    · have c2 : x4 = (-1) := c2
      refine hx_blk (npc := 152) (L' := [(0, .inr (.inl 86)), (1, .inl x1), (3, .inl x3), (4, .inl x4), (5, .inl x5)]) (st' := [.inl x5, .inl x1, .inr (.inl 86)]) (m' := m) [((148, .aload_n 0, 1, 0, 0, 0, 0), (0, 0, 0)), ((149, .iload_n 1, 1, 0, 0, 0, 0), (0, 0, 0)), ((150, .iload 5, 2, 0, 0, 0, 0), (0, 0, 0))] (by decide +kernel) rfl ?_
      exact hx_call (E := (152, .invokevirtual 324, 3, 231, 0, 7052, 0)) (M' := yp_m231) [.inr (.inl 86), .inl x1, .inl x5] [] rfl (by decide +kernel) rfl ⟨rfl, rfl⟩ rfl rfl (hx_mono (h3 c1 c2) (fun r m' h' => hx_pick [0, 1, 3, 4, 5] h'))
    · have c2 : x4 ≠ (-1) := c2
      refine hx_blk (npc := 137) (L' := [(0, .inr (.inl 86)), (1, .inl x1), (3, .inl x3), (4, .inl x4), (5, .inl x5)]) (st' := [.inl x5]) (m' := m) [((135, .iload 5, 2, 0, 0, 0, 0), (0, 0, 0))] (by decide +kernel) rfl ?_
      exact hx_call (E := (137, .invokestatic 241, 3, 206, 0, 6195, 0)) (M' := yp_m206) [.inl x5] [] rfl (by decide +kernel) rfl ⟨rfl, rfl⟩ rfl rfl (hx_mono (h4 c1 c2) (fun r m' h' => hx_pick [0, 1, 3, 4, 5] h'))

/-- givenBack from 140 on -/
theorem hr229_140 {xs : List Int32} {n : Nat} {Q : hQ} {m : gx_M} {x1 x3 x4 x5 s0 : Int}
    (h1 : hxn xs n yp_m206 0 [(0, .inl x4)] [] m (fun r m' => hxn xs n yp_m229 145 [(0, .inr (.inl 86)), (1, .inl x1), (3, .inl x3), (4, .inl x4), (5, .inl x5)] (hrs r ++ [.inl s0]) m' Q)) : hxn xs (n + 1) yp_m229 140 [(0, .inr (.inl 86)), (1, .inl x1), (3, .inl x3), (4, .inl x4), (5, .inl x5)] [.inl s0] m Q := by
  refine hx_blks (npc := 142) (L' := [(0, .inr (.inl 86)), (1, .inl x1), (3, .inl x3), (4, .inl x4), (5, .inl x5)]) (st' := [.inl x4, .inl s0]) (m' := m) ((140, .iload 4, 2, 0, 0, 0, 0), (0, 0, 0)) [] (by decide +kernel) rfl ?_
  exact hx_call (E := (142, .invokestatic 241, 3, 206, 0, 6195, 0)) (M' := yp_m206) [.inl x4] [.inl s0] rfl (by decide +kernel) rfl ⟨rfl, rfl⟩ rfl rfl (hx_mono h1 (fun r m' h' => hx_pick [0, 1, 3, 4, 5] h'))

/-- givenBack from 145 on -/
theorem hr229_145 {xs : List Int32} {n : Nat} {Q : hQ} {m : gx_M} {x1 x3 x4 x5 s0 s1 : Int}
    (h1 : (s1 ≤ s0) → hxn xs n yp_m229 118 [(0, .inr (.inl 86)), (1, .inl x1), (3, .inl x3), (4, .inl x4), (5, .inl (gx_w (x5 + 1)))] [] m Q)
    (h2 : (s0 < s1) → hxn xs n yp_m231 0 [(0, .inr (.inl 86)), (1, .inl x1), (2, .inl x5)] [] m (fun r m' => hxn xs n yp_m229 155 [(0, .inr (.inl 86)), (1, .inl x1), (3, .inl x3), (4, .inl x4), (5, .inl x5)] (hrs r ++ []) m' Q)) : hxn xs (n + 1) yp_m229 145 [(0, .inr (.inl 86)), (1, .inl x1), (3, .inl x3), (4, .inl x4), (5, .inl x5)] [.inl s1, .inl s0] m Q := by
  refine hx_cmps .ge 162 (by decide +kernel) (fun c1 => ?_) (fun c1 => ?_)
  · have c1 : s1 ≤ s0 := c1
    refine hx_blk (npc := 118) (L' := [(0, .inr (.inl 86)), (1, .inl x1), (3, .inl x3), (4, .inl x4), (5, .inl (gx_w (x5 + 1)))]) (st' := []) (m' := m) [((162, .iinc 5 1, 3, 0, 0, 0, 0), (0, 0, 0)), ((165, .goto (-47), 3, 0, 0, 0, 0), (0, 0, 0))] (by decide +kernel) rfl ?_
    exact hx_pick [0, 1, 3, 4, 5] (h1 c1)
  · have c1 : s0 < s1 := by have h : ¬ (s1 ≤ s0) := c1; omega
    refine hx_blk (npc := 152) (L' := [(0, .inr (.inl 86)), (1, .inl x1), (3, .inl x3), (4, .inl x4), (5, .inl x5)]) (st' := [.inl x5, .inl x1, .inr (.inl 86)]) (m' := m) [((148, .aload_n 0, 1, 0, 0, 0, 0), (0, 0, 0)), ((149, .iload_n 1, 1, 0, 0, 0, 0), (0, 0, 0)), ((150, .iload 5, 2, 0, 0, 0, 0), (0, 0, 0))] (by decide +kernel) rfl ?_
    exact hx_call (E := (152, .invokevirtual 324, 3, 231, 0, 7052, 0)) (M' := yp_m231) [.inr (.inl 86), .inl x1, .inl x5] [] rfl (by decide +kernel) rfl ⟨rfl, rfl⟩ rfl rfl (hx_mono (h2 c1) (fun r m' h' => hx_pick [0, 1, 3, 4, 5] h'))

/-- givenBack from 155 on -/
theorem hr229_155 {xs : List Int32} {n : Nat} {Q : hQ} {m : gx_M} {x1 x3 x4 x5 s0 : Int}
    (h1 : (s0 = 0) → hxn xs n yp_m229 118 [(0, .inr (.inl 86)), (1, .inl x1), (3, .inl x3), (4, .inl x4), (5, .inl (gx_w (x5 + 1)))] [] m Q)
    (h2 : (s0 ≠ 0) → hxn xs n yp_m229 118 [(0, .inr (.inl 86)), (1, .inl x1), (3, .inl x3), (4, .inl x5), (5, .inl (gx_w (x5 + 1)))] [] m Q) : hxn xs (n + 1) yp_m229 155 [(0, .inr (.inl 86)), (1, .inl x1), (3, .inl x3), (4, .inl x4), (5, .inl x5)] [.inl s0] m Q := by
  refine hx_ifs .eq 162 (by decide +kernel) (fun c1 => ?_) (fun c1 => ?_)
  · have c1 : s0 = 0 := c1
    refine hx_blk (npc := 118) (L' := [(0, .inr (.inl 86)), (1, .inl x1), (3, .inl x3), (4, .inl x4), (5, .inl (gx_w (x5 + 1)))]) (st' := []) (m' := m) [((162, .iinc 5 1, 3, 0, 0, 0, 0), (0, 0, 0)), ((165, .goto (-47), 3, 0, 0, 0, 0), (0, 0, 0))] (by decide +kernel) rfl ?_
    exact hx_pick [0, 1, 3, 4, 5] (h1 c1)
  · have c1 : s0 ≠ 0 := c1
    refine hx_blk (npc := 118) (L' := [(0, .inr (.inl 86)), (1, .inl x1), (3, .inl x3), (4, .inl x5), (5, .inl (gx_w (x5 + 1)))]) (st' := []) (m' := m) [((158, .iload 5, 2, 0, 0, 0, 0), (0, 0, 0)), ((160, .istore 4, 2, 0, 0, 0, 0), (0, 0, 0)), ((162, .iinc 5 1, 3, 0, 0, 0, 0), (0, 0, 0)), ((165, .goto (-47), 3, 0, 0, 0, 0), (0, 0, 0))] (by decide +kernel) rfl ?_
    exact hx_pick [0, 1, 3, 4, 5] (h2 c1)

/-- givenBack from 177 on -/
theorem hr229_177 {xs : List Int32} {n : Nat} {Q : hQ} {m : gx_M} {s0 : Int}
    (h1 : Q (some (.inl s0)) m) : hxn xs (n + 1) yp_m229 177 [] [.inl s0] m Q := by
  refine hx_blks (npc := 182) (L' := []) (st' := [.inl s0]) (m' := m) ((177, .goto 5, 3, 0, 0, 0, 0), (0, 0, 0)) [] (by decide +kernel) rfl ?_
  exact hx_reti (by decide +kernel) h1
end
section
/-! givenBack: by both -/
theorem aCl_self {s : Nat → Int} {x : Nat} : aCl s x x = false := by
  rw [Bool.eq_false_iff]
  exact fun q => (aCl_iff.mp q).2.1 rfl
theorem aCl_sym {s : Nat → Int} {x y : Nat} (h : aCl s x y = true) : aCl s y x = true := by
  obtain ⟨a, b, c⟩ := aCl_iff.mp h
  exact aCl_iff.mpr ⟨a.symm, fun e => b e.symm, fun e => c e.symm⟩
theorem aCl_no {s : Nat → Int} {x y : Nat} (h : aCl s x y = false) : aCl s y x = false := by
  rw [Bool.eq_false_iff]
  intro q
  rw [aCl_sym q] at h
  cases h
def iC (s : Nat → Int) (p : Int) (y : Nat) : Bool := hAnyB (fun j => (aOwn s p y && aOwn s p j) && aCl s y j) 40
theorem iC_own {s : Nat → Int} {p : Int} {y : Nat} (h : iC s p y = true) : aOwn s p y = true := by
  obtain ⟨j, -, e⟩ := hAnyB_iff.mp h
  rw [Bool.and_eq_true, Bool.and_eq_true] at e
  exact e.1.1
def gLs (s : Nat → Int) (p : Int) : Nat → List Nat
  | 0 => []
  | y + 1 => if (gLs s p y).length < 12 ∧ iC s p y = true then gLs s p y ++ [y] else gLs s p y
theorem gLs_t {s : Nat → Int} {p : Int} {y : Nat} (h : (gLs s p y).length < 12) (h2 : iC s p y = true) : gLs s p (y + 1) = gLs s p y ++ [y] := if_pos ⟨h, h2⟩
theorem gLs_f {s : Nat → Int} {p : Int} {y : Nat} (h : ¬ ((gLs s p y).length < 12 ∧ iC s p y = true)) : gLs s p (y + 1) = gLs s p y := if_neg h
theorem gLs_12 {s : Nat → Int} {p : Int} : ∀ y, (gLs s p y).length ≤ 12
  | 0 => Nat.zero_le _
  | y + 1 => by
    have ih := gLs_12 (s := s) (p := p) y
    by_cases c : (gLs s p y).length < 12 ∧ iC s p y = true
    · rw [gLs_t c.1 c.2, List.length_append, List.length_singleton]
      omega
    · rw [gLs_f c]
      exact ih
theorem gLs_full {s : Nat → Int} {p : Int} {y : Nat} (h : ¬ (gLs s p y).length < 12) : ∀ d, gLs s p (y + d) = gLs s p y
  | 0 => rfl
  | d + 1 => by
    have ih := gLs_full h d
    show gLs s p (y + d + 1) = gLs s p y
    rw [gLs_f (by rw [ih]; exact fun q => h q.1), ih]
theorem gLs_mem {s : Nat → Int} {p : Int} : ∀ y x, x ∈ gLs s p y → x < y ∧ aOwn s p x = true
  | 0, x, h => by cases h
  | y + 1, x, h => by
    by_cases c : (gLs s p y).length < 12 ∧ iC s p y = true
    · rw [gLs_t c.1 c.2] at h
      rcases List.mem_append.mp h with h | h
      · have := gLs_mem y x h
        exact ⟨by omega, this.2⟩
      · rw [List.mem_singleton.mp h]
        exact ⟨by omega, iC_own c.2⟩
    · rw [gLs_f c] at h
      have := gLs_mem y x h
      exact ⟨by omega, this.2⟩
def fg (L : List Nat) (i : Nat) : Nat := (L[i]?).getD 0
theorem fg_lt {L : List Nat} {y i : Nat} (h : i < L.length) : fg (L ++ [y]) i = fg L i := by
  unfold fg
  rw [List.getElem?_append_left h]
theorem fg_eq {L : List Nat} {y : Nat} : fg (L ++ [y]) L.length = y := by
  unfold fg
  rw [List.getElem?_append_right (Nat.le_refl _), Nat.sub_self]
  rfl
theorem fg_mem {L : List Nat} {i : Nat} (h : i < L.length) : fg L i ∈ L := by
  unfold fg
  rw [List.getElem?_eq_getElem h]
  exact List.getElem_mem h
/-- nothing clashes that a set leaves -/
def frP (s : Nat → Int) (L : List Nat) (X : Nat) : Prop := ∀ i j, i < L.length → j < L.length → X.testBit i = false → X.testBit j = false → aCl s (fg L i) (fg L j) = false
noncomputable def bst (s : Nat → Int) (L : List Nat) : Nat → Int
  | 0 => -1
  | t + 1 => @ite _ ((bst s L t = -1 ∨ hpop 20 t < hpop 20 (bst s L t).toNat) ∧ frP s L t) (Classical.propDecidable _) (t : Int) (bst s L t)
theorem bst_t {s : Nat → Int} {L : List Nat} {t : Nat} (h : bst s L t = -1 ∨ hpop 20 t < hpop 20 (bst s L t).toNat) (h2 : frP s L t) : bst s L (t + 1) = (t : Int) := if_pos ⟨h, h2⟩
theorem bst_f {s : Nat → Int} {L : List Nat} {t : Nat} (h : ¬ ((bst s L t = -1 ∨ hpop 20 t < hpop 20 (bst s L t).toNat) ∧ frP s L t)) : bst s L (t + 1) = bst s L t := if_neg h
theorem bst_bd {s : Nat → Int} {L : List Nat} : ∀ t : Nat, -1 ≤ bst s L t ∧ bst s L t < (t : Int)
  | 0 => ⟨Int.le_refl _, by show (-1 : Int) < 0; decide⟩
  | t + 1 => by
    have ih := bst_bd (s := s) (L := L) t
    rcases Classical.em ((bst s L t = -1 ∨ hpop 20 t < hpop 20 (bst s L t).toNat) ∧ frP s L t) with c | c
    · rw [bst_t c.1 c.2]
      omega
    · rw [bst_f c]
      omega
def bAl (L : List Nat) : Nat := 2 ^ L.length - 1
noncomputable def bCl (s : Nat → Int) (L : List Nat) (t : Nat) : Int := if bst s L t = -1 then ((bAl L : Nat) : Int) else bst s L t
theorem bAl_s {L : List Nat} : bAl L + 1 = 2 ^ L.length := by
  have p : 1 ≤ 2 ^ L.length := Nat.one_le_two_pow
  unfold bAl
  omega
theorem bAl_bit {L : List Nat} {i : Nat} (h : i < L.length) : (bAl L).testBit i = true := by
  unfold bAl
  have := Nat.testBit_two_pow_sub_one L.length i
  rw [this, decide_eq_true h]
theorem bAl_pop {L : List Nat} (h : L.length ≤ 12) : hpop 20 (bAl L) = L.length := by
  have e := bAl_s (L := L)
  rw [hpop_20 (k := L.length) (by omega) (by omega)]
  exact hpop_all _
theorem b12 {L : List Nat} (h : L.length ≤ 12) : 2 ^ L.length ≤ 4096 := Nat.pow_le_pow_right (n := 2) (by decide) h
/-- the last set of all takes nothing away: what both end with -/
theorem bCl_end {s : Nat → Int} {L : List Nat} (h : L.length ≤ 12) : bCl s L (bAl L) = bst s L (2 ^ L.length) := by
  have b := bst_bd (s := s) (L := L) (bAl L)
  have e := bAl_s (L := L)
  have fr : frP s L (bAl L) := fun i j hi _ hb _ => by
    rw [bAl_bit hi] at hb
    cases hb
  rw [← e]
  unfold bCl
  split
  · rename_i c
    rw [bst_t (.inl c) fr]
  · rename_i c
    rw [bst_f]
    rintro ⟨q | q, -⟩
    · exact c q
    · rw [bAl_pop h] at q
      have l := hpop_le L.length (bst s L (bAl L)).toNat
      rw [hpop_20 (k := L.length) (by omega) (by omega)] at q
      omega
noncomputable def qBk (s : Nat → Int) (p i w : Int) : Int := if w = 2 then (if 0 ≤ i ∧ i < ((gLs s p 40).length : Int) then ((fg (gLs s p 40) i.toNat : Nat) : Int) else -2) else if w = 0 then ((hpop 20 (bst s (gLs s p 40) (2 ^ (gLs s p 40).length)).toNat : Nat) : Int) else bst s (gLs s p 40) (2 ^ (gLs s p 40).length)
noncomputable def qBack (s : Nat → Int) (p i w : Int) : Int := @ite _ (aPers s p ∧ 0 ≤ w ∧ w ≤ 2) (Classical.propDecidable _) (qBk s p i w) (-1)
theorem qBack_no {s : Nat → Int} {p i w : Int} (h : ¬ (aPers s p ∧ 0 ≤ w ∧ w ≤ 2)) : qBack s p i w = -1 := if_neg h
theorem qBack_yes {s : Nat → Int} {p i w : Int} (h : aPers s p ∧ 0 ≤ w ∧ w ≤ 2) : qBack s p i w = qBk s p i w := if_pos h
theorem bst_0 {s : Nat → Int} {L : List Nat} (h : L.length ≤ 12) : 0 ≤ bst s L (2 ^ L.length) ∧ bst s L (2 ^ L.length) < 4096 := by
  have e := bAl_s (L := L)
  have l := b12 h
  have b := bst_bd (s := s) (L := L) (2 ^ L.length)
  have c := bCl_end (s := s) h
  have b2 := bst_bd (s := s) (L := L) (bAl L)
  unfold bCl at c
  split at c <;> omega
section BK
variable {xs : List Int32} {n : Nat} {Q : hQ} {m m0 : gx_M} {s : Nat → Int} {a1 a2 a3 p : Int} {x y : Nat} {L : List Nat}
theorem c91 (hB : sBk 5 s m) (hx : x < 40) (ho : aOwn s p x = true) (h : Q (some (.inl (if iC s p x = true then 1 else 0))) m) : hxn xs n yp_m91 0 [(0, .inr (.inl 5)), (1, .inr (.inr ((hmask (aOwn s p) 40 : Nat) : Int))), (3, .inl (x : Int))] [] m Q := by
  unfold iC at h
  have hl := hloop (N := 40) (P := fun k => hAnyB (fun j => (aOwn s p x && aOwn s p j) && aCl s x j) k = false → hxn xs n yp_m91 3 [(0, .inr (.inl 5)), (1, .inr (.inr ((hmask (aOwn s p) 40 : Nat) : Int))), (3, .inl (x : Int)), (4, .inl (k : Int))] [] m Q) (fun q => ?_) (fun k hk ih q => ?_) 0 (Nat.zero_le _) rfl
  · exact hx_dn (hr91_0 hl)
  · rw [q, if_neg (by decide)] at h
    exact hx_dn (hr91_3 (fun _ => h) (fun c => absurd c (by decide)) (fun c => absurd c (by decide)))
  · have et := hmask_test (f := aOwn s p) hk
    have no : ((aOwn s p x && aOwn s p k) && aCl s x k) = false → hxn xs n yp_m91 3 [(0, .inr (.inl 5)), (1, .inr (.inr ((hmask (aOwn s p) 40 : Nat) : Int))), (3, .inl (x : Int)), (4, .inl (gx_w ((k : Int) + 1)))] [] m Q := fun c => by
      rw [ew_u (by omega)]
      refine ih ?_
      show (hAnyB _ k || ((aOwn s p x && aOwn s p k) && aCl s x k)) = false
      rw [q, c]
      rfl
    refine hx_dn (hr91_3 (fun c => absurd c (by omega)) (fun _ c => no ?_) (fun _ c => ?_))
    · rw [et] at c
      have hf : aOwn s p k = false := by
        split at c
        · cases c
        · rename_i g
          simpa using g
      rw [hf, Bool.and_false, Bool.false_and]
    · have hf : aOwn s p k = true := by
        rw [et] at c
        split at c
        · assumption
        · exact absurd rfl c
      refine c88 hB hx hk (aOwn_t ho) (aOwn_t hf) ?_
      by_cases g : aCl s x k = true
      · rw [if_pos g]
        have ha : hAnyB (fun j => (aOwn s p x && aOwn s p j) && aCl s x j) 40 = true := hAnyB_iff.mpr ⟨k, hk, by
          rw [ho, hf, g]
          rfl⟩
        rw [ha, if_pos rfl] at h
        exact hx_dn (hr91_28 (fun c => absurd c (by decide)) (fun _ => h))
      · rw [if_neg g]
        exact hx_dn (hr91_28 (fun _ => no (by rw [Bool.eq_false_iff.mpr g, Bool.and_false])) (fun c => absurd rfl c))
def cGa (L : List Nat) (m : gx_M) : Prop := m 70 2 = (L.length : Int) ∧ ∀ i, i < L.length → m 71 i = ((fg L i : Nat) : Int)
def cGf (m0 m : gx_M) : Prop := ∀ c, c ≠ 70 → c ≠ 71 → c ≠ 72 → m c = m0 c
theorem cGf_B (h : cGf m0 m) (hB : sBk 5 s m0) : sBk 5 s m := sBk_c (fun c h1 h2 => h c (by omega) (by omega) (by omega)) hB
/-- the years that clash are gathered -/
theorem c90a (hB : sBk 5 s m0) (h : ∀ m', cGa (gLs s p 40) m' → cGf m0 m' → hxn xs n yp_m90 78 [(0, .inr (.inl 70)), (1, .inr (.inl 5)), (5, .inl 0)] [] m' Q) (hm : cGf m0 m) : hxn xs n yp_m90 0 [(0, .inr (.inl 70)), (1, .inr (.inl 5)), (2, .inl p)] [] m Q := by
  refine hx_dn (hr90_0 (c60 (cGf_B hm hB) (hx_dn (hr90_5 ?_))))
  have hl := hloop (N := 40) (P := fun k => ∀ m1, cGa (gLs s p k) m1 → cGf m0 m1 → hxn xs n yp_m90 14 [(0, .inr (.inl 70)), (1, .inr (.inl 5)), (3, .inr (.inr ((hmask (aOwn s p) 40 : Nat) : Int))), (5, .inl (k : Int))] [] m1 Q) (fun m1 g1 g2 => ?_) (fun k hk ih m1 g1 g2 => ?_) 0 (Nat.zero_le _)
  · refine hl _ ⟨gx_u_self, fun i hi => absurd hi (Nat.not_lt_zero _)⟩ (fun c c1 c2 c3 => ?_)
    rw [gx_u_off c1]
    exact hm c c1 c2 c3
  · exact hx_dn (hr90_14 (fun _ => h m1 g1 g2) (fun c => absurd c (by decide)) (fun c => absurd c (by decide)) (fun c => absurd c (by decide)))
  · have et := hmask_test (f := aOwn s p) hk
    have l12 := gLs_12 (s := s) (p := p) k
    have no : ¬ ((gLs s p k).length < 12 ∧ iC s p k = true) → hxn xs n yp_m90 14 [(0, .inr (.inl 70)), (1, .inr (.inl 5)), (3, .inr (.inr ((hmask (aOwn s p) 40 : Nat) : Int))), (5, .inl (gx_w ((k : Int) + 1)))] [] m1 Q := fun c => by
      rw [ew_u (by omega)]
      exact ih m1 (by rw [gLs_f c]; exact g1) g2
    refine hx_dn (hr90_14 (fun c => absurd c (by omega)) (fun _ c => ?_) (fun _ _ c => no ?_) (fun _ c d => ?_))
    · rw [g1.1] at c
      have e := gLs_full (s := s) (p := p) (y := k) (by omega) (40 - k)
      have e2 : k + (40 - k) = 40 := by omega
      rw [e2] at e
      exact h m1 (by rw [e]; exact g1) g2
    · rintro ⟨-, q⟩
      rw [et, if_pos (iC_own q)] at c
      cases c
    · have hf : aOwn s p k = true := by
        rw [et] at d
        split at d
        · assumption
        · exact absurd rfl d
      refine c91 (cGf_B g2 hB) hk hf ?_
      by_cases g : iC s p k = true
      · rw [if_pos g]
        rw [g1.1] at c
        have c' : (gLs s p k).length < 12 := by omega
        refine hx_dn (hr90_48 (fun c => absurd c (by decide)) (fun _ => ?_))
        rw [ew_u (by omega), g1.1, ew_u (by omega), Int.toNat_natCast]
        refine ih _ ?_ (fun c c1 c2 c3 => ?_)
        · rw [gLs_t c' g]
          refine ⟨?_, fun i hi => ?_⟩
          · rw [gx_u_off (by decide), gx_u_self, List.length_append, List.length_singleton]
          · rw [List.length_append, List.length_singleton] at hi
            by_cases e : i = (gLs s p k).length
            · subst e
              rw [gx_u_self, fg_eq]
            · rw [gx_u_ne (by omega), gx_u_off (by decide), fg_lt (by omega)]
              exact g1.2 i (by omega)
        · rw [gx_u_off c2, gx_u_off c1]
          exact g2 c c1 c2 c3
      · rw [if_neg g]
        exact hx_dn (hr90_48 (fun _ => no (fun q => g q.2)) (fun c => absurd rfl c))
def cGr (s : Nat → Int) (L : List Nat) (i k : Nat) : Nat := hmask (fun j => aCl s (fg L i) (fg L j)) k
theorem c90b (hB : sBk 5 s m0) (hL : L.length ≤ 12) (hy : ∀ i, i < L.length → fg L i < 40 ∧ s (440 + fg L i) = 1) (h : ∀ m', cGa L m' → cGf m0 m' → (∀ i, i < L.length → m' 72 i = ((cGr s L i L.length : Nat) : Int)) → Q none m') (hG : cGa L m) (hm : cGf m0 m) : hxn xs n yp_m90 78 [(0, .inr (.inl 70)), (1, .inr (.inl 5)), (5, .inl 0)] [] m Q := by
  have hl := hloop (N := L.length) (P := fun i => ∀ m1, cGa L m1 → cGf m0 m1 → (∀ i', i' < i → m1 72 i' = ((cGr s L i' L.length : Nat) : Int)) → hxn xs n yp_m90 78 [(0, .inr (.inl 70)), (1, .inr (.inl 5)), (5, .inl (i : Int))] [] m1 Q) (fun m1 g1 g2 g3 => ?_) (fun i hi ih m1 g1 g2 g3 => ?_) 0 (Nat.zero_le _)
  · exact hl m hG hm (fun i hi => absurd hi (Nat.not_lt_zero _))
  · have e := g1.1
    exact hx_dn (hr90_78 (fun _ => h m1 g1 g2 g3) (fun c => absurd c (by omega)) (fun c => absurd c (by omega)))
  · have e := g1.1
    refine hx_dn (hr90_78 (fun c => absurd c (by omega)) (fun _ c => absurd c (by omega)) (fun _ _ => ?_))
    rw [Int.toNat_natCast]
    have hl2 := hloop (N := L.length) (P := fun j => ∀ m2, cGa L m2 → cGf m0 m2 → (∀ i', i' < i → m2 72 i' = ((cGr s L i' L.length : Nat) : Int)) → m2 72 i = ((cGr s L i j : Nat) : Int) → hxn xs n yp_m90 105 [(0, .inr (.inl 70)), (1, .inr (.inl 5)), (5, .inl (i : Int)), (6, .inl (j : Int))] [] m2 Q) (fun m2 f1 f2 f3 f4 => ?_) (fun j hj ih2 m2 f1 f2 f3 f4 => ?_) 0 (Nat.zero_le _)
    · refine hl2 _ ⟨by rw [gx_u_off (by decide)]; exact g1.1, fun j hj => by rw [gx_u_off (by decide)]; exact g1.2 j hj⟩ (fun c c1 c2 c3 => by rw [gx_u_off c3]; exact g2 c c1 c2 c3) (fun i' hi' => by rw [gx_u_ne (by omega)]; exact g3 i' hi') ?_
      rw [gx_u_self]
      rfl
    · have e := f1.1
      refine hx_dn (hr90_105 (fun _ => ?_) (fun c => absurd c (by omega)) (fun c => absurd c (by omega)))
      rw [ew_u (by omega)]
      refine ih m2 f1 f2 (fun i' hi' => ?_)
      by_cases q : i' = i
      · subst q
        exact f4
      · exact f3 i' (by omega)
    · have e := f1.1
      have y1 := hy i hi
      have y2 := hy j hj
      refine hx_dn (hr90_105 (fun c => absurd c (by omega)) (fun _ c => absurd c (by omega)) (fun _ _ => ?_))
      rw [Int.toNat_natCast, Int.toNat_natCast, f1.2 i hi, f1.2 j hj]
      refine c88 (cGf_B f2 hB) y1.1 y2.1 y1.2 y2.2 ?_
      by_cases g : aCl s (fg L i) (fg L j) = true
      · rw [if_pos g]
        refine hx_dn (hr90_139 (fun c => absurd c (by decide)) (fun _ => ?_))
        rw [ew_u (by omega), Int.toNat_natCast, f4]
        unfold cGr
        rw [hmask_grow32 (by omega)]
        refine ih2 _ ⟨by rw [gx_u_off (by decide)]; exact f1.1, fun j hj => by rw [gx_u_off (by decide)]; exact f1.2 j hj⟩ (fun c c1 c2 c3 => by rw [gx_u_off c3]; exact f2 c c1 c2 c3) (fun i' hi' => by rw [gx_u_ne (by omega)]; exact f3 i' hi') ?_
        rw [gx_u_self]
        unfold cGr
        rw [hmask_t (f := fun j => aCl s (fg L i) (fg L j)) g]
      · rw [if_neg g]
        refine hx_dn (hr90_139 (fun _ => ?_) (fun c => absurd rfl c))
        rw [ew_u (by omega)]
        refine ih2 m2 f1 f2 f3 ?_
        unfold cGr at f4 ⊢
        rw [hmask_f (f := fun j => aCl s (fg L i) (fg L j)) (Bool.eq_false_iff.mpr g)]
        exact f4
theorem cGr_lt {i : Nat} (hL : L.length ≤ 12) : cGr s L i L.length < 4096 := Nat.lt_of_lt_of_le (hmask_lt _ _) (b12 hL)
/-- a set that leaves no clash, by the class -/
theorem c94 {X : Nat} (hX : X < 4096) (hL : L.length ≤ 12) (hG : m 70 2 = (L.length : Int)) (hg : ∀ i, i < L.length → m 72 i = ((cGr s L i L.length : Nat) : Int)) (h1 : frP s L X → Q (some (.inl 1)) m) (h0 : ¬ frP s L X → Q (some (.inl 0)) m) : hxn xs n yp_m94 0 [(0, .inr (.inl 70)), (1, .inl (X : Int))] [] m Q := by
  have hl := hloop (N := L.length) (P := fun i => (∀ i' j, i' < i → j < L.length → X.testBit i' = false → X.testBit j = false → aCl s (fg L i') (fg L j) = false) → hxn xs n yp_m94 2 [(0, .inr (.inl 70)), (1, .inl (X : Int)), (2, .inl (i : Int))] [] m Q) (fun q => hx_dn (hr94_2 (fun _ => h1 q) (fun c => absurd c (by omega)) (fun c => absurd c (by omega)) (fun c => absurd c (by omega)) (fun c => absurd c (by omega)))) (fun i hi ih q => ?_) 0 (Nat.zero_le _) (fun i' j hi' => absurd hi' (Nat.not_lt_zero _))
  · exact hx_dn (hr94_0 hl)
  · have et := hibit (X := X) (y := i) (by omega) (by omega)
    have hM := cGr_lt (s := s) (i := i) hL
    have next : (∀ j, j < L.length → X.testBit i = false → X.testBit j = false → aCl s (fg L i) (fg L j) = false) → hxn xs n yp_m94 2 [(0, .inr (.inl 70)), (1, .inl (X : Int)), (2, .inl (gx_w ((i : Int) + 1)))] [] m Q := fun k => by
      rw [ew_u (by omega)]
      refine ih (fun i' j hi' hj a b => ?_)
      by_cases e : i' = i
      · subst e
        exact k j hj a b
      · exact q i' j (by omega) hj a b
    refine hx_dn (hr94_2 (fun c => absurd c (by omega)) (fun _ c => absurd c (by omega)) (fun _ _ c => next ?_) (fun _ _ c d => next ?_) (fun _ _ c d => h0 ?_))
    · intro j _ a
      rw [et, if_neg (by rw [a]; decide)] at c
      exact absurd rfl c
    · intro j hj _ b
      rw [Int.toNat_natCast, hg i hi, hand_not (by omega) (by omega)] at d
      have z : cGr s L i L.length &&& (2 ^ 32 - (X + 1)) = 0 := by omega
      have t := hnot_bit (M := cGr s L i L.length) (X := X) (i := j) (by omega) (by omega)
      rw [z, Nat.zero_testBit, b, Bool.not_false, Bool.and_true] at t
      unfold cGr at t
      rw [hmask_bit, decide_eq_true hj, Bool.true_and] at t
      exact t.symm
    · intro fr
      rw [Int.toNat_natCast, hg i hi, hand_not (by omega) (by omega)] at d
      refine d ?_
      have z : cGr s L i L.length &&& (2 ^ 32 - (X + 1)) = 0 := by
        apply Nat.eq_of_testBit_eq
        intro j
        rw [Nat.zero_testBit]
        by_cases hj : j < L.length
        · rw [hnot_bit (by omega) (by omega)]
          unfold cGr
          rw [hmask_bit, decide_eq_true hj, Bool.true_and]
          by_cases b : X.testBit j = true
          · rw [b, Bool.not_true, Bool.and_false]
          · have a : X.testBit i = false := by
              rw [et] at c
              rw [Bool.eq_false_iff]
              intro q
              rw [if_pos q] at c
              cases c
            rw [fr i j hi hj a (Bool.eq_false_iff.mpr b), Bool.false_and]
        · rw [Nat.testBit_and]
          unfold cGr
          rw [hmask_bit, decide_eq_false hj, Bool.false_and, Bool.false_and]
      rw [z]
      rfl
theorem c93 (hL : L.length ≤ 12) (hG : m 70 2 = (L.length : Int)) (hg : ∀ i, i < L.length → m 72 i = ((cGr s L i L.length : Nat) : Int)) (h : Q (some (.inl (bst s L (2 ^ L.length)))) m) : hxn xs n yp_m93 0 [(0, .inr (.inl 70))] [] m Q := by
  have l12 := b12 hL
  have es := bAl_s (L := L)
  have ea : gx_w ((gx_shl 1 (m 70 2)) - 1) = ((bAl L : Nat) : Int) := by
    rw [hG, hshl_one _ (by omega), gx_w_id (by omega) (by omega)]
    omega
  refine hx_dn (hr93_0 ?_)
  rw [ea]
  have c0 : bCl s L 0 = ((bAl L : Nat) : Int) := if_pos rfl
  have hl := hloop (N := bAl L) (P := fun t => hxn xs n yp_m93 13 [(0, .inr (.inl 70)), (1, .inl ((bAl L : Nat) : Int)), (2, .inl (bCl s L t)), (3, .inl (t : Int))] [] m Q) (hx_dn (hr93_13 (fun _ => by rw [bCl_end hL]; exact h) (fun c => absurd c (by omega)))) (fun t ht ih => ?_) 0 (Nat.zero_le _)
  · rw [c0] at hl
    exact hl
  · have b := bst_bd (s := s) (L := L) t
    have ew : gx_w ((t : Int) + 1) = ((t + 1 : Nat) : Int) := by
      rw [gx_w_id (by omega) (by omega)]
      omega
    obtain ⟨B, hB⟩ : ∃ B : Nat, bCl s L t = (B : Int) ∧ B < 4096 := by
      unfold bCl
      split
      · exact ⟨bAl L, rfl, by omega⟩
      · exact ⟨(bst s L t).toNat, by omega, by omega⟩
    have hc : hpop 20 t < hpop 20 B ↔ (bst s L t = -1 ∨ hpop 20 t < hpop 20 (bst s L t).toNat) := by
      have hB' := hB.1
      unfold bCl at hB'
      split at hB'
      · rename_i c
        have : B = bAl L := by omega
        rw [this, bAl_pop hL, hpop_20 (k := L.length) (by omega) (by omega)]
        refine ⟨fun _ => .inl c, fun _ => ?_⟩
        have l := hpop_le L.length t
        have f := hpop_full L.length t (by omega)
        omega
      · rename_i c
        have : B = (bst s L t).toNat := by omega
        rw [this]
        exact ⟨fun q => .inr q, fun q => q.elim (fun e => absurd e c) id⟩
    have keep : ¬ ((bst s L t = -1 ∨ hpop 20 t < hpop 20 (bst s L t).toNat) ∧ frP s L t) → hxn xs n yp_m93 13 [(0, .inr (.inl 70)), (1, .inl ((bAl L : Nat) : Int)), (2, .inl (B : Int)), (3, .inl (gx_w ((t : Int) + 1)))] [] m Q := fun c => by
      have e : bCl s L (t + 1) = (B : Int) := by
        rw [← hB.1]
        unfold bCl
        rw [bst_f c]
      rw [e] at ih
      rw [ew]
      exact ih
    rw [hB.1]
    refine hx_dn (hr93_13 (fun c => absurd c (by omega)) (fun _ => hs63 (by omega) (hx_dn (hr93_22 (hs63 (by omega) (hx_dn (hr93_26 (fun c => keep ?_) (fun c => ?_))))))))
    · rintro ⟨q, -⟩
      have := hc.mpr q
      omega
    · have q := hc.mp (by omega)
      refine c94 (by omega) hL hG hg (fun fr => ?_) (fun fr => ?_)
      · refine hx_dn (hr93_34 (fun c => absurd c (by decide)) (fun _ => ?_))
        have e : bCl s L (t + 1) = (t : Int) := by
          unfold bCl
          rw [bst_t q fr, if_neg (by omega)]
        rw [e] at ih
        rw [ew]
        exact ih
      · exact hx_dn (hr93_34 (fun _ => keep (fun k => fr k.2)) (fun c => absurd rfl c))
theorem gLs_yr : ∀ i, i < (gLs s p 40).length → fg (gLs s p 40) i < 40 ∧ s (440 + fg (gLs s p 40) i) = 1 := fun i hi => by
  have := gLs_mem (s := s) (p := p) 40 _ (fg_mem hi)
  exact ⟨this.1, aOwn_t this.2⟩
theorem q89 (hR : hWr xs m) : hxn xs n yp_m89 0 [(0, .inr (.inl 0)), (1, .inl a1), (2, .inl a2), (3, .inl a3)] [] m (fun r _ => r = some (.inl (qBack (m 87) a1 a2 a3))) := by
  obtain ⟨hs, hB, -⟩ := hR
  have i1 : cPers 5 m a1 ↔ aPers (m 87) a1 := cP_iff hB
  have no : ¬ (aPers (m 87) a1 ∧ 0 ≤ a3 ∧ a3 ≤ 2) → (some (.inl (-1)) : Option hV) = some (.inl (qBack (m 87) a1 a2 a3)) := fun h => by rw [qBack_no h]
  have l12 := gLs_12 (s := m 87) (p := a1) 40
  refine hx_dn (hr89_0 (fun _ c => no (fun q => by omega)) (fun c1 c2 c3 => ?_) (fun _ _ c => no (fun q => by omega)) (fun c => no (fun q => c (i1.mpr q.1))))
  rw [qBack_yes ⟨i1.mp c1, c2, c3⟩]
  refine c90a hB (fun m1 g1 f1 => ?_) (fun _ _ _ _ => rfl)
  refine c90b hB l12 gLs_yr (fun m2 g2 f2 g3 => ?_) g1 f1
  have b0 := bst_0 (s := m 87) (L := gLs (m 87) a1 40) l12
  unfold qBk
  refine hx_dn (hr89_34 (fun c => c93 l12 g2.1 g3 (hx_dn (hr89_75 (fun d => ?_) (fun d => ?_)))) (fun c d => ?_) (fun c d e => ?_) (fun c d e => ?_))
  · rw [if_neg c, if_neg d]
  · rw [if_neg c, if_pos d]
    obtain ⟨B, hB2⟩ : ∃ B : Nat, bst (m 87) (gLs (m 87) a1 40) (2 ^ (gLs (m 87) a1 40).length) = (B : Int) := ⟨_, (Int.toNat_of_nonneg b0.1).symm⟩
    rw [hB2, Int.toNat_natCast]
    exact hs63 (by omega) (hx_dn (hr89_86 rfl))
  · rw [if_pos c, if_neg (by omega)]
  · rw [g2.1] at e
    rw [if_pos c, if_pos ⟨d, e⟩]
    refine hx_dn (hr92_0 (fun c => absurd c (by omega)) (fun _ c => ?_) (fun _ _ c => absurd c (by omega)) (fun _ _ _ => hx_dn (hr89_67 ?_)))
    · rw [g2.1] at c
      exact absurd c (by omega)
    · rw [g2.2 _ (by omega)]
  · rw [g2.1] at e
    rw [if_pos c, if_neg (by omega)]
end BK
end
section
/-! givenBack, by the reference -/
section RBK
variable {xs : List Int32} {n : Nat} {Q : hQ} {m m0 : gx_M} {a1 a2 a3 p : Int} {x y : Nat} {L : List Nat}
theorem r230 (hs : sOK (m 87)) (hx : x < 40) (h : Q (some (.inl (if iC (m 87) p x = true then 1 else 0))) m) : hxn xs n yp_m230 0 [(0, .inr (.inl 86)), (1, .inl p), (2, .inl (x : Int))] [] m Q := by
  unfold iC at h
  have hl := hloop (N := 40) (P := fun k => hAnyB (fun j => (aOwn (m 87) p x && aOwn (m 87) p j) && aCl (m 87) x j) k = false → hxn xs n yp_m230 2 [(0, .inr (.inl 86)), (1, .inl p), (2, .inl (x : Int)), (3, .inl (k : Int))] [] m Q) (fun q => ?_) (fun k hk ih q => ?_) 0 (Nat.zero_le _) rfl
  · exact hx_dn (hr230_0 hl)
  · rw [q, if_neg (by decide)] at h
    exact hx_dn (hr230_2 (fun _ => h) (fun c => absurd c (by decide)) (fun c => absurd c (by decide)))
  · have no : ((aOwn (m 87) p x && aOwn (m 87) p k) && aCl (m 87) x k) = false → hxn xs n yp_m230 2 [(0, .inr (.inl 86)), (1, .inl p), (2, .inl (x : Int)), (3, .inl (gx_w ((k : Int) + 1)))] [] m Q := fun c => by
      rw [ew_u (by omega)]
      refine ih ?_
      show (hAnyB _ k || ((aOwn (m 87) p x && aOwn (m 87) p k) && aCl (m 87) x k)) = false
      rw [q, c]
      rfl
    refine hx_dn (hr230_2 (fun c => absurd c (by omega)) (fun _ c => no ?_) (fun _ c => r228 hs hx hk ?_))
    · have e : k = x := by omega
      rw [e, aCl_self, Bool.and_false]
    · by_cases g : ((aOwn (m 87) p x && aOwn (m 87) p k) && aCl (m 87) x k) = true
      · rw [if_pos g]
        have ha : hAnyB (fun j => (aOwn (m 87) p x && aOwn (m 87) p j) && aCl (m 87) x j) 40 = true := hAnyB_iff.mpr ⟨k, hk, g⟩
        rw [ha, if_pos rfl] at h
        exact hx_dn (hr230_20 (fun c => absurd c (by decide)) (fun _ => h))
      · rw [if_neg g]
        exact hx_dn (hr230_20 (fun _ => no (Bool.eq_false_iff.mpr g)) (fun c => absurd rfl c))
def rGa (L : List Nat) (m : gx_M) : Prop := m 86 34 = (L.length : Int) ∧ ∀ i, i < L.length → m 110 i = ((fg L i : Nat) : Int)
theorem frP_h {s : Nat → Int} {X : Nat} (h : ∀ i j, i < L.length → j < i → X.testBit i = false → X.testBit j = false → aCl s (fg L i) (fg L j) = false) : frP s L X := fun i j hi hj a b => by
  rcases Nat.lt_trichotomy i j with q | q | q
  · exact aCl_no (h j i hj q b a)
  · rw [q]
    exact aCl_self
  · exact h i j hi q a b
theorem r231 {X : Nat} (hX : X < 4096) (hs : sOK (m 87)) (hL : L.length ≤ 12) (hG : rGa L m) (hy : ∀ i, i < L.length → fg L i < 40 ∧ aOwn (m 87) p (fg L i) = true) (h1 : frP (m 87) L X → Q (some (.inl 1)) m) (h0 : ¬ frP (m 87) L X → Q (some (.inl 0)) m) : hxn xs n yp_m231 0 [(0, .inr (.inl 86)), (1, .inl p), (2, .inl (X : Int))] [] m Q := by
  have hg := hG.1
  have hl := hloop (N := L.length) (P := fun i => (∀ i' j, i' < i → j < i' → X.testBit i' = false → X.testBit j = false → aCl (m 87) (fg L i') (fg L j) = false) → hxn xs n yp_m231 2 [(0, .inr (.inl 86)), (1, .inl p), (2, .inl (X : Int)), (3, .inl (i : Int))] [] m Q) (fun q => hx_dn (hr231_2 (fun _ => h1 (frP_h q)) (fun c => absurd c (by omega)))) (fun i hi ih q => ?_) 0 (Nat.zero_le _) (fun i' j hi' => absurd hi' (Nat.not_lt_zero _))
  · exact hx_dn (hr231_0 hl)
  · refine hx_dn (hr231_2 (fun c => absurd c (by omega)) (fun _ => ?_))
    have et := hibit (X := X) (y := i) (by omega) (by omega)
    have bi : ∀ {k : Nat}, k < 12 → (gx_and (gx_shr (X : Int) (k : Int)) 1 = 1 ↔ X.testBit k = true) := fun {k} hk => by
      rw [hibit (X := X) (y := k) (by omega) (by omega)]
      split
      · exact ⟨fun _ => by assumption, fun _ => rfl⟩
      · rename_i g
        exact ⟨fun c => absurd c (by decide), fun c => absurd c g⟩
    have hl2 := hloop (N := i) (P := fun j => (∀ j', j' < j → X.testBit i = false → X.testBit j' = false → aCl (m 87) (fg L i) (fg L j') = false) → hxn xs n yp_m231 13 [(0, .inr (.inl 86)), (1, .inl p), (2, .inl (X : Int)), (3, .inl (i : Int)), (4, .inl (j : Int))] [] m Q) (fun q2 => ?_) (fun j hj ih2 q2 => ?_) 0 (Nat.zero_le _) (fun j' hj' => absurd hj' (Nat.not_lt_zero _))
    · exact hl2
    · refine hx_dn (hr231_13 (fun _ => ?_) (fun c => absurd c (by omega)) (fun c => absurd c (by omega)) (fun c => absurd c (by omega)))
      rw [ew_u (by omega)]
      refine ih (fun i' j hi' hj a b => ?_)
      by_cases e : i' = i
      · subst e
        exact q2 j hj a b
      · exact q i' j (by omega) hj a b
    · have next : (X.testBit i = false → X.testBit j = false → aCl (m 87) (fg L i) (fg L j) = false) → hxn xs n yp_m231 13 [(0, .inr (.inl 86)), (1, .inl p), (2, .inl (X : Int)), (3, .inl (i : Int)), (4, .inl (gx_w ((j : Int) + 1)))] [] m Q := fun k => by
        rw [ew_u (by omega)]
        refine ih2 (fun j' hj' a b => ?_)
        by_cases e : j' = j
        · subst e
          exact k a b
        · exact q2 j' (by omega) a b
      refine hx_dn (hr231_13 (fun c => absurd c (by omega)) (fun _ c => next (fun a => ?_)) (fun _ _ c => next (fun _ b => ?_)) (fun _ c d => ?_))
      · rw [(bi (by omega)).mp c] at a
        cases a
      · rw [(bi (by omega)).mp c] at b
        cases b
      · have oi : X.testBit i = false := Bool.eq_false_iff.mpr (fun q => c ((bi (by omega)).mpr q))
        have oj : X.testBit j = false := Bool.eq_false_iff.mpr (fun q => d ((bi (by omega)).mpr q))
        have y1 := hy i hi
        have y2 := hy j (by omega)
        rw [Int.toNat_natCast, Int.toNat_natCast, hG.2 i hi, hG.2 j (by omega)]
        refine r228 hs y1.1 y2.1 ?_
        rw [y1.2, y2.2, Bool.true_and, Bool.true_and]
        by_cases g : aCl (m 87) (fg L i) (fg L j) = true
        · rw [if_pos g]
          refine hx_dn (hr231_54 (fun c => absurd c (by decide)) (fun _ => h0 (fun fr => ?_)))
          rw [fr i j hi (by omega) oi oj] at g
          cases g
        · rw [if_neg g]
          exact hx_dn (hr231_54 (fun _ => next (fun _ _ => Bool.eq_false_iff.mpr g)) (fun c => absurd rfl c))
theorem r229b (hs : sOK (m 87)) (hL : L.length ≤ 12) (hG : rGa L m) (hy : ∀ i, i < L.length → fg L i < 40 ∧ aOwn (m 87) p (fg L i) = true) (h0 : a3 ≠ 0 → Q (some (.inl (bst (m 87) L (2 ^ L.length)))) m) (h1 : a3 = 0 → Q (some (.inl ((hpop 20 (bst (m 87) L (2 ^ L.length)).toNat : Nat) : Int))) m) : hxn xs n yp_m229 118 [(0, .inr (.inl 86)), (1, .inl p), (3, .inl a3), (4, .inl (-1)), (5, .inl 0)] [] m Q := by
  have l12 := b12 hL
  have es := bAl_s (L := L)
  have eN : gx_shl 1 (m 86 34) = ((2 ^ L.length : Nat) : Int) := by rw [hG.1, hshl_one _ (by omega)]
  have b0 := bst_0 (s := m 87) hL
  have hl := hloop (N := 2 ^ L.length) (P := fun t => hxn xs n yp_m229 118 [(0, .inr (.inl 86)), (1, .inl p), (3, .inl a3), (4, .inl (bst (m 87) L t)), (5, .inl (t : Int))] [] m Q) (hx_dn (hr229_118 (fun _ c => h0 c) (fun _ c => ?_) (fun c => ?_) (fun c => ?_))) (fun t ht ih => ?_) 0 (Nat.zero_le _)
  · exact hl
  · have h1 := h1 c
    generalize bst (m 87) L (2 ^ L.length) = z at b0 h1 ⊢
    obtain ⟨B, rfl⟩ : ∃ B : Nat, z = (B : Int) := ⟨z.toNat, by omega⟩
    rw [Int.toNat_natCast] at h1
    exact hs206 (by omega) (hx_dn (hr229_177 h1))
  · rw [eN] at c
    exact absurd c (by omega)
  · rw [eN] at c
    exact absurd c (by omega)
  · have b := bst_bd (s := m 87) (L := L) t
    have ew : gx_w ((t : Int) + 1) = ((t + 1 : Nat) : Int) := by
      rw [gx_w_id (by omega) (by omega)]
      omega
    have keep : ¬ ((bst (m 87) L t = -1 ∨ hpop 20 t < hpop 20 (bst (m 87) L t).toNat) ∧ frP (m 87) L t) → hxn xs n yp_m229 118 [(0, .inr (.inl 86)), (1, .inl p), (3, .inl a3), (4, .inl (bst (m 87) L t)), (5, .inl (gx_w ((t : Int) + 1)))] [] m Q := fun c => by
      rw [bst_f c] at ih
      rw [ew]
      exact ih
    have try_ : (bst (m 87) L t = -1 ∨ hpop 20 t < hpop 20 (bst (m 87) L t).toNat) → hxn xs n yp_m231 0 [(0, .inr (.inl 86)), (1, .inl p), (2, .inl (t : Int))] [] m (fun r m' => hxn xs n yp_m229 155 [(0, .inr (.inl 86)), (1, .inl p), (3, .inl a3), (4, .inl (bst (m 87) L t)), (5, .inl (t : Int))] (hrs r ++ []) m' Q) := fun q => by
      refine r231 (by omega) hs hL hG hy (fun fr => ?_) (fun fr => ?_)
      · refine hx_dn (hr229_155 (fun c => absurd c (by decide)) (fun _ => ?_))
        rw [bst_t q fr] at ih
        rw [ew]
        exact ih
      · exact hx_dn (hr229_155 (fun _ => keep (fun k => fr k.2)) (fun c => absurd rfl c))
    refine hx_dn (hr229_118 (fun c => ?_) (fun c => ?_) (fun _ c => try_ (.inl c)) (fun _ c => ?_))
    · rw [eN] at c
      exact absurd c (by omega)
    · rw [eN] at c
      exact absurd c (by omega)
    · obtain ⟨B, hB⟩ : ∃ B : Nat, bst (m 87) L t = (B : Int) := ⟨(bst (m 87) L t).toNat, by omega⟩
      rw [hB] at keep try_ ⊢
      rw [Int.toNat_natCast] at keep try_
      refine hs206 (by omega) (hx_dn (hr229_140 (hs206 (by omega) (hx_dn (hr229_145 (fun e => keep ?_) (fun e => try_ (.inr (by omega))))))))
      rintro ⟨q | q, -⟩
      · omega
      · omega
theorem q229 (hR : hWr xs m) : hxn xs n yp_m229 0 [(0, .inr (.inl 86)), (1, .inl a1), (2, .inl a2), (3, .inl a3)] [] m (fun r _ => r = some (.inl (qBack (m 87) a1 a2 a3))) := by
  obtain ⟨hs, -⟩ := hR
  have no : ¬ (aPers (m 87) a1 ∧ 0 ≤ a3 ∧ a3 ≤ 2) → (some (.inl (-1)) : Option hV) = some (.inl (qBack (m 87) a1 a2 a3)) := fun h => by rw [qBack_no h]
  have l12 := gLs_12 (s := m 87) (p := a1) 40
  refine hx_dn (hr229_0 (fun c1 c2 => ?_) (fun _ c => no (fun q => c q.2)) (fun c => no (fun q => c q.1)))
  rw [qBack_yes ⟨c1, c2⟩]
  have fin : ∀ m1 : gx_M, m1 87 = m 87 → rGa (gLs (m 87) a1 40) m1 → (a3 ≠ 2 → hxn xs n yp_m229 118 [(0, .inr (.inl 86)), (1, .inl a1), (3, .inl a3), (4, .inl (-1)), (5, .inl 0)] [] m1 (fun r _ => r = some (.inl (qBk (m 87) a1 a2 a3)))) ∧ (a3 = 2 → a2 < 0 ∨ m1 86 34 ≤ a2 → (some (.inl (-2)) : Option hV) = some (.inl (qBk (m 87) a1 a2 a3))) ∧ (a3 = 2 → 0 ≤ a2 → a2 < m1 86 34 → (some (.inl (m1 110 a2.toNat)) : Option hV) = some (.inl (qBk (m 87) a1 a2 a3))) := fun m1 e87 g1 => by
    refine ⟨fun c => ?_, fun c d => ?_, fun c d e => ?_⟩
    · have hy : ∀ i, i < (gLs (m 87) a1 40).length → fg (gLs (m 87) a1 40) i < 40 ∧ aOwn (m1 87) a1 (fg (gLs (m 87) a1 40) i) = true := fun i hi => by
        rw [e87]
        exact gLs_mem 40 _ (fg_mem hi)
      refine r229b (L := gLs (m 87) a1 40) (by rw [e87]; exact hs) l12 g1 hy (fun d => ?_) (fun d => ?_)
      · unfold qBk
        rw [if_neg c, if_neg d, e87]
      · unfold qBk
        rw [if_neg c, if_pos d, e87]
    · rw [g1.1] at d
      unfold qBk
      rw [if_pos c, if_neg (by omega)]
    · rw [g1.1] at e
      unfold qBk
      rw [if_pos c, if_pos ⟨d, e⟩, g1.2 _ (by omega)]
  have hl := hloop (N := 40) (P := fun k => ∀ m1 : gx_M, m1 87 = m 87 → rGa (gLs (m 87) a1 k) m1 → hxn xs n yp_m229 27 [(0, .inr (.inl 86)), (1, .inl a1), (2, .inl a2), (3, .inl a3), (4, .inl (k : Int))] [] m1 (fun r _ => r = some (.inl (qBk (m 87) a1 a2 a3)))) (fun m1 e87 g1 => ?_) (fun k hk ih m1 e87 g1 => ?_) 0 (Nat.zero_le _)
  · exact hl _ (gx_u_off (by decide)) ⟨gx_u_self, fun i hi => absurd hi (Nat.not_lt_zero _)⟩
  · obtain ⟨k1, k2, k3⟩ := fin m1 e87 g1
    exact hx_dn (hr229_27 (fun _ c => k1 c) (fun _ c d => k2 c (.inl d)) (fun _ c _ d => k2 c (.inr d)) (fun _ c d e => k3 c d e) (fun c => absurd c (by decide)) (fun c => absurd c (by decide)) (fun c => absurd c (by decide)) (fun c => absurd c (by decide)) (fun c => absurd c (by decide)))
  · have l12' := gLs_12 (s := m 87) (p := a1) k
    have g := g1.1
    have full : 12 ≤ m1 86 34 → rGa (gLs (m 87) a1 40) m1 := fun c => by
      rw [g] at c
      have e := gLs_full (s := m 87) (p := a1) (y := k) (by omega) (40 - k)
      have e2 : k + (40 - k) = 40 := by omega
      rw [e2] at e
      rw [e]
      exact g1
    refine hx_dn (hr229_27 (fun c => absurd c (by omega)) (fun c => absurd c (by omega)) (fun c => absurd c (by omega)) (fun c => absurd c (by omega)) (fun _ q c => (fin m1 e87 (full q)).1 c) (fun _ q c d => (fin m1 e87 (full q)).2.1 c (.inl d)) (fun _ q c _ d => (fin m1 e87 (full q)).2.1 c (.inr d)) (fun _ q c d e => (fin m1 e87 (full q)).2.2 c d e) (fun _ c => ?_))
    refine r230 (by rw [e87]; exact hs) hk ?_
    rw [e87]
    rw [g] at c
    have c' : (gLs (m 87) a1 k).length < 12 := by omega
    by_cases h : iC (m 87) a1 k = true
    · rw [if_pos h]
      refine hx_dn (hr229_50 (fun _ => ?_) (fun c => absurd c (by decide)))
      rw [ew_u (by omega), g, ew_u (by omega), Int.toNat_natCast]
      refine ih _ ?_ ?_
      · rw [gx_u_off (by decide), gx_u_off (by decide)]
        exact e87
      · rw [gLs_t c' h]
        refine ⟨?_, fun i hi => ?_⟩
        · rw [gx_u_self, List.length_append, List.length_singleton]
        · rw [List.length_append, List.length_singleton] at hi
          by_cases e : i = (gLs (m 87) a1 k).length
          · subst e
            rw [gx_u_off (by decide), gx_u_self, fg_eq]
          · rw [gx_u_off (by decide), gx_u_ne (by omega), fg_lt (by omega)]
            exact g1.2 i (by omega)
    · rw [if_neg h]
      refine hx_dn (hr229_50 (fun c => absurd rfl c) (fun _ => ?_))
      rw [ew_u (by omega)]
      exact ih m1 e87 (by rw [gLs_f (fun q => h q.2)]; exact g1)
end RBK
end
