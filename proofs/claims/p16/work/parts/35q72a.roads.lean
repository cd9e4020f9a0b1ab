/-! taught: roads -/
/-- gatherOffers from 0 on -/
theorem hr100_0 {xs : List Int32} {n : Nat} {Q : hQ} {m : gx_M} {x3 x4 : Int}
    (h1 : hxn xs n yp_m100 8 [(0, .inr (.inl 76)), (1, .inr (.inl 5)), (2, .inr (.inl 44)), (3, .inl x3), (4, .inl x4), (5, .inl 0)] [] (gx_u m 76 2 0) Q) : hxn xs (n + 1) yp_m100 0 [(0, .inr (.inl 76)), (1, .inr (.inl 5)), (2, .inr (.inl 44)), (3, .inl x3), (4, .inl x4)] [] m Q := by
  refine hx_blks (npc := 8) (L' := [(0, .inr (.inl 76)), (1, .inr (.inl 5)), (2, .inr (.inl 44)), (3, .inl x3), (4, .inl x4), (5, .inl 0)]) (st' := []) (m' := (gx_u m 76 2 0)) ((0, .aload_n 0, 1, 0, 0, 0, 0), (0, 0, 0)) [((1, .iconst 0, 1, 0, 0, 0, 0), (0, 0, 0)), ((2, .putfield 24, 3, 7, 2, 2075, 0), (0, 76, 0)), ((5, .iconst 0, 1, 0, 0, 0, 0), (0, 0, 0)), ((6, .istore 5, 2, 0, 0, 0, 0), (0, 0, 0))] (by decide +kernel) rfl ?_
  exact hx_pick [0, 1, 2, 3, 4, 5] h1

/-- gatherOffers from 8 on -/
theorem hr100_8 {xs : List Int32} {n : Nat} {Q : hQ} {m : gx_M} {x3 x4 x5 : Int}
    (h1 : (40 ≤ x5) → Q none m)
    (h2 : (x5 < 40) → (cYear 5 m x5) → ((m 12 (x5).toNat) = x3) → hxn xs n yp_m100 8 [(0, .inr (.inl 76)), (1, .inr (.inl 5)), (2, .inr (.inl 44)), (3, .inl x3), (4, .inl x4), (5, .inl (gx_w (x5 + 1)))] [] m Q)
    (h3 : (x5 < 40) → (cYear 5 m x5) → ((m 12 (x5).toNat) ≠ x3) → (cPwd 5 13 m x5) → hxn xs n yp_m100 8 [(0, .inr (.inl 76)), (1, .inr (.inl 5)), (2, .inr (.inl 44)), (3, .inl x3), (4, .inl x4), (5, .inl (gx_w (x5 + 1)))] [] m Q)
    (h4 : (x5 < 40) → (cYear 5 m x5) → ((m 12 (x5).toNat) ≠ x3) → (¬ (cPwd 5 13 m x5)) → ((gx_and (m 9 (x5).toNat) x4) ≠ 0) → hxn xs n yp_m82 0 [(0, .inr (.inl 44)), (1, .inr (.inl 5)), (2, .inl 118), (3, .inl x5), (4, .inl (m 12 (x5).toNat)), (5, .inl 0)] [] m (fun r m' => hxn xs n yp_m100 77 [(0, .inr (.inl 76)), (1, .inr (.inl 5)), (2, .inr (.inl 44)), (3, .inl x3), (4, .inl x4), (5, .inl x5)] (hrs r ++ []) m' Q))
    (h5 : (x5 < 40) → (cYear 5 m x5) → ((m 12 (x5).toNat) ≠ x3) → (¬ (cPwd 5 13 m x5)) → ((gx_and (m 9 (x5).toNat) x4) = 0) → hxn xs n yp_m100 8 [(0, .inr (.inl 76)), (1, .inr (.inl 5)), (2, .inr (.inl 44)), (3, .inl x3), (4, .inl x4), (5, .inl (gx_w (x5 + 1)))] [] m Q)
    (h6 : (x5 < 40) → (¬ (cYear 5 m x5)) → hxn xs n yp_m100 8 [(0, .inr (.inl 76)), (1, .inr (.inl 5)), (2, .inr (.inl 44)), (3, .inl x3), (4, .inl x4), (5, .inl (gx_w (x5 + 1)))] [] m Q) : hxn xs (n + 1) yp_m100 8 [(0, .inr (.inl 76)), (1, .inr (.inl 5)), (2, .inr (.inl 44)), (3, .inl x3), (4, .inl x4), (5, .inl x5)] [] m Q := by
  refine hx_blks (npc := 12) (L' := [(0, .inr (.inl 76)), (1, .inr (.inl 5)), (2, .inr (.inl 44)), (3, .inl x3), (4, .inl x4), (5, .inl x5)]) (st' := [.inl 40, .inl x5]) (m' := m) ((8, .iload 5, 2, 0, 0, 0, 0), (0, 0, 0)) [((10, .bipush 40, 2, 0, 0, 0, 0), (0, 0, 0))] (by decide +kernel) rfl ?_
  refine hx_cmp .ge 162 (by decide +kernel) (fun c1 => ?_) (fun c1 => ?_)
  · have c1 : 40 ≤ x5 := c1
    exact hx_ret0 (by decide +kernel) (h1 c1)
  · have c1 : x5 < 40 := by have h : ¬ (40 ≤ x5) := c1; omega
    refine hx_blk (npc := 18) (L' := [(0, .inr (.inl 76)), (1, .inr (.inl 5)), (2, .inr (.inl 44)), (3, .inl x3), (4, .inl x4), (5, .inl x5)]) (st' := [.inl x5, .inr (.inl 5)]) (m' := m) [((15, .aload_n 1, 1, 0, 0, 0, 0), (0, 0, 0)), ((16, .iload 5, 2, 0, 0, 0, 0), (0, 0, 0))] (by decide +kernel) rfl ?_
    refine hx_call (E := (18, .invokevirtual 28, 3, 17, 0, 4081, 0)) (M' := yp_m17) [.inr (.inl 5), .inl x5] [] rfl (by decide +kernel) rfl ⟨rfl, rfl⟩ rfl rfl (hs17_5 (fun c2 => ?_) (fun c2 => ?_))
    · have c2 : cYear 5 m x5 := c2
      show hxn xs n yp_m100 21 [(0, .inr (.inl 76)), (1, .inr (.inl 5)), (2, .inr (.inl 44)), (3, .inl x3), (4, .inl x4), (5, .inl x5)] [.inl 1] m Q
      refine hx_if .eq 156 (by decide +kernel) (fun c3 => ?_) (fun c3 => ?_)
      · have c3 : (1 : Int) = 0 := c3
        exfalso; omega
      · have c3 : (1 : Int) ≠ 0 := c3
        refine hx_blk (npc := 32) (L' := [(0, .inr (.inl 76)), (1, .inr (.inl 5)), (2, .inr (.inl 44)), (3, .inl x3), (4, .inl x4), (5, .inl x5)]) (st' := [.inl x3, .inl (m 12 (x5).toNat)]) (m' := m) [((24, .aload_n 1, 1, 0, 0, 0, 0), (0, 0, 0)), ((25, .getfield 34, 3, 2, 11, 1112, 0), (1, 5, 12)), ((28, .iload 5, 2, 0, 0, 0, 0), (0, 0, 0)), ((30, .iaload, 1, 0, 0, 0, 0), (0, 12, 0)), ((31, .iload_n 3, 1, 0, 0, 0, 0), (0, 0, 0))] (by decide +kernel) rfl ?_
        refine hx_cmp .eq 156 (by decide +kernel) (fun c3 => ?_) (fun c3 => ?_)
        · have c3 : (m 12 (x5).toNat) = x3 := c3
          refine hx_blk (npc := 8) (L' := [(0, .inr (.inl 76)), (1, .inr (.inl 5)), (2, .inr (.inl 44)), (3, .inl x3), (4, .inl x4), (5, .inl (gx_w (x5 + 1)))]) (st' := []) (m' := m) [((156, .iinc 5 1, 3, 0, 0, 0, 0), (0, 0, 0)), ((159, .goto (-151), 3, 0, 0, 0, 0), (0, 0, 0))] (by decide +kernel) rfl ?_
          exact hx_pick [0, 1, 2, 3, 4, 5] (h2 c1 c2 c3)
        · have c3 : (m 12 (x5).toNat) ≠ x3 := c3
          refine hx_blk (npc := 38) (L' := [(0, .inr (.inl 76)), (1, .inr (.inl 5)), (2, .inr (.inl 44)), (3, .inl x3), (4, .inl x4), (5, .inl x5)]) (st' := [.inl x5, .inr (.inl 5)]) (m' := m) [((35, .aload_n 1, 1, 0, 0, 0, 0), (0, 0, 0)), ((36, .iload 5, 2, 0, 0, 0, 0), (0, 0, 0))] (by decide +kernel) rfl ?_
          refine hx_call (E := (38, .invokevirtual 37, 3, 79, 0, 4082, 0)) (M' := yp_m79) [.inr (.inl 5), .inl x5] [] rfl (by decide +kernel) rfl ⟨rfl, rfl⟩ rfl rfl (hs79_5 (fun c4 => ?_) (fun c4 => ?_))
          · have c4 : cPwd 5 13 m x5 := c4
            show hxn xs n yp_m100 41 [(0, .inr (.inl 76)), (1, .inr (.inl 5)), (2, .inr (.inl 44)), (3, .inl x3), (4, .inl x4), (5, .inl x5)] [.inl 1] m Q
            refine hx_if .ne 156 (by decide +kernel) (fun c5 => ?_) (fun c5 => ?_)
            · have c5 : (1 : Int) ≠ 0 := c5
              refine hx_blk (npc := 8) (L' := [(0, .inr (.inl 76)), (1, .inr (.inl 5)), (2, .inr (.inl 44)), (3, .inl x3), (4, .inl x4), (5, .inl (gx_w (x5 + 1)))]) (st' := []) (m' := m) [((156, .iinc 5 1, 3, 0, 0, 0, 0), (0, 0, 0)), ((159, .goto (-151), 3, 0, 0, 0, 0), (0, 0, 0))] (by decide +kernel) rfl ?_
              exact hx_pick [0, 1, 2, 3, 4, 5] (h3 c1 c2 c3 c4)
            · have c5 : (1 : Int) = 0 := by have h : ¬ ((1 : Int) ≠ 0) := c5; omega
              exfalso; omega
          · have c4 : ¬ (cPwd 5 13 m x5) := c4
            show hxn xs n yp_m100 41 [(0, .inr (.inl 76)), (1, .inr (.inl 5)), (2, .inr (.inl 44)), (3, .inl x3), (4, .inl x4), (5, .inl x5)] [.inl 0] m Q
            refine hx_if .ne 156 (by decide +kernel) (fun c5 => ?_) (fun c5 => ?_)
            · have c5 : (0 : Int) ≠ 0 := c5
              exfalso; omega
            · have c5 : (0 : Int) = 0 := by have h : ¬ ((0 : Int) ≠ 0) := c5; omega
              refine hx_blk (npc := 54) (L' := [(0, .inr (.inl 76)), (1, .inr (.inl 5)), (2, .inr (.inl 44)), (3, .inl x3), (4, .inl x4), (5, .inl x5)]) (st' := [.inl (gx_and (m 9 (x5).toNat) x4)]) (m' := m) [((44, .aload_n 1, 1, 0, 0, 0, 0), (0, 0, 0)), ((45, .getfield 40, 3, 2, 8, 1101, 0), (1, 5, 9)), ((48, .iload 5, 2, 0, 0, 0, 0), (0, 0, 0)), ((50, .iaload, 1, 0, 0, 0, 0), (0, 9, 0)), ((51, .iload 4, 2, 0, 0, 0, 0), (0, 0, 0)), ((53, .iand, 1, 0, 0, 0, 0), (0, 0, 0))] (by decide +kernel) rfl ?_
              refine hx_if .ne 60 (by decide +kernel) (fun c5 => ?_) (fun c5 => ?_)
              · have c5 : (gx_and (m 9 (x5).toNat) x4) ≠ 0 := c5
                refine hx_blk (npc := 74) (L' := [(0, .inr (.inl 76)), (1, .inr (.inl 5)), (2, .inr (.inl 44)), (3, .inl x3), (4, .inl x4), (5, .inl x5)]) (st' := [.inl 0, .inl (m 12 (x5).toNat), .inl x5, .inl 118, .inr (.inl 5), .inr (.inl 44)]) (m' := m) [((60, .aload_n 2, 1, 0, 0, 0, 0), (0, 0, 0)), ((61, .aload_n 1, 1, 0, 0, 0, 0), (0, 0, 0)), ((62, .bipush 118, 2, 0, 0, 0, 0), (0, 0, 0)), ((64, .iload 5, 2, 0, 0, 0, 0), (0, 0, 0)), ((66, .aload_n 1, 1, 0, 0, 0, 0), (0, 0, 0)), ((67, .getfield 34, 3, 2, 11, 1112, 0), (1, 5, 12)), ((70, .iload 5, 2, 0, 0, 0, 0), (0, 0, 0)), ((72, .iaload, 1, 0, 0, 0, 0), (0, 12, 0)), ((73, .iconst 0, 1, 0, 0, 0, 0), (0, 0, 0))] (by decide +kernel) rfl ?_
                exact hx_call (E := (74, .invokevirtual 43, 3, 82, 0, 4083, 0)) (M' := yp_m82) [.inr (.inl 44), .inr (.inl 5), .inl 118, .inl x5, .inl (m 12 (x5).toNat), .inl 0] [] rfl (by decide +kernel) rfl ⟨rfl, rfl⟩ rfl rfl (hx_mono (h4 c1 c2 c3 c4 c5) (fun r m' h' => hx_pick [0, 1, 2, 3, 4, 5] h'))
              · have c5 : (gx_and (m 9 (x5).toNat) x4) = 0 := by have h : ¬ ((gx_and (m 9 (x5).toNat) x4) ≠ 0) := c5; omega
                refine hx_blk (npc := 8) (L' := [(0, .inr (.inl 76)), (1, .inr (.inl 5)), (2, .inr (.inl 44)), (3, .inl x3), (4, .inl x4), (5, .inl (gx_w (x5 + 1)))]) (st' := []) (m' := m) [((57, .goto 99, 3, 0, 0, 0, 0), (0, 0, 0)), ((156, .iinc 5 1, 3, 0, 0, 0, 0), (0, 0, 0)), ((159, .goto (-151), 3, 0, 0, 0, 0), (0, 0, 0))] (by decide +kernel) rfl ?_
                exact hx_pick [0, 1, 2, 3, 4, 5] (h5 c1 c2 c3 c4 c5)
    · have c2 : ¬ (cYear 5 m x5) := c2
      show hxn xs n yp_m100 21 [(0, .inr (.inl 76)), (1, .inr (.inl 5)), (2, .inr (.inl 44)), (3, .inl x3), (4, .inl x4), (5, .inl x5)] [.inl 0] m Q
      refine hx_if .eq 156 (by decide +kernel) (fun c3 => ?_) (fun c3 => ?_)
      · have c3 : (0 : Int) = 0 := c3
        refine hx_blk (npc := 8) (L' := [(0, .inr (.inl 76)), (1, .inr (.inl 5)), (2, .inr (.inl 44)), (3, .inl x3), (4, .inl x4), (5, .inl (gx_w (x5 + 1)))]) (st' := []) (m' := m) [((156, .iinc 5 1, 3, 0, 0, 0, 0), (0, 0, 0)), ((159, .goto (-151), 3, 0, 0, 0, 0), (0, 0, 0))] (by decide +kernel) rfl ?_
        exact hx_pick [0, 1, 2, 3, 4, 5] (h6 c1 c2)
      · have c3 : (0 : Int) ≠ 0 := c3
        exfalso; omega

/-- gatherOffers from 77 on -/
theorem hr100_77 {xs : List Int32} {n : Nat} {Q : hQ} {m : gx_M} {x3 x4 x5 s0 : Int}
    (h1 : hxn xs n yp_m55 0 [(0, .inr (.inl 44)), (1, .inr (.inl 5)), (2, .inl x5), (3, .inl x3), (4, .inl s0)] [] m (fun r m' => hxn xs n yp_m100 89 [(0, .inr (.inl 76)), (1, .inr (.inl 5)), (2, .inr (.inl 44)), (3, .inl x3), (4, .inl x4), (5, .inl x5), (6, .inl s0)] (hrs r ++ []) m' Q)) : hxn xs (n + 1) yp_m100 77 [(0, .inr (.inl 76)), (1, .inr (.inl 5)), (2, .inr (.inl 44)), (3, .inl x3), (4, .inl x4), (5, .inl x5)] [.inl s0] m Q := by
  refine hx_blks (npc := 86) (L' := [(0, .inr (.inl 76)), (1, .inr (.inl 5)), (2, .inr (.inl 44)), (3, .inl x3), (4, .inl x4), (5, .inl x5), (6, .inl s0)]) (st' := [.inl s0, .inl x3, .inl x5, .inr (.inl 5), .inr (.inl 44)]) (m' := m) ((77, .istore 6, 2, 0, 0, 0, 0), (0, 0, 0)) [((79, .aload_n 2, 1, 0, 0, 0, 0), (0, 0, 0)), ((80, .aload_n 1, 1, 0, 0, 0, 0), (0, 0, 0)), ((81, .iload 5, 2, 0, 0, 0, 0), (0, 0, 0)), ((83, .iload_n 3, 1, 0, 0, 0, 0), (0, 0, 0)), ((84, .iload 6, 2, 0, 0, 0, 0), (0, 0, 0))] (by decide +kernel) rfl ?_
  exact hx_call (E := (86, .invokevirtual 49, 3, 55, 0, 4084, 0)) (M' := yp_m55) [.inr (.inl 44), .inr (.inl 5), .inl x5, .inl x3, .inl s0] [] rfl (by decide +kernel) rfl ⟨rfl, rfl⟩ rfl rfl (hx_mono h1 (fun r m' h' => hx_pick [0, 1, 2, 3, 4, 5, 6] h'))

/-- gatherOffers from 89 on -/
theorem hr100_89 {xs : List Int32} {n : Nat} {Q : hQ} {m : gx_M} {x3 x4 x5 x6 s0 : Int}
    (h1 : (s0 ≠ 0) → hxn xs n yp_m100 8 [(0, .inr (.inl 76)), (1, .inr (.inl 5)), (2, .inr (.inl 44)), (3, .inl x3), (4, .inl x4), (5, .inl (gx_w (x5 + 1)))] [] m Q)
    (h2 : (s0 = 0) → ((m 76 2) < 0) → hxn xs n yp_m100 8 [(0, .inr (.inl 76)), (1, .inr (.inl 5)), (2, .inr (.inl 44)), (3, .inl x3), (4, .inl x4), (5, .inl (gx_w (x5 + 1)))] [] m Q)
    (h3 : (s0 = 0) → (0 ≤ (m 76 2)) → ((m 76 2) < 40) → hxn xs n yp_m100 8 [(0, .inr (.inl 76)), (1, .inr (.inl 5)), (2, .inr (.inl 44)), (3, .inl x3), (4, .inl x4), (5, .inl (gx_w (x5 + 1)))] [] (gx_u (gx_u (gx_u m 77 (m 76 2).toNat (gx_and (m 9 (x5).toNat) x4)) 78 (m 76 2).toNat (gx_w ((gx_w (16 * x6)) + 1))) 76 2 ((m 76 2) + 1)) Q)
    (h4 : (s0 = 0) → (0 ≤ (m 76 2)) → (40 ≤ (m 76 2)) → hxn xs n yp_m100 8 [(0, .inr (.inl 76)), (1, .inr (.inl 5)), (2, .inr (.inl 44)), (3, .inl x3), (4, .inl x4), (5, .inl (gx_w (x5 + 1)))] [] m Q) : hxn xs (n + 1) yp_m100 89 [(0, .inr (.inl 76)), (1, .inr (.inl 5)), (2, .inr (.inl 44)), (3, .inl x3), (4, .inl x4), (5, .inl x5), (6, .inl x6)] [.inl s0] m Q := by
  refine hx_ifs .ne 156 (by decide +kernel) (fun c1 => ?_) (fun c1 => ?_)
  · have c1 : s0 ≠ 0 := c1
    refine hx_blk (npc := 8) (L' := [(0, .inr (.inl 76)), (1, .inr (.inl 5)), (2, .inr (.inl 44)), (3, .inl x3), (4, .inl x4), (5, .inl (gx_w (x5 + 1))), (6, .inl x6)]) (st' := []) (m' := m) [((156, .iinc 5 1, 3, 0, 0, 0, 0), (0, 0, 0)), ((159, .goto (-151), 3, 0, 0, 0, 0), (0, 0, 0))] (by decide +kernel) rfl ?_
    exact hx_pick [0, 1, 2, 3, 4, 5] (h1 c1)
  · have c1 : s0 = 0 := by have h : ¬ (s0 ≠ 0) := c1; omega
    refine hx_blk (npc := 96) (L' := [(0, .inr (.inl 76)), (1, .inr (.inl 5)), (2, .inr (.inl 44)), (3, .inl x3), (4, .inl x4), (5, .inl x5), (6, .inl x6)]) (st' := [.inl (m 76 2)]) (m' := m) [((92, .aload_n 0, 1, 0, 0, 0, 0), (0, 0, 0)), ((93, .getfield 24, 3, 7, 2, 2075, 0), (0, 76, 0))] (by decide +kernel) rfl ?_
    refine hx_if .lt 156 (by decide +kernel) (fun c2 => ?_) (fun c2 => ?_)
    · have c2 : (m 76 2) < 0 := c2
      refine hx_blk (npc := 8) (L' := [(0, .inr (.inl 76)), (1, .inr (.inl 5)), (2, .inr (.inl 44)), (3, .inl x3), (4, .inl x4), (5, .inl (gx_w (x5 + 1))), (6, .inl x6)]) (st' := []) (m' := m) [((156, .iinc 5 1, 3, 0, 0, 0, 0), (0, 0, 0)), ((159, .goto (-151), 3, 0, 0, 0, 0), (0, 0, 0))] (by decide +kernel) rfl ?_
      exact hx_pick [0, 1, 2, 3, 4, 5] (h2 c1 c2)
    · have c2 : 0 ≤ (m 76 2) := by have h : ¬ ((m 76 2) < 0) := c2; omega
      refine hx_blk (npc := 105) (L' := [(0, .inr (.inl 76)), (1, .inr (.inl 5)), (2, .inr (.inl 44)), (3, .inl x3), (4, .inl x4), (5, .inl x5), (6, .inl x6)]) (st' := [.inl 40, .inl (m 76 2)]) (m' := m) [((99, .aload_n 0, 1, 0, 0, 0, 0), (0, 0, 0)), ((100, .getfield 24, 3, 7, 2, 2075, 0), (0, 76, 0)), ((103, .bipush 40, 2, 0, 0, 0, 0), (0, 0, 0))] (by decide +kernel) rfl ?_
      refine hx_cmp .lt 111 (by decide +kernel) (fun c3 => ?_) (fun c3 => ?_)
      · have c3 : (m 76 2) < 40 := c3
        have e1 : gx_w ((m 76 2) + 1) = (m 76 2) + 1 := gx_w_id (by omega) (by omega)
        refine hx_blk (npc := 8) (L' := [(0, .inr (.inl 76)), (1, .inr (.inl 5)), (2, .inr (.inl 44)), (3, .inl x3), (4, .inl x4), (5, .inl (gx_w (x5 + 1))), (6, .inl x6)]) (st' := []) (m' := (gx_u (gx_u (gx_u m 77 (m 76 2).toNat (gx_and (m 9 (x5).toNat) x4)) 78 (m 76 2).toNat (gx_w ((gx_w (16 * x6)) + 1))) 76 2 (gx_w ((m 76 2) + 1)))) [((111, .aload_n 0, 1, 0, 0, 0, 0), (0, 0, 0)), ((112, .getfield 9, 3, 7, 0, 2073, 0), (1, 76, 77)), ((115, .aload_n 0, 1, 0, 0, 0, 0), (0, 0, 0)), ((116, .getfield 24, 3, 7, 2, 2075, 0), (0, 76, 0)), ((119, .aload_n 1, 1, 0, 0, 0, 0), (0, 0, 0)), ((120, .getfield 40, 3, 2, 8, 1101, 0), (1, 5, 9)), ((123, .iload 5, 2, 0, 0, 0, 0), (0, 0, 0)), ((125, .iaload, 1, 0, 0, 0, 0), (0, 9, 0)), ((126, .iload 4, 2, 0, 0, 0, 0), (0, 0, 0)), ((128, .iand, 1, 0, 0, 0, 0), (0, 0, 0)), ((129, .iastore, 1, 0, 0, 0, 0), (0, 77, 0)), ((130, .aload_n 0, 1, 0, 0, 0, 0), (0, 0, 0)), ((131, .getfield 15, 3, 7, 1, 2074, 0), (1, 76, 78)), ((134, .aload_n 0, 1, 0, 0, 0, 0), (0, 0, 0)), ((135, .getfield 24, 3, 7, 2, 2075, 0), (0, 76, 0)), ((138, .bipush 16, 2, 0, 0, 0, 0), (0, 0, 0)), ((140, .iload 6, 2, 0, 0, 0, 0), (0, 0, 0)), ((142, .imul, 1, 0, 0, 0, 0), (0, 0, 0)), ((143, .iconst 1, 1, 0, 0, 0, 0), (0, 0, 0)), ((144, .iadd, 1, 0, 0, 0, 0), (0, 0, 0)), ((145, .iastore, 1, 0, 0, 0, 0), (0, 78, 0)), ((146, .aload_n 0, 1, 0, 0, 0, 0), (0, 0, 0)), ((147, .dup, 1, 0, 0, 0, 0), (0, 0, 0)), ((148, .getfield 24, 3, 7, 2, 2075, 0), (0, 76, 0)), ((151, .iconst 1, 1, 0, 0, 0, 0), (0, 0, 0)), ((152, .iadd, 1, 0, 0, 0, 0), (0, 0, 0)), ((153, .putfield 24, 3, 7, 2, 2075, 0), (0, 76, 0)), ((156, .iinc 5 1, 3, 0, 0, 0, 0), (0, 0, 0)), ((159, .goto (-151), 3, 0, 0, 0, 0), (0, 0, 0))] (by decide +kernel) rfl ?_
        rw [e1]
        exact hx_pick [0, 1, 2, 3, 4, 5] (h3 c1 c2 c3)
      · have c3 : 40 ≤ (m 76 2) := by have h : ¬ ((m 76 2) < 40) := c3; omega
        refine hx_blk (npc := 8) (L' := [(0, .inr (.inl 76)), (1, .inr (.inl 5)), (2, .inr (.inl 44)), (3, .inl x3), (4, .inl x4), (5, .inl (gx_w (x5 + 1))), (6, .inl x6)]) (st' := []) (m' := m) [((108, .goto 48, 3, 0, 0, 0, 0), (0, 0, 0)), ((156, .iinc 5 1, 3, 0, 0, 0, 0), (0, 0, 0)), ((159, .goto (-151), 3, 0, 0, 0, 0), (0, 0, 0))] (by decide +kernel) rfl ?_
        exact hx_pick [0, 1, 2, 3, 4, 5] (h4 c1 c2 c3)

/-- addOffers from 0 on -/
theorem hr102_0 {xs : List Int32} {n : Nat} {Q : hQ} {m : gx_M} {x1 x2 : Int}
    (h1 : hxn xs n yp_m102 15 [(0, .inr (.inl 76)), (1, .inl x1), (4, .inl (gx_and (gx_and x2 (gx_xor x1 (-1))) (gx_w (-(gx_and x2 (gx_xor x1 (-1))))))), (5, .inl 0)] [] m Q) : hxn xs (n + 1) yp_m102 0 [(0, .inr (.inl 76)), (1, .inl x1), (2, .inl x2)] [] m Q := by
  refine hx_blks (npc := 15) (L' := [(0, .inr (.inl 76)), (1, .inl x1), (2, .inl x2), (3, .inl (gx_and x2 (gx_xor x1 (-1)))), (4, .inl (gx_and (gx_and x2 (gx_xor x1 (-1))) (gx_w (-(gx_and x2 (gx_xor x1 (-1))))))), (5, .inl 0)]) (st' := []) (m' := m) ((0, .iload_n 2, 1, 0, 0, 0, 0), (0, 0, 0)) [((1, .iload_n 1, 1, 0, 0, 0, 0), (0, 0, 0)), ((2, .iconst (-1), 1, 0, 0, 0, 0), (0, 0, 0)), ((3, .ixor, 1, 0, 0, 0, 0), (0, 0, 0)), ((4, .iand, 1, 0, 0, 0, 0), (0, 0, 0)), ((5, .istore_n 3, 1, 0, 0, 0, 0), (0, 0, 0)), ((6, .iload_n 3, 1, 0, 0, 0, 0), (0, 0, 0)), ((7, .iload_n 3, 1, 0, 0, 0, 0), (0, 0, 0)), ((8, .ineg, 1, 0, 0, 0, 0), (0, 0, 0)), ((9, .iand, 1, 0, 0, 0, 0), (0, 0, 0)), ((10, .istore 4, 2, 0, 0, 0, 0), (0, 0, 0)), ((12, .iconst 0, 1, 0, 0, 0, 0), (0, 0, 0)), ((13, .istore 5, 2, 0, 0, 0, 0), (0, 0, 0))] (by decide +kernel) rfl ?_
  exact hx_pick [0, 1, 4, 5] h1

/-- addOffers from 15 on -/
theorem hr102_15 {xs : List Int32} {n : Nat} {Q : hQ} {m : gx_M} {x1 x4 x5 : Int}
    (h1 : ((m 76 2) ≤ x5) → Q none m)
    (h2 : (x5 < (m 76 2)) → (40 ≤ x5) → Q none m)
    (h3 : (x5 < (m 76 2)) → (x5 < 40) → ((gx_and (m 77 (x5).toNat) x4) = 0) → hxn xs n yp_m102 15 [(0, .inr (.inl 76)), (1, .inl x1), (4, .inl x4), (5, .inl (gx_w (x5 + 1)))] [] m Q)
    (h4 : (x5 < (m 76 2)) → (x5 < 40) → ((gx_and (m 77 (x5).toNat) x4) ≠ 0) → ((gx_or x1 (m 77 (x5).toNat)) < 0) → hxn xs n yp_m102 15 [(0, .inr (.inl 76)), (1, .inl x1), (4, .inl x4), (5, .inl (gx_w (x5 + 1)))] [] m Q)
    (h5 : (x5 < (m 76 2)) → (x5 < 40) → ((gx_and (m 77 (x5).toNat) x4) ≠ 0) → (0 ≤ (gx_or x1 (m 77 (x5).toNat))) → ((gx_or x1 (m 77 (x5).toNat)) ≤ 4095) → hxn xs n yp_m102 15 [(0, .inr (.inl 76)), (1, .inl x1), (4, .inl x4), (5, .inl (gx_w (x5 + 1)))] [] (gx_u m 79 (gx_or x1 (m 77 (x5).toNat)).toNat (if (gx_w ((m 79 (x1).toNat) + (m 78 (x5).toNat))) < (m 79 (gx_or x1 (m 77 (x5).toNat)).toNat) then (gx_w ((m 79 (x1).toNat) + (m 78 (x5).toNat))) else (m 79 (gx_or x1 (m 77 (x5).toNat)).toNat))) Q)
    (h6 : (x5 < (m 76 2)) → (x5 < 40) → ((gx_and (m 77 (x5).toNat) x4) ≠ 0) → (0 ≤ (gx_or x1 (m 77 (x5).toNat))) → (4095 < (gx_or x1 (m 77 (x5).toNat))) → hxn xs n yp_m102 15 [(0, .inr (.inl 76)), (1, .inl x1), (4, .inl x4), (5, .inl (gx_w (x5 + 1)))] [] m Q) : hxn xs (n + 1) yp_m102 15 [(0, .inr (.inl 76)), (1, .inl x1), (4, .inl x4), (5, .inl x5)] [] m Q := by
  refine hx_blks (npc := 21) (L' := [(0, .inr (.inl 76)), (1, .inl x1), (4, .inl x4), (5, .inl x5)]) (st' := [.inl (m 76 2), .inl x5]) (m' := m) ((15, .iload 5, 2, 0, 0, 0, 0), (0, 0, 0)) [((17, .aload_n 0, 1, 0, 0, 0, 0), (0, 0, 0)), ((18, .getfield 24, 3, 7, 2, 2075, 0), (0, 76, 0))] (by decide +kernel) rfl ?_
  refine hx_cmp .ge 108 (by decide +kernel) (fun c1 => ?_) (fun c1 => ?_)
  · have c1 : (m 76 2) ≤ x5 := c1
    exact hx_ret0 (by decide +kernel) (h1 c1)
  · have c1 : x5 < (m 76 2) := by have h : ¬ ((m 76 2) ≤ x5) := c1; omega
    refine hx_blk (npc := 28) (L' := [(0, .inr (.inl 76)), (1, .inl x1), (4, .inl x4), (5, .inl x5)]) (st' := [.inl 40, .inl x5]) (m' := m) [((24, .iload 5, 2, 0, 0, 0, 0), (0, 0, 0)), ((26, .bipush 40, 2, 0, 0, 0, 0), (0, 0, 0))] (by decide +kernel) rfl ?_
    refine hx_cmp .ge 108 (by decide +kernel) (fun c2 => ?_) (fun c2 => ?_)
    · have c2 : 40 ≤ x5 := c2
      exact hx_ret0 (by decide +kernel) (h2 c1 c2)
    · have c2 : x5 < 40 := by have h : ¬ (40 ≤ x5) := c2; omega
      refine hx_blk (npc := 52) (L' := [(0, .inr (.inl 76)), (1, .inl x1), (4, .inl x4), (5, .inl x5), (6, .inl (gx_or x1 (m 77 (x5).toNat)))]) (st' := [.inl (gx_and (m 77 (x5).toNat) x4)]) (m' := m) [((31, .iload_n 1, 1, 0, 0, 0, 0), (0, 0, 0)), ((32, .aload_n 0, 1, 0, 0, 0, 0), (0, 0, 0)), ((33, .getfield 9, 3, 7, 0, 2073, 0), (1, 76, 77)), ((36, .iload 5, 2, 0, 0, 0, 0), (0, 0, 0)), ((38, .iaload, 1, 0, 0, 0, 0), (0, 77, 0)), ((39, .ior, 1, 0, 0, 0, 0), (0, 0, 0)), ((40, .istore 6, 2, 0, 0, 0, 0), (0, 0, 0)), ((42, .aload_n 0, 1, 0, 0, 0, 0), (0, 0, 0)), ((43, .getfield 9, 3, 7, 0, 2073, 0), (1, 76, 77)), ((46, .iload 5, 2, 0, 0, 0, 0), (0, 0, 0)), ((48, .iaload, 1, 0, 0, 0, 0), (0, 77, 0)), ((49, .iload 4, 2, 0, 0, 0, 0), (0, 0, 0)), ((51, .iand, 1, 0, 0, 0, 0), (0, 0, 0))] (by decide +kernel) rfl ?_
      refine hx_if .eq 102 (by decide +kernel) (fun c3 => ?_) (fun c3 => ?_)
      · have c3 : (gx_and (m 77 (x5).toNat) x4) = 0 := c3
        refine hx_blk (npc := 15) (L' := [(0, .inr (.inl 76)), (1, .inl x1), (4, .inl x4), (5, .inl (gx_w (x5 + 1))), (6, .inl (gx_or x1 (m 77 (x5).toNat)))]) (st' := []) (m' := m) [((102, .iinc 5 1, 3, 0, 0, 0, 0), (0, 0, 0)), ((105, .goto (-90), 3, 0, 0, 0, 0), (0, 0, 0))] (by decide +kernel) rfl ?_
        exact hx_pick [0, 1, 4, 5] (h3 c1 c2 c3)
      · have c3 : (gx_and (m 77 (x5).toNat) x4) ≠ 0 := c3
        refine hx_blk (npc := 57) (L' := [(0, .inr (.inl 76)), (1, .inl x1), (4, .inl x4), (5, .inl x5), (6, .inl (gx_or x1 (m 77 (x5).toNat)))]) (st' := [.inl (gx_or x1 (m 77 (x5).toNat))]) (m' := m) [((55, .iload 6, 2, 0, 0, 0, 0), (0, 0, 0))] (by decide +kernel) rfl ?_
        refine hx_if .lt 102 (by decide +kernel) (fun c4 => ?_) (fun c4 => ?_)
        · have c4 : (gx_or x1 (m 77 (x5).toNat)) < 0 := c4
          refine hx_blk (npc := 15) (L' := [(0, .inr (.inl 76)), (1, .inl x1), (4, .inl x4), (5, .inl (gx_w (x5 + 1))), (6, .inl (gx_or x1 (m 77 (x5).toNat)))]) (st' := []) (m' := m) [((102, .iinc 5 1, 3, 0, 0, 0, 0), (0, 0, 0)), ((105, .goto (-90), 3, 0, 0, 0, 0), (0, 0, 0))] (by decide +kernel) rfl ?_
          exact hx_pick [0, 1, 4, 5] (h4 c1 c2 c3 c4)
        · have c4 : 0 ≤ (gx_or x1 (m 77 (x5).toNat)) := by have h : ¬ ((gx_or x1 (m 77 (x5).toNat)) < 0) := c4; omega
          refine hx_blk (npc := 65) (L' := [(0, .inr (.inl 76)), (1, .inl x1), (4, .inl x4), (5, .inl x5), (6, .inl (gx_or x1 (m 77 (x5).toNat)))]) (st' := [.inl 4095, .inl (gx_or x1 (m 77 (x5).toNat))]) (m' := m) [((60, .iload 6, 2, 0, 0, 0, 0), (0, 0, 0)), ((62, .sipush 4095, 3, 0, 0, 0, 0), (0, 0, 0))] (by decide +kernel) rfl ?_
          refine hx_cmp .le 71 (by decide +kernel) (fun c5 => ?_) (fun c5 => ?_)
          · have c5 : (gx_or x1 (m 77 (x5).toNat)) ≤ 4095 := c5
            refine hx_blk (npc := 15) (L' := [(0, .inr (.inl 76)), (1, .inl x1), (4, .inl x4), (5, .inl (gx_w (x5 + 1))), (6, .inl (gx_or x1 (m 77 (x5).toNat)))]) (st' := []) (m' := (gx_u m 79 (gx_or x1 (m 77 (x5).toNat)).toNat (if (gx_w ((m 79 (x1).toNat) + (m 78 (x5).toNat))) < (m 79 (gx_or x1 (m 77 (x5).toNat)).toNat) then (gx_w ((m 79 (x1).toNat) + (m 78 (x5).toNat))) else (m 79 (gx_or x1 (m 77 (x5).toNat)).toNat)))) [((71, .aload_n 0, 1, 0, 0, 0, 0), (0, 0, 0)), ((72, .getfield 18, 3, 7, 3, 2076, 0), (1, 76, 79)), ((75, .iload 6, 2, 0, 0, 0, 0), (0, 0, 0)), ((77, .aload_n 0, 1, 0, 0, 0, 0), (0, 0, 0)), ((78, .getfield 18, 3, 7, 3, 2076, 0), (1, 76, 79)), ((81, .iload 6, 2, 0, 0, 0, 0), (0, 0, 0)), ((83, .iaload, 1, 0, 0, 0, 0), (0, 79, 0)), ((84, .aload_n 0, 1, 0, 0, 0, 0), (0, 0, 0)), ((85, .getfield 18, 3, 7, 3, 2076, 0), (1, 76, 79)), ((88, .iload_n 1, 1, 0, 0, 0, 0), (0, 0, 0)), ((89, .iaload, 1, 0, 0, 0, 0), (0, 79, 0)), ((90, .aload_n 0, 1, 0, 0, 0, 0), (0, 0, 0)), ((91, .getfield 15, 3, 7, 1, 2074, 0), (1, 76, 78)), ((94, .iload 5, 2, 0, 0, 0, 0), (0, 0, 0)), ((96, .iaload, 1, 0, 0, 0, 0), (0, 78, 0)), ((97, .iadd, 1, 0, 0, 0, 0), (0, 0, 0)), ((98, .invokestatic 64, 3, 1003, 2221, 4094, 1013002222), (0, 0, 0)), ((101, .iastore, 1, 0, 0, 0, 0), (0, 79, 0)), ((102, .iinc 5 1, 3, 0, 0, 0, 0), (0, 0, 0)), ((105, .goto (-90), 3, 0, 0, 0, 0), (0, 0, 0))] (by decide +kernel) rfl ?_
            exact hx_pick [0, 1, 4, 5] (h5 c1 c2 c3 c4 c5)
          · have c5 : 4095 < (gx_or x1 (m 77 (x5).toNat)) := by have h : ¬ ((gx_or x1 (m 77 (x5).toNat)) ≤ 4095) := c5; omega
            refine hx_blk (npc := 15) (L' := [(0, .inr (.inl 76)), (1, .inl x1), (4, .inl x4), (5, .inl (gx_w (x5 + 1))), (6, .inl (gx_or x1 (m 77 (x5).toNat)))]) (st' := []) (m' := m) [((68, .goto 34, 3, 0, 0, 0, 0), (0, 0, 0)), ((102, .iinc 5 1, 3, 0, 0, 0, 0), (0, 0, 0)), ((105, .goto (-90), 3, 0, 0, 0, 0), (0, 0, 0))] (by decide +kernel) rfl ?_
            exact hx_pick [0, 1, 4, 5] (h6 c1 c2 c3 c4 c5)

/-- findCheapest from 0 on -/
theorem hr101_0 {xs : List Int32} {n : Nat} {Q : hQ} {m : gx_M} {x1 : Int}
    (h1 : hxn xs n yp_m101 2 [(0, .inr (.inl 76)), (1, .inl x1), (2, .inl 0)] [] m Q) : hxn xs (n + 1) yp_m101 0 [(0, .inr (.inl 76)), (1, .inl x1)] [] m Q := by
  refine hx_blks (npc := 2) (L' := [(0, .inr (.inl 76)), (1, .inl x1), (2, .inl 0)]) (st' := []) (m' := m) ((0, .iconst 0, 1, 0, 0, 0, 0), (0, 0, 0)) [((1, .istore_n 2, 1, 0, 0, 0, 0), (0, 0, 0))] (by decide +kernel) rfl ?_
  exact hx_pick [0, 1, 2] h1

/-- findCheapest from 2 on -/
theorem hr101_2 {xs : List Int32} {n : Nat} {Q : hQ} {m : gx_M} {x1 x2 : Int}
    (h1 : (4095 < x2) → hxn xs n yp_m101 32 [(0, .inr (.inl 76)), (1, .inl x1), (2, .inl 0)] [] (gx_u m 79 0 0) Q)
    (h2 : (x2 ≤ 4095) → hxn xs n yp_m101 2 [(0, .inr (.inl 76)), (1, .inl x1), (2, .inl (gx_w (x2 + 1)))] [] (gx_u m 79 (x2).toNat 1000000) Q) : hxn xs (n + 1) yp_m101 2 [(0, .inr (.inl 76)), (1, .inl x1), (2, .inl x2)] [] m Q := by
  refine hx_blks (npc := 6) (L' := [(0, .inr (.inl 76)), (1, .inl x1), (2, .inl x2)]) (st' := [.inl 4095, .inl x2]) (m' := m) ((2, .iload_n 2, 1, 0, 0, 0, 0), (0, 0, 0)) [((3, .sipush 4095, 3, 0, 0, 0, 0), (0, 0, 0))] (by decide +kernel) rfl ?_
  refine hx_cmp .gt 23 (by decide +kernel) (fun c1 => ?_) (fun c1 => ?_)
  · have c1 : 4095 < x2 := c1
    refine hx_blk (npc := 32) (L' := [(0, .inr (.inl 76)), (1, .inl x1), (2, .inl 0)]) (st' := []) (m' := (gx_u m 79 0 0)) [((23, .aload_n 0, 1, 0, 0, 0, 0), (0, 0, 0)), ((24, .getfield 18, 3, 7, 3, 2076, 0), (1, 76, 79)), ((27, .iconst 0, 1, 0, 0, 0, 0), (0, 0, 0)), ((28, .iconst 0, 1, 0, 0, 0, 0), (0, 0, 0)), ((29, .iastore, 1, 0, 0, 0, 0), (0, 79, 0)), ((30, .iconst 0, 1, 0, 0, 0, 0), (0, 0, 0)), ((31, .istore_n 2, 1, 0, 0, 0, 0), (0, 0, 0))] (by decide +kernel) rfl ?_
    exact hx_pick [0, 1, 2] (h1 c1)
  · have c1 : x2 ≤ 4095 := by have h : ¬ (4095 < x2) := c1; omega
    refine hx_blk (npc := 2) (L' := [(0, .inr (.inl 76)), (1, .inl x1), (2, .inl (gx_w (x2 + 1)))]) (st' := []) (m' := (gx_u m 79 (x2).toNat 1000000)) [((9, .aload_n 0, 1, 0, 0, 0, 0), (0, 0, 0)), ((10, .getfield 18, 3, 7, 3, 2076, 0), (1, 76, 79)), ((13, .iload_n 2, 1, 0, 0, 0, 0), (0, 0, 0)), ((14, .ldc 53, 2, 0, 0, 4089, 1000000), (0, 0, 0)), ((16, .iastore, 1, 0, 0, 0, 0), (0, 79, 0)), ((17, .iinc 2 1, 3, 0, 0, 0, 0), (0, 0, 0)), ((20, .goto (-18), 3, 0, 0, 0, 0), (0, 0, 0))] (by decide +kernel) rfl ?_
    exact hx_pick [0, 1, 2] (h2 c1)

/-- findCheapest from 32 on -/
theorem hr101_32 {xs : List Int32} {n : Nat} {Q : hQ} {m : gx_M} {x1 x2 : Int}
    (h1 : (x1 ≤ x2) → (x1 < 0) → Q (some (.inl 0)) (gx_u (gx_u m 76 5 (gx_w (Int.tdiv 1000000 16))) 76 6 (Int.tmod 1000000 16)))
    (h2 : (x1 ≤ x2) → (0 ≤ x1) → (4095 < x1) → Q (some (.inl 0)) (gx_u (gx_u m 76 5 (gx_w (Int.tdiv 1000000 16))) 76 6 (Int.tmod 1000000 16)))
    (h3 : (x1 ≤ x2) → (0 ≤ x1) → (x1 ≤ 4095) → ((m 79 (x1).toNat) = 1000000) → Q (some (.inl 0)) (gx_u (gx_u m 76 5 (gx_w (Int.tdiv (m 79 (x1).toNat) 16))) 76 6 (Int.tmod (m 79 (x1).toNat) 16)))
    (h4 : (x1 ≤ x2) → (0 ≤ x1) → (x1 ≤ 4095) → ((m 79 (x1).toNat) ≠ 1000000) → Q (some (.inl 1)) (gx_u (gx_u m 76 5 (gx_w (Int.tdiv (m 79 (x1).toNat) 16))) 76 6 (Int.tmod (m 79 (x1).toNat) 16)))
    (h5 : (x2 < x1) → (4095 < x2) → (x1 < 0) → Q (some (.inl 0)) (gx_u (gx_u m 76 5 (gx_w (Int.tdiv 1000000 16))) 76 6 (Int.tmod 1000000 16)))
    (h6 : (x2 < x1) → (4095 < x2) → (0 ≤ x1) → (4095 < x1) → Q (some (.inl 0)) (gx_u (gx_u m 76 5 (gx_w (Int.tdiv 1000000 16))) 76 6 (Int.tmod 1000000 16)))
    (h7 : (x2 < x1) → (4095 < x2) → (0 ≤ x1) → (x1 ≤ 4095) → ((m 79 (x1).toNat) = 1000000) → Q (some (.inl 0)) (gx_u (gx_u m 76 5 (gx_w (Int.tdiv (m 79 (x1).toNat) 16))) 76 6 (Int.tmod (m 79 (x1).toNat) 16)))
    (h8 : (x2 < x1) → (4095 < x2) → (0 ≤ x1) → (x1 ≤ 4095) → ((m 79 (x1).toNat) ≠ 1000000) → Q (some (.inl 1)) (gx_u (gx_u m 76 5 (gx_w (Int.tdiv (m 79 (x1).toNat) 16))) 76 6 (Int.tmod (m 79 (x1).toNat) 16)))
    (h9 : (x2 < x1) → (x2 ≤ 4095) → ((m 79 (x2).toNat) = 1000000) → hxn xs n yp_m101 32 [(0, .inr (.inl 76)), (1, .inl x1), (2, .inl (gx_w (x2 + 1)))] [] m Q)
    (h10 : (x2 < x1) → (x2 ≤ 4095) → ((m 79 (x2).toNat) ≠ 1000000) → hxn xs n yp_m102 0 [(0, .inr (.inl 76)), (1, .inl x2), (2, .inl x1)] [] m (fun r m' => hxn xs n yp_m101 61 [(0, .inr (.inl 76)), (1, .inl x1), (2, .inl x2)] (hrs r ++ []) m' Q)) : hxn xs (n + 1) yp_m101 32 [(0, .inr (.inl 76)), (1, .inl x1), (2, .inl x2)] [] m Q := by
  refine hx_blks (npc := 34) (L' := [(0, .inr (.inl 76)), (1, .inl x1), (2, .inl x2)]) (st' := [.inl x1, .inl x2]) (m' := m) ((32, .iload_n 2, 1, 0, 0, 0, 0), (0, 0, 0)) [((33, .iload_n 1, 1, 0, 0, 0, 0), (0, 0, 0))] (by decide +kernel) rfl ?_
  refine hx_cmp .ge 67 (by decide +kernel) (fun c1 => ?_) (fun c1 => ?_)
  · have c1 : x1 ≤ x2 := c1
    refine hx_blk (npc := 68) (L' := [(0, .inr (.inl 76)), (1, .inl x1), (2, .inl x2)]) (st' := [.inl x1]) (m' := m) [((67, .iload_n 1, 1, 0, 0, 0, 0), (0, 0, 0))] (by decide +kernel) rfl ?_
    refine hx_if .lt 87 (by decide +kernel) (fun c2 => ?_) (fun c2 => ?_)
    · have c2 : x1 < 0 := c2
      refine hx_blk (npc := 109) (L' := [(0, .inr (.inl 76)), (1, .inl x1), (2, .inl 1000000)]) (st' := [.inl 1000000, .inl 1000000]) (m' := (gx_u (gx_u m 76 5 (gx_w (Int.tdiv 1000000 16))) 76 6 (Int.tmod 1000000 16))) [((87, .ldc 53, 2, 0, 0, 4089, 1000000), (0, 0, 0)), ((89, .istore_n 2, 1, 0, 0, 0, 0), (0, 0, 0)), ((90, .aload_n 0, 1, 0, 0, 0, 0), (0, 0, 0)), ((91, .iload_n 2, 1, 0, 0, 0, 0), (0, 0, 0)), ((92, .bipush 16, 2, 0, 0, 0, 0), (0, 0, 0)), ((94, .idiv, 1, 0, 0, 0, 0), (0, 0, 0)), ((95, .putfield 58, 3, 7, 5, 2078, 0), (0, 76, 0)), ((98, .aload_n 0, 1, 0, 0, 0, 0), (0, 0, 0)), ((99, .iload_n 2, 1, 0, 0, 0, 0), (0, 0, 0)), ((100, .bipush 16, 2, 0, 0, 0, 0), (0, 0, 0)), ((102, .irem, 1, 0, 0, 0, 0), (0, 0, 0)), ((103, .putfield 61, 3, 7, 6, 2080, 0), (0, 76, 0)), ((106, .iload_n 2, 1, 0, 0, 0, 0), (0, 0, 0)), ((107, .ldc 53, 2, 0, 0, 4089, 1000000), (0, 0, 0))] (by decide +kernel) rfl ?_
      refine hx_cmp .eq 116 (by decide +kernel) (fun c3 => ?_) (fun c3 => ?_)
      · have c3 : (1000000 : Int) = 1000000 := c3
        refine hx_blk (npc := 117) (L' := [(0, .inr (.inl 76)), (1, .inl x1), (2, .inl 1000000)]) (st' := [.inl 0]) (m' := (gx_u (gx_u m 76 5 (gx_w (Int.tdiv 1000000 16))) 76 6 (Int.tmod 1000000 16))) [((116, .iconst 0, 1, 0, 0, 0, 0), (0, 0, 0))] (by decide +kernel) rfl ?_
        exact hx_reti (by decide +kernel) (h1 c1 c2)
      · have c3 : (1000000 : Int) ≠ 1000000 := c3
        exfalso; omega
    · have c2 : 0 ≤ x1 := by have h : ¬ (x1 < 0) := c2; omega
      refine hx_blk (npc := 75) (L' := [(0, .inr (.inl 76)), (1, .inl x1), (2, .inl x2)]) (st' := [.inl 4095, .inl x1]) (m' := m) [((71, .iload_n 1, 1, 0, 0, 0, 0), (0, 0, 0)), ((72, .sipush 4095, 3, 0, 0, 0, 0), (0, 0, 0))] (by decide +kernel) rfl ?_
      refine hx_cmp .gt 87 (by decide +kernel) (fun c3 => ?_) (fun c3 => ?_)
      · have c3 : 4095 < x1 := c3
        refine hx_blk (npc := 109) (L' := [(0, .inr (.inl 76)), (1, .inl x1), (2, .inl 1000000)]) (st' := [.inl 1000000, .inl 1000000]) (m' := (gx_u (gx_u m 76 5 (gx_w (Int.tdiv 1000000 16))) 76 6 (Int.tmod 1000000 16))) [((87, .ldc 53, 2, 0, 0, 4089, 1000000), (0, 0, 0)), ((89, .istore_n 2, 1, 0, 0, 0, 0), (0, 0, 0)), ((90, .aload_n 0, 1, 0, 0, 0, 0), (0, 0, 0)), ((91, .iload_n 2, 1, 0, 0, 0, 0), (0, 0, 0)), ((92, .bipush 16, 2, 0, 0, 0, 0), (0, 0, 0)), ((94, .idiv, 1, 0, 0, 0, 0), (0, 0, 0)), ((95, .putfield 58, 3, 7, 5, 2078, 0), (0, 76, 0)), ((98, .aload_n 0, 1, 0, 0, 0, 0), (0, 0, 0)), ((99, .iload_n 2, 1, 0, 0, 0, 0), (0, 0, 0)), ((100, .bipush 16, 2, 0, 0, 0, 0), (0, 0, 0)), ((102, .irem, 1, 0, 0, 0, 0), (0, 0, 0)), ((103, .putfield 61, 3, 7, 6, 2080, 0), (0, 76, 0)), ((106, .iload_n 2, 1, 0, 0, 0, 0), (0, 0, 0)), ((107, .ldc 53, 2, 0, 0, 4089, 1000000), (0, 0, 0))] (by decide +kernel) rfl ?_
        refine hx_cmp .eq 116 (by decide +kernel) (fun c4 => ?_) (fun c4 => ?_)
        · have c4 : (1000000 : Int) = 1000000 := c4
          refine hx_blk (npc := 117) (L' := [(0, .inr (.inl 76)), (1, .inl x1), (2, .inl 1000000)]) (st' := [.inl 0]) (m' := (gx_u (gx_u m 76 5 (gx_w (Int.tdiv 1000000 16))) 76 6 (Int.tmod 1000000 16))) [((116, .iconst 0, 1, 0, 0, 0, 0), (0, 0, 0))] (by decide +kernel) rfl ?_
          exact hx_reti (by decide +kernel) (h2 c1 c2 c3)
        · have c4 : (1000000 : Int) ≠ 1000000 := c4
          exfalso; omega
      · have c3 : x1 ≤ 4095 := by have h : ¬ (4095 < x1) := c3; omega
        refine hx_blk (npc := 109) (L' := [(0, .inr (.inl 76)), (1, .inl x1), (2, .inl (m 79 (x1).toNat))]) (st' := [.inl 1000000, .inl (m 79 (x1).toNat)]) (m' := (gx_u (gx_u m 76 5 (gx_w (Int.tdiv (m 79 (x1).toNat) 16))) 76 6 (Int.tmod (m 79 (x1).toNat) 16))) [((78, .aload_n 0, 1, 0, 0, 0, 0), (0, 0, 0)), ((79, .getfield 18, 3, 7, 3, 2076, 0), (1, 76, 79)), ((82, .iload_n 1, 1, 0, 0, 0, 0), (0, 0, 0)), ((83, .iaload, 1, 0, 0, 0, 0), (0, 79, 0)), ((84, .goto 5, 3, 0, 0, 0, 0), (0, 0, 0)), ((89, .istore_n 2, 1, 0, 0, 0, 0), (0, 0, 0)), ((90, .aload_n 0, 1, 0, 0, 0, 0), (0, 0, 0)), ((91, .iload_n 2, 1, 0, 0, 0, 0), (0, 0, 0)), ((92, .bipush 16, 2, 0, 0, 0, 0), (0, 0, 0)), ((94, .idiv, 1, 0, 0, 0, 0), (0, 0, 0)), ((95, .putfield 58, 3, 7, 5, 2078, 0), (0, 76, 0)), ((98, .aload_n 0, 1, 0, 0, 0, 0), (0, 0, 0)), ((99, .iload_n 2, 1, 0, 0, 0, 0), (0, 0, 0)), ((100, .bipush 16, 2, 0, 0, 0, 0), (0, 0, 0)), ((102, .irem, 1, 0, 0, 0, 0), (0, 0, 0)), ((103, .putfield 61, 3, 7, 6, 2080, 0), (0, 76, 0)), ((106, .iload_n 2, 1, 0, 0, 0, 0), (0, 0, 0)), ((107, .ldc 53, 2, 0, 0, 4089, 1000000), (0, 0, 0))] (by decide +kernel) rfl ?_
        refine hx_cmp .eq 116 (by decide +kernel) (fun c4 => ?_) (fun c4 => ?_)
        · have c4 : (m 79 (x1).toNat) = 1000000 := c4
          refine hx_blk (npc := 117) (L' := [(0, .inr (.inl 76)), (1, .inl x1), (2, .inl (m 79 (x1).toNat))]) (st' := [.inl 0]) (m' := (gx_u (gx_u m 76 5 (gx_w (Int.tdiv (m 79 (x1).toNat) 16))) 76 6 (Int.tmod (m 79 (x1).toNat) 16))) [((116, .iconst 0, 1, 0, 0, 0, 0), (0, 0, 0))] (by decide +kernel) rfl ?_
          exact hx_reti (by decide +kernel) (h3 c1 c2 c3 c4)
        · have c4 : (m 79 (x1).toNat) ≠ 1000000 := c4
          refine hx_blk (npc := 117) (L' := [(0, .inr (.inl 76)), (1, .inl x1), (2, .inl (m 79 (x1).toNat))]) (st' := [.inl 1]) (m' := (gx_u (gx_u m 76 5 (gx_w (Int.tdiv (m 79 (x1).toNat) 16))) 76 6 (Int.tmod (m 79 (x1).toNat) 16))) [((112, .iconst 1, 1, 0, 0, 0, 0), (0, 0, 0)), ((113, .goto 4, 3, 0, 0, 0, 0), (0, 0, 0))] (by decide +kernel) rfl ?_
          exact hx_reti (by decide +kernel) (h4 c1 c2 c3 c4)
  · have c1 : x2 < x1 := by have h : ¬ (x1 ≤ x2) := c1; omega
    refine hx_blk (npc := 41) (L' := [(0, .inr (.inl 76)), (1, .inl x1), (2, .inl x2)]) (st' := [.inl 4095, .inl x2]) (m' := m) [((37, .iload_n 2, 1, 0, 0, 0, 0), (0, 0, 0)), ((38, .sipush 4095, 3, 0, 0, 0, 0), (0, 0, 0))] (by decide +kernel) rfl ?_
    refine hx_cmp .gt 67 (by decide +kernel) (fun c2 => ?_) (fun c2 => ?_)
    · have c2 : 4095 < x2 := c2
      refine hx_blk (npc := 68) (L' := [(0, .inr (.inl 76)), (1, .inl x1), (2, .inl x2)]) (st' := [.inl x1]) (m' := m) [((67, .iload_n 1, 1, 0, 0, 0, 0), (0, 0, 0))] (by decide +kernel) rfl ?_
      refine hx_if .lt 87 (by decide +kernel) (fun c3 => ?_) (fun c3 => ?_)
      · have c3 : x1 < 0 := c3
        refine hx_blk (npc := 109) (L' := [(0, .inr (.inl 76)), (1, .inl x1), (2, .inl 1000000)]) (st' := [.inl 1000000, .inl 1000000]) (m' := (gx_u (gx_u m 76 5 (gx_w (Int.tdiv 1000000 16))) 76 6 (Int.tmod 1000000 16))) [((87, .ldc 53, 2, 0, 0, 4089, 1000000), (0, 0, 0)), ((89, .istore_n 2, 1, 0, 0, 0, 0), (0, 0, 0)), ((90, .aload_n 0, 1, 0, 0, 0, 0), (0, 0, 0)), ((91, .iload_n 2, 1, 0, 0, 0, 0), (0, 0, 0)), ((92, .bipush 16, 2, 0, 0, 0, 0), (0, 0, 0)), ((94, .idiv, 1, 0, 0, 0, 0), (0, 0, 0)), ((95, .putfield 58, 3, 7, 5, 2078, 0), (0, 76, 0)), ((98, .aload_n 0, 1, 0, 0, 0, 0), (0, 0, 0)), ((99, .iload_n 2, 1, 0, 0, 0, 0), (0, 0, 0)), ((100, .bipush 16, 2, 0, 0, 0, 0), (0, 0, 0)), ((102, .irem, 1, 0, 0, 0, 0), (0, 0, 0)), ((103, .putfield 61, 3, 7, 6, 2080, 0), (0, 76, 0)), ((106, .iload_n 2, 1, 0, 0, 0, 0), (0, 0, 0)), ((107, .ldc 53, 2, 0, 0, 4089, 1000000), (0, 0, 0))] (by decide +kernel) rfl ?_
        refine hx_cmp .eq 116 (by decide +kernel) (fun c4 => ?_) (fun c4 => ?_)
        · have c4 : (1000000 : Int) = 1000000 := c4
          refine hx_blk (npc := 117) (L' := [(0, .inr (.inl 76)), (1, .inl x1), (2, .inl 1000000)]) (st' := [.inl 0]) (m' := (gx_u (gx_u m 76 5 (gx_w (Int.tdiv 1000000 16))) 76 6 (Int.tmod 1000000 16))) [((116, .iconst 0, 1, 0, 0, 0, 0), (0, 0, 0))] (by decide +kernel) rfl ?_
          exact hx_reti (by decide +kernel) (h5 c1 c2 c3)
        · have c4 : (1000000 : Int) ≠ 1000000 := c4
          exfalso; omega
      · have c3 : 0 ≤ x1 := by have h : ¬ (x1 < 0) := c3; omega
        refine hx_blk (npc := 75) (L' := [(0, .inr (.inl 76)), (1, .inl x1), (2, .inl x2)]) (st' := [.inl 4095, .inl x1]) (m' := m) [((71, .iload_n 1, 1, 0, 0, 0, 0), (0, 0, 0)), ((72, .sipush 4095, 3, 0, 0, 0, 0), (0, 0, 0))] (by decide +kernel) rfl ?_
        refine hx_cmp .gt 87 (by decide +kernel) (fun c4 => ?_) (fun c4 => ?_)
        · have c4 : 4095 < x1 := c4
          refine hx_blk (npc := 109) (L' := [(0, .inr (.inl 76)), (1, .inl x1), (2, .inl 1000000)]) (st' := [.inl 1000000, .inl 1000000]) (m' := (gx_u (gx_u m 76 5 (gx_w (Int.tdiv 1000000 16))) 76 6 (Int.tmod 1000000 16))) [((87, .ldc 53, 2, 0, 0, 4089, 1000000), (0, 0, 0)), ((89, .istore_n 2, 1, 0, 0, 0, 0), (0, 0, 0)), ((90, .aload_n 0, 1, 0, 0, 0, 0), (0, 0, 0)), ((91, .iload_n 2, 1, 0, 0, 0, 0), (0, 0, 0)), ((92, .bipush 16, 2, 0, 0, 0, 0), (0, 0, 0)), ((94, .idiv, 1, 0, 0, 0, 0), (0, 0, 0)), ((95, .putfield 58, 3, 7, 5, 2078, 0), (0, 76, 0)), ((98, .aload_n 0, 1, 0, 0, 0, 0), (0, 0, 0)), ((99, .iload_n 2, 1, 0, 0, 0, 0), (0, 0, 0)), ((100, .bipush 16, 2, 0, 0, 0, 0), (0, 0, 0)), ((102, .irem, 1, 0, 0, 0, 0), (0, 0, 0)), ((103, .putfield 61, 3, 7, 6, 2080, 0), (0, 76, 0)), ((106, .iload_n 2, 1, 0, 0, 0, 0), (0, 0, 0)), ((107, .ldc 53, 2, 0, 0, 4089, 1000000), (0, 0, 0))] (by decide +kernel) rfl ?_
          refine hx_cmp .eq 116 (by decide +kernel) (fun c5 => ?_) (fun c5 => ?_)
          · have c5 : (1000000 : Int) = 1000000 := c5
            refine hx_blk (npc := 117) (L' := [(0, .inr (.inl 76)), (1, .inl x1), (2, .inl 1000000)]) (st' := [.inl 0]) (m' := (gx_u (gx_u m 76 5 (gx_w (Int.tdiv 1000000 16))) 76 6 (Int.tmod 1000000 16))) [((116, .iconst 0, 1, 0, 0, 0, 0), (0, 0, 0))] (by decide +kernel) rfl ?_
            exact hx_reti (by decide +kernel) (h6 c1 c2 c3 c4)
          · have c5 : (1000000 : Int) ≠ 1000000 := c5
            exfalso; omega
        · have c4 : x1 ≤ 4095 := by have h : ¬ (4095 < x1) := c4; omega
          refine hx_blk (npc := 109) (L' := [(0, .inr (.inl 76)), (1, .inl x1), (2, .inl (m 79 (x1).toNat))]) (st' := [.inl 1000000, .inl (m 79 (x1).toNat)]) (m' := (gx_u (gx_u m 76 5 (gx_w (Int.tdiv (m 79 (x1).toNat) 16))) 76 6 (Int.tmod (m 79 (x1).toNat) 16))) [((78, .aload_n 0, 1, 0, 0, 0, 0), (0, 0, 0)), ((79, .getfield 18, 3, 7, 3, 2076, 0), (1, 76, 79)), ((82, .iload_n 1, 1, 0, 0, 0, 0), (0, 0, 0)), ((83, .iaload, 1, 0, 0, 0, 0), (0, 79, 0)), ((84, .goto 5, 3, 0, 0, 0, 0), (0, 0, 0)), ((89, .istore_n 2, 1, 0, 0, 0, 0), (0, 0, 0)), ((90, .aload_n 0, 1, 0, 0, 0, 0), (0, 0, 0)), ((91, .iload_n 2, 1, 0, 0, 0, 0), (0, 0, 0)), ((92, .bipush 16, 2, 0, 0, 0, 0), (0, 0, 0)), ((94, .idiv, 1, 0, 0, 0, 0), (0, 0, 0)), ((95, .putfield 58, 3, 7, 5, 2078, 0), (0, 76, 0)), ((98, .aload_n 0, 1, 0, 0, 0, 0), (0, 0, 0)), ((99, .iload_n 2, 1, 0, 0, 0, 0), (0, 0, 0)), ((100, .bipush 16, 2, 0, 0, 0, 0), (0, 0, 0)), ((102, .irem, 1, 0, 0, 0, 0), (0, 0, 0)), ((103, .putfield 61, 3, 7, 6, 2080, 0), (0, 76, 0)), ((106, .iload_n 2, 1, 0, 0, 0, 0), (0, 0, 0)), ((107, .ldc 53, 2, 0, 0, 4089, 1000000), (0, 0, 0))] (by decide +kernel) rfl ?_
          refine hx_cmp .eq 116 (by decide +kernel) (fun c5 => ?_) (fun c5 => ?_)
          · have c5 : (m 79 (x1).toNat) = 1000000 := c5
            refine hx_blk (npc := 117) (L' := [(0, .inr (.inl 76)), (1, .inl x1), (2, .inl (m 79 (x1).toNat))]) (st' := [.inl 0]) (m' := (gx_u (gx_u m 76 5 (gx_w (Int.tdiv (m 79 (x1).toNat) 16))) 76 6 (Int.tmod (m 79 (x1).toNat) 16))) [((116, .iconst 0, 1, 0, 0, 0, 0), (0, 0, 0))] (by decide +kernel) rfl ?_
            exact hx_reti (by decide +kernel) (h7 c1 c2 c3 c4 c5)
          · have c5 : (m 79 (x1).toNat) ≠ 1000000 := c5
            refine hx_blk (npc := 117) (L' := [(0, .inr (.inl 76)), (1, .inl x1), (2, .inl (m 79 (x1).toNat))]) (st' := [.inl 1]) (m' := (gx_u (gx_u m 76 5 (gx_w (Int.tdiv (m 79 (x1).toNat) 16))) 76 6 (Int.tmod (m 79 (x1).toNat) 16))) [((112, .iconst 1, 1, 0, 0, 0, 0), (0, 0, 0)), ((113, .goto 4, 3, 0, 0, 0, 0), (0, 0, 0))] (by decide +kernel) rfl ?_
            exact hx_reti (by decide +kernel) (h8 c1 c2 c3 c4 c5)
    · have c2 : x2 ≤ 4095 := by have h : ¬ (4095 < x2) := c2; omega
      refine hx_blk (npc := 52) (L' := [(0, .inr (.inl 76)), (1, .inl x1), (2, .inl x2)]) (st' := [.inl 1000000, .inl (m 79 (x2).toNat)]) (m' := m) [((44, .aload_n 0, 1, 0, 0, 0, 0), (0, 0, 0)), ((45, .getfield 18, 3, 7, 3, 2076, 0), (1, 76, 79)), ((48, .iload_n 2, 1, 0, 0, 0, 0), (0, 0, 0)), ((49, .iaload, 1, 0, 0, 0, 0), (0, 79, 0)), ((50, .ldc 53, 2, 0, 0, 4089, 1000000), (0, 0, 0))] (by decide +kernel) rfl ?_
      refine hx_cmp .eq 61 (by decide +kernel) (fun c3 => ?_) (fun c3 => ?_)
      · have c3 : (m 79 (x2).toNat) = 1000000 := c3
        refine hx_blk (npc := 32) (L' := [(0, .inr (.inl 76)), (1, .inl x1), (2, .inl (gx_w (x2 + 1)))]) (st' := []) (m' := m) [((61, .iinc 2 1, 3, 0, 0, 0, 0), (0, 0, 0)), ((64, .goto (-32), 3, 0, 0, 0, 0), (0, 0, 0))] (by decide +kernel) rfl ?_
        exact hx_pick [0, 1, 2] (h9 c1 c2 c3)
      · have c3 : (m 79 (x2).toNat) ≠ 1000000 := c3
        refine hx_blk (npc := 58) (L' := [(0, .inr (.inl 76)), (1, .inl x1), (2, .inl x2)]) (st' := [.inl x1, .inl x2, .inr (.inl 76)]) (m' := m) [((55, .aload_n 0, 1, 0, 0, 0, 0), (0, 0, 0)), ((56, .iload_n 2, 1, 0, 0, 0, 0), (0, 0, 0)), ((57, .iload_n 1, 1, 0, 0, 0, 0), (0, 0, 0))] (by decide +kernel) rfl ?_
        exact hx_call (E := (58, .invokevirtual 54, 3, 102, 0, 4090, 0)) (M' := yp_m102) [.inr (.inl 76), .inl x2, .inl x1] [] rfl (by decide +kernel) rfl ⟨rfl, rfl⟩ rfl rfl (hx_mono (h10 c1 c2 c3) (fun r m' h' => hx_pick [0, 1, 2] h'))

/-- findCheapest from 61 on -/
theorem hr101_61 {xs : List Int32} {n : Nat} {Q : hQ} {m : gx_M} {x1 x2 : Int}
    (h1 : hxn xs n yp_m101 32 [(0, .inr (.inl 76)), (1, .inl x1), (2, .inl (gx_w (x2 + 1)))] [] m Q) : hxn xs (n + 1) yp_m101 61 [(0, .inr (.inl 76)), (1, .inl x1), (2, .inl x2)] [] m Q := by
  refine hx_blks (npc := 32) (L' := [(0, .inr (.inl 76)), (1, .inl x1), (2, .inl (gx_w (x2 + 1)))]) (st' := []) (m' := m) ((61, .iinc 2 1, 3, 0, 0, 0, 0), (0, 0, 0)) [((64, .goto (-32), 3, 0, 0, 0, 0), (0, 0, 0))] (by decide +kernel) rfl ?_
  exact hx_pick [0, 1, 2] h1

/-- taught from 0 on -/
theorem hr99_0 {xs : List Int32} {n : Nat} {Q : hQ} {m : gx_M} {x1 x2 x3 : Int}
    (h1 : (cPers 5 m x1) → (x2 < 0) → Q (some (.inl (-1))) m)
    (h2 : (cPers 5 m x1) → (0 ≤ x2) → (4095 < x2) → Q (some (.inl (-1))) m)
    (h3 : (cPers 5 m x1) → (0 ≤ x2) → (x2 ≤ 4095) → (x3 < 0) → Q (some (.inl (-1))) m)
    (h4 : (cPers 5 m x1) → (0 ≤ x2) → (x2 ≤ 4095) → (0 ≤ x3) → (x3 ≤ 2) → hxn xs n yp_m60 0 [(0, .inr (.inl 5)), (1, .inl x1)] [] m (fun r m' => hxn xs n yp_m99 46 [(0, .inr (.inl 0)), (1, .inl x1), (3, .inl x3)] (hrs r ++ [.inr (.inl 5), .inl x2]) m' Q))
    (h5 : (cPers 5 m x1) → (0 ≤ x2) → (x2 ≤ 4095) → (0 ≤ x3) → (2 < x3) → Q (some (.inl (-1))) m)
    (h6 : (¬ (cPers 5 m x1)) → Q (some (.inl (-1))) m) : hxn xs (n + 1) yp_m99 0 [(0, .inr (.inl 0)), (1, .inl x1), (2, .inl x2), (3, .inl x3)] [] m Q := by
  refine hx_blks (npc := 5) (L' := [(0, .inr (.inl 0)), (1, .inl x1), (2, .inl x2), (3, .inl x3)]) (st' := [.inl x1, .inr (.inl 5)]) (m' := m) ((0, .aload_n 0, 1, 0, 0, 0, 0), (0, 0, 0)) [((1, .getfield 26, 3, 9, 2, 2121, 0), (1, 0, 5)), ((4, .iload_n 1, 1, 0, 0, 0, 0), (0, 0, 0))] (by decide +kernel) rfl ?_
  refine hx_call (E := (5, .invokevirtual 94, 3, 13, 0, 2171, 0)) (M' := yp_m13) [.inr (.inl 5), .inl x1] [] rfl (by decide +kernel) rfl ⟨rfl, rfl⟩ rfl rfl (hs13_5 (fun c1 => ?_) (fun c1 => ?_))
  · have c1 : cPers 5 m x1 := c1
    show hxn xs n yp_m99 8 [(0, .inr (.inl 0)), (1, .inl x1), (2, .inl x2), (3, .inl x3)] [.inl 1] m Q
    refine hx_if .eq 31 (by decide +kernel) (fun c2 => ?_) (fun c2 => ?_)
    · have c2 : (1 : Int) = 0 := c2
      exfalso; omega
    · have c2 : (1 : Int) ≠ 0 := c2
      refine hx_blk (npc := 12) (L' := [(0, .inr (.inl 0)), (1, .inl x1), (2, .inl x2), (3, .inl x3)]) (st' := [.inl x2]) (m' := m) [((11, .iload_n 2, 1, 0, 0, 0, 0), (0, 0, 0))] (by decide +kernel) rfl ?_
      refine hx_if .lt 31 (by decide +kernel) (fun c2 => ?_) (fun c2 => ?_)
      · have c2 : x2 < 0 := c2
        refine hx_blk (npc := 32) (L' := [(0, .inr (.inl 0)), (1, .inl x1), (2, .inl x2), (3, .inl x3)]) (st' := [.inl (-1)]) (m' := m) [((31, .iconst (-1), 1, 0, 0, 0, 0), (0, 0, 0))] (by decide +kernel) rfl ?_
        exact hx_reti (by decide +kernel) (h1 c1 c2)
      · have c2 : 0 ≤ x2 := by have h : ¬ (x2 < 0) := c2; omega
        refine hx_blk (npc := 19) (L' := [(0, .inr (.inl 0)), (1, .inl x1), (2, .inl x2), (3, .inl x3)]) (st' := [.inl 4095, .inl x2]) (m' := m) [((15, .iload_n 2, 1, 0, 0, 0, 0), (0, 0, 0)), ((16, .sipush 4095, 3, 0, 0, 0, 0), (0, 0, 0))] (by decide +kernel) rfl ?_
        refine hx_cmp .gt 31 (by decide +kernel) (fun c3 => ?_) (fun c3 => ?_)
        · have c3 : 4095 < x2 := c3
          refine hx_blk (npc := 32) (L' := [(0, .inr (.inl 0)), (1, .inl x1), (2, .inl x2), (3, .inl x3)]) (st' := [.inl (-1)]) (m' := m) [((31, .iconst (-1), 1, 0, 0, 0, 0), (0, 0, 0))] (by decide +kernel) rfl ?_
          exact hx_reti (by decide +kernel) (h2 c1 c2 c3)
        · have c3 : x2 ≤ 4095 := by have h : ¬ (4095 < x2) := c3; omega
          refine hx_blk (npc := 23) (L' := [(0, .inr (.inl 0)), (1, .inl x1), (2, .inl x2), (3, .inl x3)]) (st' := [.inl x3]) (m' := m) [((22, .iload_n 3, 1, 0, 0, 0, 0), (0, 0, 0))] (by decide +kernel) rfl ?_
          refine hx_if .lt 31 (by decide +kernel) (fun c4 => ?_) (fun c4 => ?_)
          · have c4 : x3 < 0 := c4
            refine hx_blk (npc := 32) (L' := [(0, .inr (.inl 0)), (1, .inl x1), (2, .inl x2), (3, .inl x3)]) (st' := [.inl (-1)]) (m' := m) [((31, .iconst (-1), 1, 0, 0, 0, 0), (0, 0, 0))] (by decide +kernel) rfl ?_
            exact hx_reti (by decide +kernel) (h3 c1 c2 c3 c4)
          · have c4 : 0 ≤ x3 := by have h : ¬ (x3 < 0) := c4; omega
            refine hx_blk (npc := 28) (L' := [(0, .inr (.inl 0)), (1, .inl x1), (2, .inl x2), (3, .inl x3)]) (st' := [.inl 2, .inl x3]) (m' := m) [((26, .iload_n 3, 1, 0, 0, 0, 0), (0, 0, 0)), ((27, .iconst 2, 1, 0, 0, 0, 0), (0, 0, 0))] (by decide +kernel) rfl ?_
            refine hx_cmp .le 33 (by decide +kernel) (fun c5 => ?_) (fun c5 => ?_)
            · have c5 : x3 ≤ 2 := c5
              refine hx_blk (npc := 43) (L' := [(0, .inr (.inl 0)), (1, .inl x1), (2, .inl x2), (3, .inl x3)]) (st' := [.inl x1, .inr (.inl 5), .inr (.inl 5), .inl x2]) (m' := m) [((33, .iload_n 2, 1, 0, 0, 0, 0), (0, 0, 0)), ((34, .aload_n 0, 1, 0, 0, 0, 0), (0, 0, 0)), ((35, .getfield 26, 3, 9, 2, 2121, 0), (1, 0, 5)), ((38, .aload_n 0, 1, 0, 0, 0, 0), (0, 0, 0)), ((39, .getfield 26, 3, 9, 2, 2121, 0), (1, 0, 5)), ((42, .iload_n 1, 1, 0, 0, 0, 0), (0, 0, 0))] (by decide +kernel) rfl ?_
              exact hx_call (E := (43, .invokevirtual 181, 3, 60, 0, 3215, 0)) (M' := yp_m60) [.inr (.inl 5), .inl x1] [.inr (.inl 5), .inl x2] rfl (by decide +kernel) rfl ⟨rfl, rfl⟩ rfl rfl (hx_mono (h4 c1 c2 c3 c4 c5) (fun r m' h' => hx_pick [0, 1, 3] h'))
            · have c5 : 2 < x3 := by have h : ¬ (x3 ≤ 2) := c5; omega
              refine hx_blk (npc := 32) (L' := [(0, .inr (.inl 0)), (1, .inl x1), (2, .inl x2), (3, .inl x3)]) (st' := [.inl (-1)]) (m' := m) [((31, .iconst (-1), 1, 0, 0, 0, 0), (0, 0, 0))] (by decide +kernel) rfl ?_
              exact hx_reti (by decide +kernel) (h5 c1 c2 c3 c4 c5)
  · have c1 : ¬ (cPers 5 m x1) := c1
    show hxn xs n yp_m99 8 [(0, .inr (.inl 0)), (1, .inl x1), (2, .inl x2), (3, .inl x3)] [.inl 0] m Q
    refine hx_if .eq 31 (by decide +kernel) (fun c2 => ?_) (fun c2 => ?_)
    · have c2 : (0 : Int) = 0 := c2
      refine hx_blk (npc := 32) (L' := [(0, .inr (.inl 0)), (1, .inl x1), (2, .inl x2), (3, .inl x3)]) (st' := [.inl (-1)]) (m' := m) [((31, .iconst (-1), 1, 0, 0, 0, 0), (0, 0, 0))] (by decide +kernel) rfl ?_
      exact hx_reti (by decide +kernel) (h6 c1)
    · have c2 : (0 : Int) ≠ 0 := c2
      exfalso; omega

/-- taught from 46 on -/
theorem hr99_46 {xs : List Int32} {n : Nat} {Q : hQ} {m : gx_M} {x1 x3 s0 s2 : Int}
    (h1 : hxn xs n yp_m64 0 [(0, .inr (.inl 5)), (1, .inr (.inr s2))] [] m (fun r m' => hxn xs n yp_m99 49 [(0, .inr (.inl 0)), (1, .inl x1), (3, .inl x3)] (hrs r ++ [.inl s0]) m' Q)) : hxn xs (n + 1) yp_m99 46 [(0, .inr (.inl 0)), (1, .inl x1), (3, .inl x3)] [.inr (.inr s2), .inr (.inl 5), .inl s0] m Q := by
  exact hx_calls (E := (46, .invokevirtual 191, 3, 64, 0, 3217, 0)) (M' := yp_m64) [.inr (.inl 5), .inr (.inr s2)] [.inl s0] rfl (by decide +kernel) rfl ⟨rfl, rfl⟩ rfl rfl (hx_mono h1 (fun r m' h' => hx_pick [0, 1, 3] h'))

/-- taught from 49 on -/
theorem hr99_49 {xs : List Int32} {n : Nat} {Q : hQ} {m : gx_M} {x1 x3 s0 s1 : Int}
    (h1 : hxn xs n yp_m100 0 [(0, .inr (.inl 76)), (1, .inr (.inl 5)), (2, .inr (.inl 44)), (3, .inl x1), (4, .inl (gx_and s0 (gx_xor s1 (-1))))] [] m (fun r m' => hxn xs n yp_m99 72 [(0, .inr (.inl 0)), (1, .inl x1), (3, .inl x3), (4, .inl (gx_and s0 (gx_xor s1 (-1))))] (hrs r ++ []) m' Q)) : hxn xs (n + 1) yp_m99 49 [(0, .inr (.inl 0)), (1, .inl x1), (3, .inl x3)] [.inl s1, .inl s0] m Q := by
  refine hx_blks (npc := 69) (L' := [(0, .inr (.inl 0)), (1, .inl x1), (3, .inl x3), (4, .inl (gx_and s0 (gx_xor s1 (-1))))]) (st' := [.inl (gx_and s0 (gx_xor s1 (-1))), .inl x1, .inr (.inl 44), .inr (.inl 5), .inr (.inl 76)]) (m' := m) ((49, .iconst (-1), 1, 0, 0, 0, 0), (0, 0, 0)) [((50, .ixor, 1, 0, 0, 0, 0), (0, 0, 0)), ((51, .iand, 1, 0, 0, 0, 0), (0, 0, 0)), ((52, .istore 4, 2, 0, 0, 0, 0), (0, 0, 0)), ((54, .aload_n 0, 1, 0, 0, 0, 0), (0, 0, 0)), ((55, .getfield 74, 3, 9, 10, 2129, 0), (1, 0, 76)), ((58, .aload_n 0, 1, 0, 0, 0, 0), (0, 0, 0)), ((59, .getfield 26, 3, 9, 2, 2121, 0), (1, 0, 5)), ((62, .aload_n 0, 1, 0, 0, 0, 0), (0, 0, 0)), ((63, .getfield 39, 3, 9, 5, 2124, 0), (1, 0, 44)), ((66, .iload_n 1, 1, 0, 0, 0, 0), (0, 0, 0)), ((67, .iload 4, 2, 0, 0, 0, 0), (0, 0, 0))] (by decide +kernel) rfl ?_
  exact hx_call (E := (69, .invokevirtual 236, 3, 100, 0, 4077, 0)) (M' := yp_m100) [.inr (.inl 76), .inr (.inl 5), .inr (.inl 44), .inl x1, .inl (gx_and s0 (gx_xor s1 (-1)))] [] rfl (by decide +kernel) rfl ⟨rfl, rfl⟩ rfl rfl (hx_mono h1 (fun r m' h' => hx_pick [0, 1, 3, 4] h'))

/-- taught from 72 on -/
theorem hr99_72 {xs : List Int32} {n : Nat} {Q : hQ} {m : gx_M} {x1 x3 x4 : Int}
    (h1 : hxn xs n yp_m101 0 [(0, .inr (.inl 76)), (1, .inl x4)] [] m (fun r m' => hxn xs n yp_m99 81 [(0, .inr (.inl 0)), (1, .inl x1), (3, .inl x3)] (hrs r ++ []) m' Q)) : hxn xs (n + 1) yp_m99 72 [(0, .inr (.inl 0)), (1, .inl x1), (3, .inl x3), (4, .inl x4)] [] m Q := by
  refine hx_blks (npc := 78) (L' := [(0, .inr (.inl 0)), (1, .inl x1), (3, .inl x3), (4, .inl x4)]) (st' := [.inl x4, .inr (.inl 76)]) (m' := m) ((72, .aload_n 0, 1, 0, 0, 0, 0), (0, 0, 0)) [((73, .getfield 74, 3, 9, 10, 2129, 0), (1, 0, 76)), ((76, .iload 4, 2, 0, 0, 0, 0), (0, 0, 0))] (by decide +kernel) rfl ?_
  exact hx_call (E := (78, .invokevirtual 240, 3, 101, 0, 4085, 0)) (M' := yp_m101) [.inr (.inl 76), .inl x4] [] rfl (by decide +kernel) rfl ⟨rfl, rfl⟩ rfl rfl (hx_mono h1 (fun r m' h' => hx_pick [0, 1, 3] h'))

/-- taught from 81 on -/
theorem hr99_81 {xs : List Int32} {n : Nat} {Q : hQ} {m : gx_M} {x1 x3 s0 : Int}
    (h1 : (s0 ≠ 0) → (x3 ≠ 2) → (x3 ≠ 0) → Q (some (.inl (m 76 6))) m)
    (h2 : (s0 ≠ 0) → (x3 ≠ 2) → (x3 = 0) → Q (some (.inl (m 76 5))) m)
    (h3 : (s0 ≠ 0) → (x3 = 2) → ((m 6 (x1).toNat) < (m 76 5)) → Q (some (.inl 0)) m)
    (h4 : (s0 ≠ 0) → (x3 = 2) → ((m 76 5) ≤ (m 6 (x1).toNat)) → Q (some (.inl 1)) m)
    (h5 : (s0 = 0) → Q (some (.inl (-2))) m) : hxn xs (n + 1) yp_m99 81 [(0, .inr (.inl 0)), (1, .inl x1), (3, .inl x3)] [.inl s0] m Q := by
  refine hx_ifs .ne 87 (by decide +kernel) (fun c1 => ?_) (fun c1 => ?_)
  · have c1 : s0 ≠ 0 := c1
    refine hx_blk (npc := 89) (L' := [(0, .inr (.inl 0)), (1, .inl x1), (3, .inl x3)]) (st' := [.inl 2, .inl x3]) (m' := m) [((87, .iload_n 3, 1, 0, 0, 0, 0), (0, 0, 0)), ((88, .iconst 2, 1, 0, 0, 0, 0), (0, 0, 0))] (by decide +kernel) rfl ?_
    refine hx_cmp .ne 117 (by decide +kernel) (fun c2 => ?_) (fun c2 => ?_)
    · have c2 : x3 ≠ 2 := c2
      refine hx_blk (npc := 118) (L' := [(0, .inr (.inl 0)), (1, .inl x1), (3, .inl x3)]) (st' := [.inl x3]) (m' := m) [((117, .iload_n 3, 1, 0, 0, 0, 0), (0, 0, 0))] (by decide +kernel) rfl ?_
      refine hx_if .ne 131 (by decide +kernel) (fun c3 => ?_) (fun c3 => ?_)
      · have c3 : x3 ≠ 0 := c3
        refine hx_blk (npc := 138) (L' := [(0, .inr (.inl 0)), (1, .inl x1), (3, .inl x3)]) (st' := [.inl (m 76 6)]) (m' := m) [((131, .aload_n 0, 1, 0, 0, 0, 0), (0, 0, 0)), ((132, .getfield 74, 3, 9, 10, 2129, 0), (1, 0, 76)), ((135, .getfield 246, 3, 7, 6, 2081, 0), (0, 76, 0))] (by decide +kernel) rfl ?_
        exact hx_reti (by decide +kernel) (h1 c1 c2 c3)
      · have c3 : x3 = 0 := by have h : ¬ (x3 ≠ 0) := c3; omega
        refine hx_blk (npc := 138) (L' := [(0, .inr (.inl 0)), (1, .inl x1), (3, .inl x3)]) (st' := [.inl (m 76 5)]) (m' := m) [((121, .aload_n 0, 1, 0, 0, 0, 0), (0, 0, 0)), ((122, .getfield 74, 3, 9, 10, 2129, 0), (1, 0, 76)), ((125, .getfield 243, 3, 7, 5, 2079, 0), (0, 76, 0)), ((128, .goto 10, 3, 0, 0, 0, 0), (0, 0, 0))] (by decide +kernel) rfl ?_
        exact hx_reti (by decide +kernel) (h2 c1 c2 c3)
    · have c2 : x3 = 2 := by have h : ¬ (x3 ≠ 2) := c2; omega
      refine hx_blk (npc := 108) (L' := [(0, .inr (.inl 0)), (1, .inl x1), (3, .inl x3)]) (st' := [.inl (m 76 5), .inl (m 6 (x1).toNat)]) (m' := m) [((92, .aload_n 0, 1, 0, 0, 0, 0), (0, 0, 0)), ((93, .getfield 26, 3, 9, 2, 2121, 0), (1, 0, 5)), ((96, .getfield 90, 3, 2, 5, 1090, 0), (1, 5, 6)), ((99, .iload_n 1, 1, 0, 0, 0, 0), (0, 0, 0)), ((100, .iaload, 1, 0, 0, 0, 0), (0, 6, 0)), ((101, .aload_n 0, 1, 0, 0, 0, 0), (0, 0, 0)), ((102, .getfield 74, 3, 9, 10, 2129, 0), (1, 0, 76)), ((105, .getfield 243, 3, 7, 5, 2079, 0), (0, 76, 0))] (by decide +kernel) rfl ?_
      refine hx_cmp .lt 115 (by decide +kernel) (fun c3 => ?_) (fun c3 => ?_)
      · have c3 : (m 6 (x1).toNat) < (m 76 5) := c3
        refine hx_blk (npc := 116) (L' := [(0, .inr (.inl 0)), (1, .inl x1), (3, .inl x3)]) (st' := [.inl 0]) (m' := m) [((115, .iconst 0, 1, 0, 0, 0, 0), (0, 0, 0))] (by decide +kernel) rfl ?_
        exact hx_reti (by decide +kernel) (h3 c1 c2 c3)
      · have c3 : (m 76 5) ≤ (m 6 (x1).toNat) := by have h : ¬ ((m 6 (x1).toNat) < (m 76 5)) := c3; omega
        refine hx_blk (npc := 116) (L' := [(0, .inr (.inl 0)), (1, .inl x1), (3, .inl x3)]) (st' := [.inl 1]) (m' := m) [((111, .iconst 1, 1, 0, 0, 0, 0), (0, 0, 0)), ((112, .goto 4, 3, 0, 0, 0, 0), (0, 0, 0))] (by decide +kernel) rfl ?_
        exact hx_reti (by decide +kernel) (h4 c1 c2 c3)
  · have c1 : s0 = 0 := by have h : ¬ (s0 ≠ 0) := c1; omega
    refine hx_blk (npc := 86) (L' := [(0, .inr (.inl 0)), (1, .inl x1), (3, .inl x3)]) (st' := [.inl (-2)]) (m' := m) [((84, .bipush (-2), 2, 0, 0, 0, 0), (0, 0, 0))] (by decide +kernel) rfl ?_
    exact hx_reti (by decide +kernel) (h5 c1)

/-- teaches from 0 on -/
theorem hr237_0 {xs : List Int32} {n : Nat} {Q : hQ} {m : gx_M} {x1 x2 : Int}
    (h1 : hxn xs n yp_m237 4 [(0, .inr (.inl 86)), (1, .inl x1), (2, .inl x2), (3, .inl 4095)] [] m Q) : hxn xs (n + 1) yp_m237 0 [(0, .inr (.inl 86)), (1, .inl x1), (2, .inl x2)] [] m Q := by
  refine hx_blks (npc := 4) (L' := [(0, .inr (.inl 86)), (1, .inl x1), (2, .inl x2), (3, .inl 4095)]) (st' := []) (m' := m) ((0, .sipush 4095, 3, 0, 0, 0, 0), (0, 0, 0)) [((3, .istore_n 3, 1, 0, 0, 0, 0), (0, 0, 0))] (by decide +kernel) rfl ?_
  exact hx_pick [0, 1, 2, 3] h1

/-- teaches from 4 on -/
theorem hr237_4 {xs : List Int32} {n : Nat} {Q : hQ} {m : gx_M} {x1 x2 x3 : Int} (r_x3 : (-1) ≤ x3 ∧ x3 ≤ 4095)
    (h1 : (x3 < 0) → Q none m)
    (h2 : (0 ≤ x3) → ((m 111 (x3).toNat) ≠ 1000000000) → ((gx_or x3 x1) = x3) → hxn xs n yp_m237 4 [(0, .inr (.inl 86)), (1, .inl x1), (2, .inl x2), (3, .inl (x3 + (-1)))] [] m Q)
    (h3 : (0 ≤ x3) → ((m 111 (x3).toNat) ≠ 1000000000) → ((gx_or x3 x1) ≠ x3) → hxn xs n yp_m199 0 [(0, .inl (m 111 (gx_or x3 x1).toNat)), (1, .inl (gx_w ((gx_w ((m 111 (x3).toNat) + (gx_w (64 * x2)))) + 1)))] [] m (fun r m' => hxn xs n yp_m237 63 [(0, .inr (.inl 86)), (1, .inl x1), (2, .inl x2), (3, .inl x3)] (hrs r ++ [.inl (gx_or x3 x1), .inr (.inl 111)]) m' Q))
    (h4 : (0 ≤ x3) → ((m 111 (x3).toNat) = 1000000000) → hxn xs n yp_m237 4 [(0, .inr (.inl 86)), (1, .inl x1), (2, .inl x2), (3, .inl (x3 + (-1)))] [] m Q) : hxn xs (n + 1) yp_m237 4 [(0, .inr (.inl 86)), (1, .inl x1), (2, .inl x2), (3, .inl x3)] [] m Q := by
  refine hx_blks (npc := 5) (L' := [(0, .inr (.inl 86)), (1, .inl x1), (2, .inl x2), (3, .inl x3)]) (st' := [.inl x3]) (m' := m) ((4, .iload_n 3, 1, 0, 0, 0, 0), (0, 0, 0)) [] (by decide +kernel) rfl ?_
  refine hx_if .lt 70 (by decide +kernel) (fun c1 => ?_) (fun c1 => ?_)
  · have c1 : x3 < 0 := c1
    exact hx_ret0 (by decide +kernel) (h1 c1)
  · have c1 : 0 ≤ x3 := by have h : ¬ (x3 < 0) := c1; omega
    refine hx_blk (npc := 17) (L' := [(0, .inr (.inl 86)), (1, .inl x1), (2, .inl x2), (3, .inl x3)]) (st' := [.inl 1000000000, .inl (m 111 (x3).toNat)]) (m' := m) [((8, .aload_n 0, 1, 0, 0, 0, 0), (0, 0, 0)), ((9, .getfield 83, 3, 10, 36, 5149, 0), (1, 86, 111)), ((12, .iload_n 3, 1, 0, 0, 0, 0), (0, 0, 0)), ((13, .iaload, 1, 0, 0, 0, 0), (0, 111, 0)), ((14, .ldc_w 333, 3, 0, 0, 7076, 1000000000), (0, 0, 0))] (by decide +kernel) rfl ?_
    refine hx_cmp .ne 23 (by decide +kernel) (fun c2 => ?_) (fun c2 => ?_)
    · have c2 : (m 111 (x3).toNat) ≠ 1000000000 := c2
      refine hx_blk (npc := 31) (L' := [(0, .inr (.inl 86)), (1, .inl x1), (2, .inl x2), (3, .inl x3), (4, .inl (gx_or x3 x1))]) (st' := [.inl x3, .inl (gx_or x3 x1)]) (m' := m) [((23, .iload_n 3, 1, 0, 0, 0, 0), (0, 0, 0)), ((24, .iload_n 1, 1, 0, 0, 0, 0), (0, 0, 0)), ((25, .ior, 1, 0, 0, 0, 0), (0, 0, 0)), ((26, .istore 4, 2, 0, 0, 0, 0), (0, 0, 0)), ((28, .iload 4, 2, 0, 0, 0, 0), (0, 0, 0)), ((30, .iload_n 3, 1, 0, 0, 0, 0), (0, 0, 0))] (by decide +kernel) rfl ?_
      refine hx_cmp .eq 64 (by decide +kernel) (fun c3 => ?_) (fun c3 => ?_)
      · have c3 : (gx_or x3 x1) = x3 := c3
        have e1 : gx_w (x3 + (-1)) = x3 + (-1) := gx_w_id (by omega) (by omega)
        refine hx_blk (npc := 4) (L' := [(0, .inr (.inl 86)), (1, .inl x1), (2, .inl x2), (3, .inl (gx_w (x3 + (-1)))), (4, .inl (gx_or x3 x1))]) (st' := []) (m' := m) [((64, .iinc 3 (-1), 3, 0, 0, 0, 0), (0, 0, 0)), ((67, .goto (-63), 3, 0, 0, 0, 0), (0, 0, 0))] (by decide +kernel) rfl ?_
        rw [e1]
        exact hx_pick [0, 1, 2, 3] (h2 c1 c2 c3)
      · have c3 : (gx_or x3 x1) ≠ x3 := c3
        refine hx_blk (npc := 60) (L' := [(0, .inr (.inl 86)), (1, .inl x1), (2, .inl x2), (3, .inl x3), (4, .inl (gx_or x3 x1))]) (st' := [.inl (gx_w ((gx_w ((m 111 (x3).toNat) + (gx_w (64 * x2)))) + 1)), .inl (m 111 (gx_or x3 x1).toNat), .inl (gx_or x3 x1), .inr (.inl 111)]) (m' := m) [((34, .aload_n 0, 1, 0, 0, 0, 0), (0, 0, 0)), ((35, .getfield 83, 3, 10, 36, 5149, 0), (1, 86, 111)), ((38, .iload 4, 2, 0, 0, 0, 0), (0, 0, 0)), ((40, .aload_n 0, 1, 0, 0, 0, 0), (0, 0, 0)), ((41, .getfield 83, 3, 10, 36, 5149, 0), (1, 86, 111)), ((44, .iload 4, 2, 0, 0, 0, 0), (0, 0, 0)), ((46, .iaload, 1, 0, 0, 0, 0), (0, 111, 0)), ((47, .aload_n 0, 1, 0, 0, 0, 0), (0, 0, 0)), ((48, .getfield 83, 3, 10, 36, 5149, 0), (1, 86, 111)), ((51, .iload_n 3, 1, 0, 0, 0, 0), (0, 0, 0)), ((52, .iaload, 1, 0, 0, 0, 0), (0, 111, 0)), ((53, .bipush 64, 2, 0, 0, 0, 0), (0, 0, 0)), ((55, .iload_n 2, 1, 0, 0, 0, 0), (0, 0, 0)), ((56, .imul, 1, 0, 0, 0, 0), (0, 0, 0)), ((57, .iadd, 1, 0, 0, 0, 0), (0, 0, 0)), ((58, .iconst 1, 1, 0, 0, 0, 0), (0, 0, 0)), ((59, .iadd, 1, 0, 0, 0, 0), (0, 0, 0))] (by decide +kernel) rfl ?_
        exact hx_call (E := (60, .invokestatic 120, 3, 199, 0, 6168, 0)) (M' := yp_m199) [.inl (m 111 (gx_or x3 x1).toNat), .inl (gx_w ((gx_w ((m 111 (x3).toNat) + (gx_w (64 * x2)))) + 1))] [.inl (gx_or x3 x1), .inr (.inl 111)] rfl (by decide +kernel) rfl ⟨rfl, rfl⟩ rfl rfl (hx_mono (h3 c1 c2 c3) (fun r m' h' => hx_pick [0, 1, 2, 3] h'))
    · have c2 : (m 111 (x3).toNat) = 1000000000 := by have h : ¬ ((m 111 (x3).toNat) ≠ 1000000000) := c2; omega
      have e2 : gx_w (x3 + (-1)) = x3 + (-1) := gx_w_id (by omega) (by omega)
      refine hx_blk (npc := 4) (L' := [(0, .inr (.inl 86)), (1, .inl x1), (2, .inl x2), (3, .inl (gx_w (x3 + (-1))))]) (st' := []) (m' := m) [((20, .goto 44, 3, 0, 0, 0, 0), (0, 0, 0)), ((64, .iinc 3 (-1), 3, 0, 0, 0, 0), (0, 0, 0)), ((67, .goto (-63), 3, 0, 0, 0, 0), (0, 0, 0))] (by decide +kernel) rfl ?_
      rw [e2]
      exact hx_pick [0, 1, 2, 3] (h4 c1 c2)

/-- teaches from 63 on -/
theorem hr237_63 {xs : List Int32} {n : Nat} {Q : hQ} {m : gx_M} {x1 x2 x3 s1 s2 : Int}
    (h1 : hxn xs n yp_m237 4 [(0, .inr (.inl 86)), (1, .inl x1), (2, .inl x2), (3, .inl (gx_w (x3 + (-1))))] [] (gx_u m 111 (s1).toNat s2) Q) : hxn xs (n + 1) yp_m237 63 [(0, .inr (.inl 86)), (1, .inl x1), (2, .inl x2), (3, .inl x3)] [.inl s2, .inl s1, .inr (.inl 111)] m Q := by
  refine hx_blks (npc := 4) (L' := [(0, .inr (.inl 86)), (1, .inl x1), (2, .inl x2), (3, .inl (gx_w (x3 + (-1))))]) (st' := []) (m' := (gx_u m 111 (s1).toNat s2)) ((63, .iastore, 1, 0, 0, 0, 0), (0, 111, 0)) [((64, .iinc 3 (-1), 3, 0, 0, 0, 0), (0, 0, 0)), ((67, .goto (-63), 3, 0, 0, 0, 0), (0, 0, 0))] (by decide +kernel) rfl ?_
  exact hx_pick [0, 1, 2, 3] h1

/-- taught from 0 on -/
theorem hr236_0 {xs : List Int32} {n : Nat} {Q : hQ} {m : gx_M} {x1 x2 x3 : Int}
    (h1 : (aPers (m 87) x1) → (0 ≤ x2 ∧ x2 ≤ 4095) → (0 ≤ x3 ∧ x3 ≤ 2) → hxn xs n yp_m207 0 [(0, .inr (.inl 86)), (1, .inl x1), (2, .inl (-1))] [] m (fun r m' => hxn xs n yp_m236 37 [(0, .inr (.inl 86)), (1, .inl x1), (3, .inl x3)] (hrs r ++ [.inl x2]) m' Q))
    (h2 : (aPers (m 87) x1) → (0 ≤ x2 ∧ x2 ≤ 4095) → (¬ (0 ≤ x3 ∧ x3 ≤ 2)) → Q (some (.inl (-1))) m)
    (h3 : (aPers (m 87) x1) → (¬ (0 ≤ x2 ∧ x2 ≤ 4095)) → Q (some (.inl (-1))) m)
    (h4 : (¬ (aPers (m 87) x1)) → Q (some (.inl (-1))) m) : hxn xs (n + 1) yp_m236 0 [(0, .inr (.inl 86)), (1, .inl x1), (2, .inl x2), (3, .inl x3)] [] m Q := by
  refine hx_blks (npc := 2) (L' := [(0, .inr (.inl 86)), (1, .inl x1), (2, .inl x2), (3, .inl x3)]) (st' := [.inl x1, .inr (.inl 86)]) (m' := m) ((0, .aload_n 0, 1, 0, 0, 0, 0), (0, 0, 0)) [((1, .iload_n 1, 1, 0, 0, 0, 0), (0, 0, 0))] (by decide +kernel) rfl ?_
  refine hx_call (E := (2, .invokevirtual 113, 3, 164, 0, 6031, 0)) (M' := yp_m164) [.inr (.inl 86), .inl x1] [] rfl (by decide +kernel) rfl ⟨rfl, rfl⟩ rfl rfl (hs164 (fun c1 => ?_) (fun c1 => ?_))
  · have c1 : aPers (m 87) x1 := c1
    show hxn xs n yp_m236 5 [(0, .inr (.inl 86)), (1, .inl x1), (2, .inl x2), (3, .inl x3)] [.inl 1] m Q
    refine hx_if .eq 28 (by decide +kernel) (fun c2 => ?_) (fun c2 => ?_)
    · have c2 : (1 : Int) = 0 := c2
      exfalso; omega
    · have c2 : (1 : Int) ≠ 0 := c2
      refine hx_blk (npc := 13) (L' := [(0, .inr (.inl 86)), (1, .inl x1), (2, .inl x2), (3, .inl x3)]) (st' := [.inl 4095, .inl 0, .inl x2]) (m' := m) [((8, .iload_n 2, 1, 0, 0, 0, 0), (0, 0, 0)), ((9, .iconst 0, 1, 0, 0, 0, 0), (0, 0, 0)), ((10, .sipush 4095, 3, 0, 0, 0, 0), (0, 0, 0))] (by decide +kernel) rfl ?_
      refine hx_call (E := (13, .invokestatic 108, 3, 162, 0, 6023, 0)) (M' := yp_m162) [.inl x2, .inl 0, .inl 4095] [] rfl (by decide +kernel) rfl ⟨rfl, rfl⟩ rfl rfl (hs162 (fun c2 => ?_) (fun c2 => ?_))
      · have c2 : 0 ≤ x2 ∧ x2 ≤ 4095 := c2
        show hxn xs n yp_m236 16 [(0, .inr (.inl 86)), (1, .inl x1), (2, .inl x2), (3, .inl x3)] [.inl 1] m Q
        refine hx_if .eq 28 (by decide +kernel) (fun c3 => ?_) (fun c3 => ?_)
        · have c3 : (1 : Int) = 0 := c3
          exfalso; omega
        · have c3 : (1 : Int) ≠ 0 := c3
          refine hx_blk (npc := 22) (L' := [(0, .inr (.inl 86)), (1, .inl x1), (2, .inl x2), (3, .inl x3)]) (st' := [.inl 2, .inl 0, .inl x3]) (m' := m) [((19, .iload_n 3, 1, 0, 0, 0, 0), (0, 0, 0)), ((20, .iconst 0, 1, 0, 0, 0, 0), (0, 0, 0)), ((21, .iconst 2, 1, 0, 0, 0, 0), (0, 0, 0))] (by decide +kernel) rfl ?_
          refine hx_call (E := (22, .invokestatic 108, 3, 162, 0, 6023, 0)) (M' := yp_m162) [.inl x3, .inl 0, .inl 2] [] rfl (by decide +kernel) rfl ⟨rfl, rfl⟩ rfl rfl (hs162 (fun c3 => ?_) (fun c3 => ?_))
          · have c3 : 0 ≤ x3 ∧ x3 ≤ 2 := c3
            show hxn xs n yp_m236 25 [(0, .inr (.inl 86)), (1, .inl x1), (2, .inl x2), (3, .inl x3)] [.inl 1] m Q
            refine hx_if .ne 30 (by decide +kernel) (fun c4 => ?_) (fun c4 => ?_)
            · have c4 : (1 : Int) ≠ 0 := c4
              refine hx_blk (npc := 34) (L' := [(0, .inr (.inl 86)), (1, .inl x1), (2, .inl x2), (3, .inl x3)]) (st' := [.inl (-1), .inl x1, .inr (.inl 86), .inl x2]) (m' := m) [((30, .iload_n 2, 1, 0, 0, 0, 0), (0, 0, 0)), ((31, .aload_n 0, 1, 0, 0, 0, 0), (0, 0, 0)), ((32, .iload_n 1, 1, 0, 0, 0, 0), (0, 0, 0)), ((33, .iconst (-1), 1, 0, 0, 0, 0), (0, 0, 0))] (by decide +kernel) rfl ?_
              exact hx_call (E := (34, .invokevirtual 244, 3, 207, 0, 6198, 0)) (M' := yp_m207) [.inr (.inl 86), .inl x1, .inl (-1)] [.inl x2] rfl (by decide +kernel) rfl ⟨rfl, rfl⟩ rfl rfl (hx_mono (h1 c1 c2 c3) (fun r m' h' => hx_pick [0, 1, 3] h'))
            · have c4 : (1 : Int) = 0 := by have h : ¬ ((1 : Int) ≠ 0) := c4; omega
              exfalso; omega
          · have c3 : ¬ (0 ≤ x3 ∧ x3 ≤ 2) := c3
            show hxn xs n yp_m236 25 [(0, .inr (.inl 86)), (1, .inl x1), (2, .inl x2), (3, .inl x3)] [.inl 0] m Q
            refine hx_if .ne 30 (by decide +kernel) (fun c4 => ?_) (fun c4 => ?_)
            · have c4 : (0 : Int) ≠ 0 := c4
              exfalso; omega
            · have c4 : (0 : Int) = 0 := by have h : ¬ ((0 : Int) ≠ 0) := c4; omega
              refine hx_blk (npc := 29) (L' := [(0, .inr (.inl 86)), (1, .inl x1), (2, .inl x2), (3, .inl x3)]) (st' := [.inl (-1)]) (m' := m) [((28, .iconst (-1), 1, 0, 0, 0, 0), (0, 0, 0))] (by decide +kernel) rfl ?_
              exact hx_reti (by decide +kernel) (h2 c1 c2 c3)
      · have c2 : ¬ (0 ≤ x2 ∧ x2 ≤ 4095) := c2
        show hxn xs n yp_m236 16 [(0, .inr (.inl 86)), (1, .inl x1), (2, .inl x2), (3, .inl x3)] [.inl 0] m Q
        refine hx_if .eq 28 (by decide +kernel) (fun c3 => ?_) (fun c3 => ?_)
        · have c3 : (0 : Int) = 0 := c3
          refine hx_blk (npc := 29) (L' := [(0, .inr (.inl 86)), (1, .inl x1), (2, .inl x2), (3, .inl x3)]) (st' := [.inl (-1)]) (m' := m) [((28, .iconst (-1), 1, 0, 0, 0, 0), (0, 0, 0))] (by decide +kernel) rfl ?_
          exact hx_reti (by decide +kernel) (h3 c1 c2)
        · have c3 : (0 : Int) ≠ 0 := c3
          exfalso; omega
  · have c1 : ¬ (aPers (m 87) x1) := c1
    show hxn xs n yp_m236 5 [(0, .inr (.inl 86)), (1, .inl x1), (2, .inl x2), (3, .inl x3)] [.inl 0] m Q
    refine hx_if .eq 28 (by decide +kernel) (fun c2 => ?_) (fun c2 => ?_)
    · have c2 : (0 : Int) = 0 := c2
      refine hx_blk (npc := 29) (L' := [(0, .inr (.inl 86)), (1, .inl x1), (2, .inl x2), (3, .inl x3)]) (st' := [.inl (-1)]) (m' := m) [((28, .iconst (-1), 1, 0, 0, 0, 0), (0, 0, 0))] (by decide +kernel) rfl ?_
      exact hx_reti (by decide +kernel) (h4 c1)
    · have c2 : (0 : Int) ≠ 0 := c2
      exfalso; omega

/-- taught from 37 on -/
theorem hr236_37 {xs : List Int32} {n : Nat} {Q : hQ} {m : gx_M} {x1 x3 s0 s1 : Int}
    (h1 : hxn xs n yp_m236 45 [(0, .inr (.inl 86)), (1, .inl x1), (3, .inl x3), (4, .inl (gx_and s0 (gx_xor s1 (-1)))), (5, .inl 0)] [] m Q) : hxn xs (n + 1) yp_m236 37 [(0, .inr (.inl 86)), (1, .inl x1), (3, .inl x3)] [.inl s1, .inl s0] m Q := by
  refine hx_blks (npc := 45) (L' := [(0, .inr (.inl 86)), (1, .inl x1), (3, .inl x3), (4, .inl (gx_and s0 (gx_xor s1 (-1)))), (5, .inl 0)]) (st' := []) (m' := m) ((37, .iconst (-1), 1, 0, 0, 0, 0), (0, 0, 0)) [((38, .ixor, 1, 0, 0, 0, 0), (0, 0, 0)), ((39, .iand, 1, 0, 0, 0, 0), (0, 0, 0)), ((40, .istore 4, 2, 0, 0, 0, 0), (0, 0, 0)), ((42, .iconst 0, 1, 0, 0, 0, 0), (0, 0, 0)), ((43, .istore 5, 2, 0, 0, 0, 0), (0, 0, 0))] (by decide +kernel) rfl ?_
  exact hx_pick [0, 1, 3, 4, 5] h1

/-- taught from 45 on -/
theorem hr236_45 {xs : List Int32} {n : Nat} {Q : hQ} {m : gx_M} {x1 x3 x4 x5 : Int}
    (h1 : (4096 ≤ x5) → hxn xs n yp_m236 81 [(0, .inr (.inl 86)), (1, .inl x1), (3, .inl x3), (4, .inl x4), (5, .inl 0)] [] m Q)
    (h2 : (x5 < 4096) → (x5 ≠ 0) → hxn xs n yp_m236 45 [(0, .inr (.inl 86)), (1, .inl x1), (3, .inl x3), (4, .inl x4), (5, .inl (gx_w (x5 + 1)))] [] (gx_u m 111 (x5).toNat 1000000000) Q)
    (h3 : (x5 < 4096) → (x5 = 0) → hxn xs n yp_m236 45 [(0, .inr (.inl 86)), (1, .inl x1), (3, .inl x3), (4, .inl x4), (5, .inl (x5 + 1))] [] (gx_u m 111 (x5).toNat 0) Q) : hxn xs (n + 1) yp_m236 45 [(0, .inr (.inl 86)), (1, .inl x1), (3, .inl x3), (4, .inl x4), (5, .inl x5)] [] m Q := by
  refine hx_blks (npc := 50) (L' := [(0, .inr (.inl 86)), (1, .inl x1), (3, .inl x3), (4, .inl x4), (5, .inl x5)]) (st' := [.inl 4096, .inl x5]) (m' := m) ((45, .iload 5, 2, 0, 0, 0, 0), (0, 0, 0)) [((47, .sipush 4096, 3, 0, 0, 0, 0), (0, 0, 0))] (by decide +kernel) rfl ?_
  refine hx_cmp .ge 78 (by decide +kernel) (fun c1 => ?_) (fun c1 => ?_)
  · have c1 : 4096 ≤ x5 := c1
    refine hx_blk (npc := 81) (L' := [(0, .inr (.inl 86)), (1, .inl x1), (3, .inl x3), (4, .inl x4), (5, .inl 0)]) (st' := []) (m' := m) [((78, .iconst 0, 1, 0, 0, 0, 0), (0, 0, 0)), ((79, .istore 5, 2, 0, 0, 0, 0), (0, 0, 0))] (by decide +kernel) rfl ?_
    exact hx_pick [0, 1, 3, 4, 5] (h1 c1)
  · have c1 : x5 < 4096 := by have h : ¬ (4096 ≤ x5) := c1; omega
    refine hx_blk (npc := 61) (L' := [(0, .inr (.inl 86)), (1, .inl x1), (3, .inl x3), (4, .inl x4), (5, .inl x5)]) (st' := [.inl x5, .inl x5, .inr (.inl 111)]) (m' := m) [((53, .aload_n 0, 1, 0, 0, 0, 0), (0, 0, 0)), ((54, .getfield 83, 3, 10, 36, 5149, 0), (1, 86, 111)), ((57, .iload 5, 2, 0, 0, 0, 0), (0, 0, 0)), ((59, .iload 5, 2, 0, 0, 0, 0), (0, 0, 0))] (by decide +kernel) rfl ?_
    refine hx_if .ne 68 (by decide +kernel) (fun c2 => ?_) (fun c2 => ?_)
    · have c2 : x5 ≠ 0 := c2
      refine hx_blk (npc := 45) (L' := [(0, .inr (.inl 86)), (1, .inl x1), (3, .inl x3), (4, .inl x4), (5, .inl (gx_w (x5 + 1)))]) (st' := []) (m' := (gx_u m 111 (x5).toNat 1000000000)) [((68, .ldc_w 333, 3, 0, 0, 7076, 1000000000), (0, 0, 0)), ((71, .iastore, 1, 0, 0, 0, 0), (0, 111, 0)), ((72, .iinc 5 1, 3, 0, 0, 0, 0), (0, 0, 0)), ((75, .goto (-30), 3, 0, 0, 0, 0), (0, 0, 0))] (by decide +kernel) rfl ?_
      exact hx_pick [0, 1, 3, 4, 5] (h2 c1 c2)
    · have c2 : x5 = 0 := by have h : ¬ (x5 ≠ 0) := c2; omega
      have e1 : gx_w (x5 + 1) = x5 + 1 := gx_w_id (by omega) (by omega)
      refine hx_blk (npc := 45) (L' := [(0, .inr (.inl 86)), (1, .inl x1), (3, .inl x3), (4, .inl x4), (5, .inl (gx_w (x5 + 1)))]) (st' := []) (m' := (gx_u m 111 (x5).toNat 0)) [((64, .iconst 0, 1, 0, 0, 0, 0), (0, 0, 0)), ((65, .goto 6, 3, 0, 0, 0, 0), (0, 0, 0)), ((71, .iastore, 1, 0, 0, 0, 0), (0, 111, 0)), ((72, .iinc 5 1, 3, 0, 0, 0, 0), (0, 0, 0)), ((75, .goto (-30), 3, 0, 0, 0, 0), (0, 0, 0))] (by decide +kernel) rfl ?_
      rw [e1]
      exact hx_pick [0, 1, 3, 4, 5] (h3 c1 c2)

/-- taught from 81 on -/
theorem hr236_81 {xs : List Int32} {n : Nat} {Q : hQ} {m : gx_M} {x1 x3 x4 x5 : Int}
    (h1 : (40 ≤ x5) → ((m 111 (x4).toNat) ≠ 1000000000) → (x3 ≠ 0) → (x3 ≠ 1) → ((m 87 (gx_w (1120 + x1)).toNat) < (gx_w (Int.tdiv (m 111 (x4).toNat) 64))) → Q (some (.inl 0)) m)
    (h2 : (40 ≤ x5) → ((m 111 (x4).toNat) ≠ 1000000000) → (x3 ≠ 0) → (x3 ≠ 1) → ((gx_w (Int.tdiv (m 111 (x4).toNat) 64)) ≤ (m 87 (gx_w (1120 + x1)).toNat)) → Q (some (.inl 1)) m)
    (h3 : (40 ≤ x5) → ((m 111 (x4).toNat) ≠ 1000000000) → (x3 ≠ 0) → (x3 = 1) → Q (some (.inl (Int.tmod (m 111 (x4).toNat) 64))) m)
    (h4 : (40 ≤ x5) → ((m 111 (x4).toNat) ≠ 1000000000) → (x3 = 0) → Q (some (.inl (gx_w (Int.tdiv (m 111 (x4).toNat) 64)))) m)
    (h5 : (40 ≤ x5) → ((m 111 (x4).toNat) = 1000000000) → Q (some (.inl (-2))) m)
    (h6 : (x5 < 40) → (aYr (m 87) x5) → ((m 87 (gx_w (240 + x5)).toNat) = x1) → hxn xs n yp_m236 81 [(0, .inr (.inl 86)), (1, .inl x1), (3, .inl x3), (4, .inl x4), (5, .inl (gx_w (x5 + 1)))] [] m Q)
    (h7 : (x5 < 40) → (aYr (m 87) x5) → ((m 87 (gx_w (240 + x5)).toNat) ≠ x1) → (aPw (m 87) x5) → hxn xs n yp_m236 81 [(0, .inr (.inl 86)), (1, .inl x1), (3, .inl x3), (4, .inl x4), (5, .inl (gx_w (x5 + 1)))] [] m Q)
    (h8 : (x5 < 40) → (aYr (m 87) x5) → ((m 87 (gx_w (240 + x5)).toNat) ≠ x1) → (¬ (aPw (m 87) x5)) → ((gx_and (m 87 (gx_w (80 + x5)).toNat) x4) ≠ 0) → hxn xs n yp_m224 0 [(0, .inr (.inl 86)), (1, .inl x5), (2, .inl (m 87 (gx_w (240 + x5)).toNat))] [] m (fun r m' => hxn xs n yp_m236 157 [(0, .inr (.inl 86)), (1, .inl x1), (3, .inl x3), (4, .inl x4), (5, .inl x5)] (hrs r ++ []) m' Q))
    (h9 : (x5 < 40) → (aYr (m 87) x5) → ((m 87 (gx_w (240 + x5)).toNat) ≠ x1) → (¬ (aPw (m 87) x5)) → ((gx_and (m 87 (gx_w (80 + x5)).toNat) x4) = 0) → hxn xs n yp_m236 81 [(0, .inr (.inl 86)), (1, .inl x1), (3, .inl x3), (4, .inl x4), (5, .inl (gx_w (x5 + 1)))] [] m Q)
    (h10 : (x5 < 40) → (¬ (aYr (m 87) x5)) → hxn xs n yp_m236 81 [(0, .inr (.inl 86)), (1, .inl x1), (3, .inl x3), (4, .inl x4), (5, .inl (gx_w (x5 + 1)))] [] m Q) : hxn xs (n + 1) yp_m236 81 [(0, .inr (.inl 86)), (1, .inl x1), (3, .inl x3), (4, .inl x4), (5, .inl x5)] [] m Q := by
  refine hx_blks (npc := 85) (L' := [(0, .inr (.inl 86)), (1, .inl x1), (3, .inl x3), (4, .inl x4), (5, .inl x5)]) (st' := [.inl 40, .inl x5]) (m' := m) ((81, .iload 5, 2, 0, 0, 0, 0), (0, 0, 0)) [((83, .bipush 40, 2, 0, 0, 0, 0), (0, 0, 0))] (by decide +kernel) rfl ?_
  refine hx_cmp .ge 196 (by decide +kernel) (fun c1 => ?_) (fun c1 => ?_)
  · have c1 : 40 ≤ x5 := c1
    refine hx_blk (npc := 206) (L' := [(0, .inr (.inl 86)), (1, .inl x1), (3, .inl x3), (4, .inl x4), (5, .inl x5)]) (st' := [.inl 1000000000, .inl (m 111 (x4).toNat)]) (m' := m) [((196, .aload_n 0, 1, 0, 0, 0, 0), (0, 0, 0)), ((197, .getfield 83, 3, 10, 36, 5149, 0), (1, 86, 111)), ((200, .iload 4, 2, 0, 0, 0, 0), (0, 0, 0)), ((202, .iaload, 1, 0, 0, 0, 0), (0, 111, 0)), ((203, .ldc_w 333, 3, 0, 0, 7076, 1000000000), (0, 0, 0))] (by decide +kernel) rfl ?_
    refine hx_cmp .ne 212 (by decide +kernel) (fun c2 => ?_) (fun c2 => ?_)
    · have c2 : (m 111 (x4).toNat) ≠ 1000000000 := c2
      refine hx_blk (npc := 225) (L' := [(0, .inr (.inl 86)), (1, .inl x1), (3, .inl x3), (4, .inl x4), (5, .inl (gx_w (Int.tdiv (m 111 (x4).toNat) 64)))]) (st' := [.inl x3]) (m' := m) [((212, .aload_n 0, 1, 0, 0, 0, 0), (0, 0, 0)), ((213, .getfield 83, 3, 10, 36, 5149, 0), (1, 86, 111)), ((216, .iload 4, 2, 0, 0, 0, 0), (0, 0, 0)), ((218, .iaload, 1, 0, 0, 0, 0), (0, 111, 0)), ((219, .bipush 64, 2, 0, 0, 0, 0), (0, 0, 0)), ((221, .idiv, 1, 0, 0, 0, 0), (0, 0, 0)), ((222, .istore 5, 2, 0, 0, 0, 0), (0, 0, 0)), ((224, .iload_n 3, 1, 0, 0, 0, 0), (0, 0, 0))] (by decide +kernel) rfl ?_
      refine hx_if .ne 233 (by decide +kernel) (fun c3 => ?_) (fun c3 => ?_)
      · have c3 : x3 ≠ 0 := c3
        refine hx_blk (npc := 235) (L' := [(0, .inr (.inl 86)), (1, .inl x1), (3, .inl x3), (4, .inl x4), (5, .inl (gx_w (Int.tdiv (m 111 (x4).toNat) 64)))]) (st' := [.inl 1, .inl x3]) (m' := m) [((233, .iload_n 3, 1, 0, 0, 0, 0), (0, 0, 0)), ((234, .iconst 1, 1, 0, 0, 0, 0), (0, 0, 0))] (by decide +kernel) rfl ?_
        refine hx_cmp .ne 251 (by decide +kernel) (fun c4 => ?_) (fun c4 => ?_)
        · have c4 : x3 ≠ 1 := c4
          refine hx_blk (npc := 263) (L' := [(0, .inr (.inl 86)), (1, .inl x1), (3, .inl x3), (4, .inl x4), (5, .inl (gx_w (Int.tdiv (m 111 (x4).toNat) 64)))]) (st' := [.inl (m 87 (gx_w (1120 + x1)).toNat), .inl (gx_w (Int.tdiv (m 111 (x4).toNat) 64))]) (m' := m) [((251, .iload 5, 2, 0, 0, 0, 0), (0, 0, 0)), ((253, .aload_n 0, 1, 0, 0, 0, 0), (0, 0, 0)), ((254, .getfield 7, 3, 10, 0, 5113, 0), (1, 86, 87)), ((257, .sipush 1120, 3, 0, 0, 0, 0), (0, 0, 0)), ((260, .iload_n 1, 1, 0, 0, 0, 0), (0, 0, 0)), ((261, .iadd, 1, 0, 0, 0, 0), (0, 0, 0)), ((262, .iaload, 1, 0, 0, 0, 0), (0, 87, 0))] (by decide +kernel) rfl ?_
          refine hx_cmp .gt 270 (by decide +kernel) (fun c5 => ?_) (fun c5 => ?_)
          · have c5 : (m 87 (gx_w (1120 + x1)).toNat) < (gx_w (Int.tdiv (m 111 (x4).toNat) 64)) := c5
            refine hx_blk (npc := 271) (L' := [(0, .inr (.inl 86)), (1, .inl x1), (3, .inl x3), (4, .inl x4), (5, .inl (gx_w (Int.tdiv (m 111 (x4).toNat) 64)))]) (st' := [.inl 0]) (m' := m) [((270, .iconst 0, 1, 0, 0, 0, 0), (0, 0, 0))] (by decide +kernel) rfl ?_
            exact hx_reti (by decide +kernel) (h1 c1 c2 c3 c4 c5)
          · have c5 : (gx_w (Int.tdiv (m 111 (x4).toNat) 64)) ≤ (m 87 (gx_w (1120 + x1)).toNat) := by have h : ¬ ((m 87 (gx_w (1120 + x1)).toNat) < (gx_w (Int.tdiv (m 111 (x4).toNat) 64))) := c5; omega
            refine hx_blk (npc := 271) (L' := [(0, .inr (.inl 86)), (1, .inl x1), (3, .inl x3), (4, .inl x4), (5, .inl (gx_w (Int.tdiv (m 111 (x4).toNat) 64)))]) (st' := [.inl 1]) (m' := m) [((266, .iconst 1, 1, 0, 0, 0, 0), (0, 0, 0)), ((267, .goto 4, 3, 0, 0, 0, 0), (0, 0, 0))] (by decide +kernel) rfl ?_
            exact hx_reti (by decide +kernel) (h2 c1 c2 c3 c4 c5)
        · have c4 : x3 = 1 := by have h : ¬ (x3 ≠ 1) := c4; omega
          refine hx_blk (npc := 271) (L' := [(0, .inr (.inl 86)), (1, .inl x1), (3, .inl x3), (4, .inl x4), (5, .inl (gx_w (Int.tdiv (m 111 (x4).toNat) 64)))]) (st' := [.inl (Int.tmod (m 111 (x4).toNat) 64)]) (m' := m) [((238, .aload_n 0, 1, 0, 0, 0, 0), (0, 0, 0)), ((239, .getfield 83, 3, 10, 36, 5149, 0), (1, 86, 111)), ((242, .iload 4, 2, 0, 0, 0, 0), (0, 0, 0)), ((244, .iaload, 1, 0, 0, 0, 0), (0, 111, 0)), ((245, .bipush 64, 2, 0, 0, 0, 0), (0, 0, 0)), ((247, .irem, 1, 0, 0, 0, 0), (0, 0, 0)), ((248, .goto 23, 3, 0, 0, 0, 0), (0, 0, 0))] (by decide +kernel) rfl ?_
          exact hx_reti (by decide +kernel) (h3 c1 c2 c3 c4)
      · have c3 : x3 = 0 := by have h : ¬ (x3 ≠ 0) := c3; omega
        refine hx_blk (npc := 271) (L' := [(0, .inr (.inl 86)), (1, .inl x1), (3, .inl x3), (4, .inl x4), (5, .inl (gx_w (Int.tdiv (m 111 (x4).toNat) 64)))]) (st' := [.inl (gx_w (Int.tdiv (m 111 (x4).toNat) 64))]) (m' := m) [((228, .iload 5, 2, 0, 0, 0, 0), (0, 0, 0)), ((230, .goto 41, 3, 0, 0, 0, 0), (0, 0, 0))] (by decide +kernel) rfl ?_
        exact hx_reti (by decide +kernel) (h4 c1 c2 c3)
    · have c2 : (m 111 (x4).toNat) = 1000000000 := by have h : ¬ ((m 111 (x4).toNat) ≠ 1000000000) := c2; omega
      refine hx_blk (npc := 211) (L' := [(0, .inr (.inl 86)), (1, .inl x1), (3, .inl x3), (4, .inl x4), (5, .inl x5)]) (st' := [.inl (-2)]) (m' := m) [((209, .bipush (-2), 2, 0, 0, 0, 0), (0, 0, 0))] (by decide +kernel) rfl ?_
      exact hx_reti (by decide +kernel) (h5 c1 c2)
  · have c1 : x5 < 40 := by have h : ¬ (40 ≤ x5) := c1; omega
    refine hx_blk (npc := 91) (L' := [(0, .inr (.inl 86)), (1, .inl x1), (3, .inl x3), (4, .inl x4), (5, .inl x5)]) (st' := [.inl x5, .inr (.inl 86)]) (m' := m) [((88, .aload_n 0, 1, 0, 0, 0, 0), (0, 0, 0)), ((89, .iload 5, 2, 0, 0, 0, 0), (0, 0, 0))] (by decide +kernel) rfl ?_
    refine hx_call (E := (91, .invokevirtual 269, 3, 196, 0, 6156, 0)) (M' := yp_m196) [.inr (.inl 86), .inl x5] [] rfl (by decide +kernel) rfl ⟨rfl, rfl⟩ rfl rfl (hs196 (fun c2 => ?_) (fun c2 => ?_))
    · have c2 : aYr (m 87) x5 := c2
      show hxn xs n yp_m236 94 [(0, .inr (.inl 86)), (1, .inl x1), (3, .inl x3), (4, .inl x4), (5, .inl x5)] [.inl 1] m Q
      refine hx_if .eq 190 (by decide +kernel) (fun c3 => ?_) (fun c3 => ?_)
      · have c3 : (1 : Int) = 0 := c3
        exfalso; omega
      · have c3 : (1 : Int) ≠ 0 := c3
        refine hx_blk (npc := 109) (L' := [(0, .inr (.inl 86)), (1, .inl x1), (3, .inl x3), (4, .inl x4), (5, .inl x5)]) (st' := [.inl x1, .inl (m 87 (gx_w (240 + x5)).toNat)]) (m' := m) [((97, .aload_n 0, 1, 0, 0, 0, 0), (0, 0, 0)), ((98, .getfield 7, 3, 10, 0, 5113, 0), (1, 86, 87)), ((101, .sipush 240, 3, 0, 0, 0, 0), (0, 0, 0)), ((104, .iload 5, 2, 0, 0, 0, 0), (0, 0, 0)), ((106, .iadd, 1, 0, 0, 0, 0), (0, 0, 0)), ((107, .iaload, 1, 0, 0, 0, 0), (0, 87, 0)), ((108, .iload_n 1, 1, 0, 0, 0, 0), (0, 0, 0))] (by decide +kernel) rfl ?_
        refine hx_cmp .eq 190 (by decide +kernel) (fun c3 => ?_) (fun c3 => ?_)
        · have c3 : (m 87 (gx_w (240 + x5)).toNat) = x1 := c3
          refine hx_blk (npc := 81) (L' := [(0, .inr (.inl 86)), (1, .inl x1), (3, .inl x3), (4, .inl x4), (5, .inl (gx_w (x5 + 1)))]) (st' := []) (m' := m) [((190, .iinc 5 1, 3, 0, 0, 0, 0), (0, 0, 0)), ((193, .goto (-112), 3, 0, 0, 0, 0), (0, 0, 0))] (by decide +kernel) rfl ?_
          exact hx_pick [0, 1, 3, 4, 5] (h6 c1 c2 c3)
        · have c3 : (m 87 (gx_w (240 + x5)).toNat) ≠ x1 := c3
          refine hx_blk (npc := 115) (L' := [(0, .inr (.inl 86)), (1, .inl x1), (3, .inl x3), (4, .inl x4), (5, .inl x5)]) (st' := [.inl x5, .inr (.inl 86)]) (m' := m) [((112, .aload_n 0, 1, 0, 0, 0, 0), (0, 0, 0)), ((113, .iload 5, 2, 0, 0, 0, 0), (0, 0, 0))] (by decide +kernel) rfl ?_
          refine hx_call (E := (115, .invokevirtual 275, 3, 200, 0, 6171, 0)) (M' := yp_m200) [.inr (.inl 86), .inl x5] [] rfl (by decide +kernel) rfl ⟨rfl, rfl⟩ rfl rfl (hs200 (fun c4 => ?_) (fun c4 => ?_))
          · have c4 : aPw (m 87) x5 := c4
            show hxn xs n yp_m236 118 [(0, .inr (.inl 86)), (1, .inl x1), (3, .inl x3), (4, .inl x4), (5, .inl x5)] [.inl 1] m Q
            refine hx_if .ne 190 (by decide +kernel) (fun c5 => ?_) (fun c5 => ?_)
            · have c5 : (1 : Int) ≠ 0 := c5
              refine hx_blk (npc := 81) (L' := [(0, .inr (.inl 86)), (1, .inl x1), (3, .inl x3), (4, .inl x4), (5, .inl (gx_w (x5 + 1)))]) (st' := []) (m' := m) [((190, .iinc 5 1, 3, 0, 0, 0, 0), (0, 0, 0)), ((193, .goto (-112), 3, 0, 0, 0, 0), (0, 0, 0))] (by decide +kernel) rfl ?_
              exact hx_pick [0, 1, 3, 4, 5] (h7 c1 c2 c3 c4)
            · have c5 : (1 : Int) = 0 := by have h : ¬ ((1 : Int) ≠ 0) := c5; omega
              exfalso; omega
          · have c4 : ¬ (aPw (m 87) x5) := c4
            show hxn xs n yp_m236 118 [(0, .inr (.inl 86)), (1, .inl x1), (3, .inl x3), (4, .inl x4), (5, .inl x5)] [.inl 0] m Q
            refine hx_if .ne 190 (by decide +kernel) (fun c5 => ?_) (fun c5 => ?_)
            · have c5 : (0 : Int) ≠ 0 := c5
              exfalso; omega
            · have c5 : (0 : Int) = 0 := by have h : ¬ ((0 : Int) ≠ 0) := c5; omega
              refine hx_blk (npc := 134) (L' := [(0, .inr (.inl 86)), (1, .inl x1), (3, .inl x3), (4, .inl x4), (5, .inl x5)]) (st' := [.inl (gx_and (m 87 (gx_w (80 + x5)).toNat) x4)]) (m' := m) [((121, .aload_n 0, 1, 0, 0, 0, 0), (0, 0, 0)), ((122, .getfield 7, 3, 10, 0, 5113, 0), (1, 86, 87)), ((125, .bipush 80, 2, 0, 0, 0, 0), (0, 0, 0)), ((127, .iload 5, 2, 0, 0, 0, 0), (0, 0, 0)), ((129, .iadd, 1, 0, 0, 0, 0), (0, 0, 0)), ((130, .iaload, 1, 0, 0, 0, 0), (0, 87, 0)), ((131, .iload 4, 2, 0, 0, 0, 0), (0, 0, 0)), ((133, .iand, 1, 0, 0, 0, 0), (0, 0, 0))] (by decide +kernel) rfl ?_
              refine hx_if .ne 140 (by decide +kernel) (fun c5 => ?_) (fun c5 => ?_)
              · have c5 : (gx_and (m 87 (gx_w (80 + x5)).toNat) x4) ≠ 0 := c5
                refine hx_blk (npc := 154) (L' := [(0, .inr (.inl 86)), (1, .inl x1), (3, .inl x3), (4, .inl x4), (5, .inl x5)]) (st' := [.inl (m 87 (gx_w (240 + x5)).toNat), .inl x5, .inr (.inl 86)]) (m' := m) [((140, .aload_n 0, 1, 0, 0, 0, 0), (0, 0, 0)), ((141, .iload 5, 2, 0, 0, 0, 0), (0, 0, 0)), ((143, .aload_n 0, 1, 0, 0, 0, 0), (0, 0, 0)), ((144, .getfield 7, 3, 10, 0, 5113, 0), (1, 86, 87)), ((147, .sipush 240, 3, 0, 0, 0, 0), (0, 0, 0)), ((150, .iload 5, 2, 0, 0, 0, 0), (0, 0, 0)), ((152, .iadd, 1, 0, 0, 0, 0), (0, 0, 0)), ((153, .iaload, 1, 0, 0, 0, 0), (0, 87, 0))] (by decide +kernel) rfl ?_
                exact hx_call (E := (154, .invokevirtual 312, 3, 224, 0, 7024, 0)) (M' := yp_m224) [.inr (.inl 86), .inl x5, .inl (m 87 (gx_w (240 + x5)).toNat)] [] rfl (by decide +kernel) rfl ⟨rfl, rfl⟩ rfl rfl (hx_mono (h8 c1 c2 c3 c4 c5) (fun r m' h' => hx_pick [0, 1, 3, 4, 5] h'))
              · have c5 : (gx_and (m 87 (gx_w (80 + x5)).toNat) x4) = 0 := by have h : ¬ ((gx_and (m 87 (gx_w (80 + x5)).toNat) x4) ≠ 0) := c5; omega
                refine hx_blk (npc := 81) (L' := [(0, .inr (.inl 86)), (1, .inl x1), (3, .inl x3), (4, .inl x4), (5, .inl (gx_w (x5 + 1)))]) (st' := []) (m' := m) [((137, .goto 53, 3, 0, 0, 0, 0), (0, 0, 0)), ((190, .iinc 5 1, 3, 0, 0, 0, 0), (0, 0, 0)), ((193, .goto (-112), 3, 0, 0, 0, 0), (0, 0, 0))] (by decide +kernel) rfl ?_
                exact hx_pick [0, 1, 3, 4, 5] (h9 c1 c2 c3 c4 c5)
    · have c2 : ¬ (aYr (m 87) x5) := c2
      show hxn xs n yp_m236 94 [(0, .inr (.inl 86)), (1, .inl x1), (3, .inl x3), (4, .inl x4), (5, .inl x5)] [.inl 0] m Q
      refine hx_if .eq 190 (by decide +kernel) (fun c3 => ?_) (fun c3 => ?_)
      · have c3 : (0 : Int) = 0 := c3
        refine hx_blk (npc := 81) (L' := [(0, .inr (.inl 86)), (1, .inl x1), (3, .inl x3), (4, .inl x4), (5, .inl (gx_w (x5 + 1)))]) (st' := []) (m' := m) [((190, .iinc 5 1, 3, 0, 0, 0, 0), (0, 0, 0)), ((193, .goto (-112), 3, 0, 0, 0, 0), (0, 0, 0))] (by decide +kernel) rfl ?_
        exact hx_pick [0, 1, 3, 4, 5] (h10 c1 c2)
      · have c3 : (0 : Int) ≠ 0 := c3
        exfalso; omega

/-- taught from 157 on -/
theorem hr236_157 {xs : List Int32} {n : Nat} {Q : hQ} {m : gx_M} {x1 x3 x4 x5 s0 : Int}
    (h1 : hxn xs n yp_m201 0 [(0, .inr (.inl 86)), (1, .inl x5), (2, .inl x1), (3, .inl s0)] [] m (fun r m' => hxn xs n yp_m236 168 [(0, .inr (.inl 86)), (1, .inl x1), (3, .inl x3), (4, .inl x4), (5, .inl x5), (6, .inl s0)] (hrs r ++ []) m' Q)) : hxn xs (n + 1) yp_m236 157 [(0, .inr (.inl 86)), (1, .inl x1), (3, .inl x3), (4, .inl x4), (5, .inl x5)] [.inl s0] m Q := by
  refine hx_blks (npc := 165) (L' := [(0, .inr (.inl 86)), (1, .inl x1), (3, .inl x3), (4, .inl x4), (5, .inl x5), (6, .inl s0)]) (st' := [.inl s0, .inl x1, .inl x5, .inr (.inl 86)]) (m' := m) ((157, .istore 6, 2, 0, 0, 0, 0), (0, 0, 0)) [((159, .aload_n 0, 1, 0, 0, 0, 0), (0, 0, 0)), ((160, .iload 5, 2, 0, 0, 0, 0), (0, 0, 0)), ((162, .iload_n 1, 1, 0, 0, 0, 0), (0, 0, 0)), ((163, .iload 6, 2, 0, 0, 0, 0), (0, 0, 0))] (by decide +kernel) rfl ?_
  exact hx_call (E := (165, .invokevirtual 278, 3, 201, 0, 6175, 0)) (M' := yp_m201) [.inr (.inl 86), .inl x5, .inl x1, .inl s0] [] rfl (by decide +kernel) rfl ⟨rfl, rfl⟩ rfl rfl (hx_mono h1 (fun r m' h' => hx_pick [0, 1, 3, 4, 5, 6] h'))

/-- taught from 168 on -/
theorem hr236_168 {xs : List Int32} {n : Nat} {Q : hQ} {m : gx_M} {x1 x3 x4 x5 x6 s0 : Int}
    (h1 : (s0 ≠ 0) → hxn xs n yp_m236 81 [(0, .inr (.inl 86)), (1, .inl x1), (3, .inl x3), (4, .inl x4), (5, .inl (gx_w (x5 + 1)))] [] m Q)
    (h2 : (s0 = 0) → hxn xs n yp_m237 0 [(0, .inr (.inl 86)), (1, .inl (gx_and (m 87 (gx_w (80 + x5)).toNat) x4)), (2, .inl x6)] [] m (fun r m' => hxn xs n yp_m236 190 [(0, .inr (.inl 86)), (1, .inl x1), (3, .inl x3), (4, .inl x4), (5, .inl x5)] (hrs r ++ []) m' Q)) : hxn xs (n + 1) yp_m236 168 [(0, .inr (.inl 86)), (1, .inl x1), (3, .inl x3), (4, .inl x4), (5, .inl x5), (6, .inl x6)] [.inl s0] m Q := by
  refine hx_ifs .ne 190 (by decide +kernel) (fun c1 => ?_) (fun c1 => ?_)
  · have c1 : s0 ≠ 0 := c1
    refine hx_blk (npc := 81) (L' := [(0, .inr (.inl 86)), (1, .inl x1), (3, .inl x3), (4, .inl x4), (5, .inl (gx_w (x5 + 1))), (6, .inl x6)]) (st' := []) (m' := m) [((190, .iinc 5 1, 3, 0, 0, 0, 0), (0, 0, 0)), ((193, .goto (-112), 3, 0, 0, 0, 0), (0, 0, 0))] (by decide +kernel) rfl ?_
    exact hx_pick [0, 1, 3, 4, 5] (h1 c1)
  · have c1 : s0 = 0 := by have h : ¬ (s0 ≠ 0) := c1; omega
    refine hx_blk (npc := 187) (L' := [(0, .inr (.inl 86)), (1, .inl x1), (3, .inl x3), (4, .inl x4), (5, .inl x5), (6, .inl x6)]) (st' := [.inl x6, .inl (gx_and (m 87 (gx_w (80 + x5)).toNat) x4), .inr (.inl 86)]) (m' := m) [((171, .aload_n 0, 1, 0, 0, 0, 0), (0, 0, 0)), ((172, .aload_n 0, 1, 0, 0, 0, 0), (0, 0, 0)), ((173, .getfield 7, 3, 10, 0, 5113, 0), (1, 86, 87)), ((176, .bipush 80, 2, 0, 0, 0, 0), (0, 0, 0)), ((178, .iload 5, 2, 0, 0, 0, 0), (0, 0, 0)), ((180, .iadd, 1, 0, 0, 0, 0), (0, 0, 0)), ((181, .iaload, 1, 0, 0, 0, 0), (0, 87, 0)), ((182, .iload 4, 2, 0, 0, 0, 0), (0, 0, 0)), ((184, .iand, 1, 0, 0, 0, 0), (0, 0, 0)), ((185, .iload 6, 2, 0, 0, 0, 0), (0, 0, 0))] (by decide +kernel) rfl ?_
    exact hx_call (E := (187, .invokevirtual 334, 3, 237, 0, 7077, 0)) (M' := yp_m237) [.inr (.inl 86), .inl (gx_and (m 87 (gx_w (80 + x5)).toNat) x4), .inl x6] [] rfl (by decide +kernel) rfl ⟨rfl, rfl⟩ rfl rfl (hx_mono (h2 c1) (fun r m' h' => hx_pick [0, 1, 3, 4, 5] h'))

/-- taught from 190 on -/
theorem hr236_190 {xs : List Int32} {n : Nat} {Q : hQ} {m : gx_M} {x1 x3 x4 x5 : Int}
    (h1 : hxn xs n yp_m236 81 [(0, .inr (.inl 86)), (1, .inl x1), (3, .inl x3), (4, .inl x4), (5, .inl (gx_w (x5 + 1)))] [] m Q) : hxn xs (n + 1) yp_m236 190 [(0, .inr (.inl 86)), (1, .inl x1), (3, .inl x3), (4, .inl x4), (5, .inl x5)] [] m Q := by
  refine hx_blks (npc := 81) (L' := [(0, .inr (.inl 86)), (1, .inl x1), (3, .inl x3), (4, .inl x4), (5, .inl (gx_w (x5 + 1)))]) (st' := []) (m' := m) ((190, .iinc 5 1, 3, 0, 0, 0, 0), (0, 0, 0)) [((193, .goto (-112), 3, 0, 0, 0, 0), (0, 0, 0))] (by decide +kernel) rfl ?_
  exact hx_pick [0, 1, 3, 4, 5] h1

