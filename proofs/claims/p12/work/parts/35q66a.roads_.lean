section
/-! worth, may: roads -/
/-- worth from 0 on -/
theorem hr81_0 {xs : List Int32} {n : Nat} {Q : hQ} {m : gx_M} {x1 x2 : Int}
    (h1 : (cYear 5 m x1) → (cPers 5 m x2) → hxn xs n yp_m82 0 [(0, .inr (.inl 44)), (1, .inr (.inl 5)), (2, .inl 118), (3, .inl x1), (4, .inl x2), (5, .inl 0)] [] m (fun r m' => hxn xs n yp_m81 40 [] (hrs r ++ []) m' Q))
    (h2 : (cYear 5 m x1) → (¬ (cPers 5 m x2)) → Q (some (.inl (-1))) m)
    (h3 : (¬ (cYear 5 m x1)) → Q (some (.inl (-1))) m) : hxn xs (n + 1) yp_m81 0 [(0, .inr (.inl 0)), (1, .inl x1), (2, .inl x2)] [] m Q := by
  refine hx_blks (npc := 5) (L' := [(0, .inr (.inl 0)), (1, .inl x1), (2, .inl x2)]) (st' := [.inl x1, .inr (.inl 5)]) (m' := m) ((0, .aload_n 0, 1, 0, 0, 0, 0), (0, 0, 0)) [((1, .getfield 26, 3, 9, 2, 2121, 0), (1, 0, 5)), ((4, .iload_n 1, 1, 0, 0, 0, 0), (0, 0, 0))] (by decide +kernel) rfl ?_
  refine hx_call (E := (5, .invokevirtual 156, 3, 17, 0, 3202, 0)) (M' := yp_m17) [.inr (.inl 5), .inl x1] [] rfl (by decide +kernel) rfl ⟨rfl, rfl⟩ rfl rfl (hs17_5 (fun c1 => ?_) (fun c1 => ?_))
  · have c1 : cYear 5 m x1 := c1
    show hxn xs n yp_m81 8 [(0, .inr (.inl 0)), (1, .inl x1), (2, .inl x2)] [.inl 1] m Q
    refine hx_if .eq 22 (by decide +kernel) (fun c2 => ?_) (fun c2 => ?_)
    · have c2 : (1 : Int) = 0 := c2
      exfalso; omega
    · have c2 : (1 : Int) ≠ 0 := c2
      refine hx_blk (npc := 16) (L' := [(0, .inr (.inl 0)), (1, .inl x1), (2, .inl x2)]) (st' := [.inl x2, .inr (.inl 5)]) (m' := m) [((11, .aload_n 0, 1, 0, 0, 0, 0), (0, 0, 0)), ((12, .getfield 26, 3, 9, 2, 2121, 0), (1, 0, 5)), ((15, .iload_n 2, 1, 0, 0, 0, 0), (0, 0, 0))] (by decide +kernel) rfl ?_
      refine hx_call (E := (16, .invokevirtual 94, 3, 13, 0, 2171, 0)) (M' := yp_m13) [.inr (.inl 5), .inl x2] [] rfl (by decide +kernel) rfl ⟨rfl, rfl⟩ rfl rfl (hs13_5 (fun c2 => ?_) (fun c2 => ?_))
      · have c2 : cPers 5 m x2 := c2
        show hxn xs n yp_m81 19 [(0, .inr (.inl 0)), (1, .inl x1), (2, .inl x2)] [.inl 1] m Q
        refine hx_if .ne 24 (by decide +kernel) (fun c3 => ?_) (fun c3 => ?_)
        · have c3 : (1 : Int) ≠ 0 := c3
          refine hx_blk (npc := 37) (L' := [(0, .inr (.inl 0)), (1, .inl x1), (2, .inl x2)]) (st' := [.inl 0, .inl x2, .inl x1, .inl 118, .inr (.inl 5), .inr (.inl 44)]) (m' := m) [((24, .aload_n 0, 1, 0, 0, 0, 0), (0, 0, 0)), ((25, .getfield 39, 3, 9, 5, 2124, 0), (1, 0, 44)), ((28, .aload_n 0, 1, 0, 0, 0, 0), (0, 0, 0)), ((29, .getfield 26, 3, 9, 2, 2121, 0), (1, 0, 5)), ((32, .bipush 118, 2, 0, 0, 0, 0), (0, 0, 0)), ((34, .iload_n 1, 1, 0, 0, 0, 0), (0, 0, 0)), ((35, .iload_n 2, 1, 0, 0, 0, 0), (0, 0, 0)), ((36, .iconst 0, 1, 0, 0, 0, 0), (0, 0, 0))] (by decide +kernel) rfl ?_
          exact hx_call (E := (37, .invokevirtual 201, 3, 82, 0, 4003, 0)) (M' := yp_m82) [.inr (.inl 44), .inr (.inl 5), .inl 118, .inl x1, .inl x2, .inl 0] [] rfl (by decide +kernel) rfl ⟨rfl, rfl⟩ rfl rfl (hx_mono (h1 c1 c2) (fun r m' h' => hx_pick [] h'))
        · have c3 : (1 : Int) = 0 := by have h : ¬ ((1 : Int) ≠ 0) := c3; omega
          exfalso; omega
      · have c2 : ¬ (cPers 5 m x2) := c2
        show hxn xs n yp_m81 19 [(0, .inr (.inl 0)), (1, .inl x1), (2, .inl x2)] [.inl 0] m Q
        refine hx_if .ne 24 (by decide +kernel) (fun c3 => ?_) (fun c3 => ?_)
        · have c3 : (0 : Int) ≠ 0 := c3
          exfalso; omega
        · have c3 : (0 : Int) = 0 := by have h : ¬ ((0 : Int) ≠ 0) := c3; omega
          refine hx_blk (npc := 23) (L' := [(0, .inr (.inl 0)), (1, .inl x1), (2, .inl x2)]) (st' := [.inl (-1)]) (m' := m) [((22, .iconst (-1), 1, 0, 0, 0, 0), (0, 0, 0))] (by decide +kernel) rfl ?_
          exact hx_reti (by decide +kernel) (h2 c1 c2)
  · have c1 : ¬ (cYear 5 m x1) := c1
    show hxn xs n yp_m81 8 [(0, .inr (.inl 0)), (1, .inl x1), (2, .inl x2)] [.inl 0] m Q
    refine hx_if .eq 22 (by decide +kernel) (fun c2 => ?_) (fun c2 => ?_)
    · have c2 : (0 : Int) = 0 := c2
      refine hx_blk (npc := 23) (L' := [(0, .inr (.inl 0)), (1, .inl x1), (2, .inl x2)]) (st' := [.inl (-1)]) (m' := m) [((22, .iconst (-1), 1, 0, 0, 0, 0), (0, 0, 0))] (by decide +kernel) rfl ?_
      exact hx_reti (by decide +kernel) (h3 c1)
    · have c2 : (0 : Int) ≠ 0 := c2
      exfalso; omega

/-- worth from 40 on -/
theorem hr81_40 {xs : List Int32} {n : Nat} {Q : hQ} {m : gx_M} {s0 : Int}
    (h1 : Q (some (.inl s0)) m) : hxn xs (n + 1) yp_m81 40 [] [.inl s0] m Q := by
  exact hx_reti (by decide +kernel) h1

/-- may from 0 on -/
theorem hr84_0 {xs : List Int32} {n : Nat} {Q : hQ} {m : gx_M} {x1 x2 x3 : Int}
    (h1 : (cYear 5 m x1) → (cPers 5 m x2) → (x3 < 0) → Q (some (.inl (-1))) m)
    (h2 : (cYear 5 m x1) → (cPers 5 m x2) → (0 ≤ x3) → (x3 ≤ 9999) → hxn xs n yp_m55 0 [(0, .inr (.inl 44)), (1, .inr (.inl 5)), (2, .inl x1), (3, .inl x2), (4, .inl x3)] [] m (fun r m' => hxn xs n yp_m84 49 [] (hrs r ++ []) m' Q))
    (h3 : (cYear 5 m x1) → (cPers 5 m x2) → (0 ≤ x3) → (9999 < x3) → Q (some (.inl (-1))) m)
    (h4 : (cYear 5 m x1) → (¬ (cPers 5 m x2)) → Q (some (.inl (-1))) m)
    (h5 : (¬ (cYear 5 m x1)) → Q (some (.inl (-1))) m) : hxn xs (n + 1) yp_m84 0 [(0, .inr (.inl 0)), (1, .inl x1), (2, .inl x2), (3, .inl x3)] [] m Q := by
  refine hx_blks (npc := 5) (L' := [(0, .inr (.inl 0)), (1, .inl x1), (2, .inl x2), (3, .inl x3)]) (st' := [.inl x1, .inr (.inl 5)]) (m' := m) ((0, .aload_n 0, 1, 0, 0, 0, 0), (0, 0, 0)) [((1, .getfield 26, 3, 9, 2, 2121, 0), (1, 0, 5)), ((4, .iload_n 1, 1, 0, 0, 0, 0), (0, 0, 0))] (by decide +kernel) rfl ?_
  refine hx_call (E := (5, .invokevirtual 156, 3, 17, 0, 3202, 0)) (M' := yp_m17) [.inr (.inl 5), .inl x1] [] rfl (by decide +kernel) rfl ⟨rfl, rfl⟩ rfl rfl (hs17_5 (fun c1 => ?_) (fun c1 => ?_))
  · have c1 : cYear 5 m x1 := c1
    show hxn xs n yp_m84 8 [(0, .inr (.inl 0)), (1, .inl x1), (2, .inl x2), (3, .inl x3)] [.inl 1] m Q
    refine hx_if .eq 33 (by decide +kernel) (fun c2 => ?_) (fun c2 => ?_)
    · have c2 : (1 : Int) = 0 := c2
      exfalso; omega
    · have c2 : (1 : Int) ≠ 0 := c2
      refine hx_blk (npc := 16) (L' := [(0, .inr (.inl 0)), (1, .inl x1), (2, .inl x2), (3, .inl x3)]) (st' := [.inl x2, .inr (.inl 5)]) (m' := m) [((11, .aload_n 0, 1, 0, 0, 0, 0), (0, 0, 0)), ((12, .getfield 26, 3, 9, 2, 2121, 0), (1, 0, 5)), ((15, .iload_n 2, 1, 0, 0, 0, 0), (0, 0, 0))] (by decide +kernel) rfl ?_
      refine hx_call (E := (16, .invokevirtual 94, 3, 13, 0, 2171, 0)) (M' := yp_m13) [.inr (.inl 5), .inl x2] [] rfl (by decide +kernel) rfl ⟨rfl, rfl⟩ rfl rfl (hs13_5 (fun c2 => ?_) (fun c2 => ?_))
      · have c2 : cPers 5 m x2 := c2
        show hxn xs n yp_m84 19 [(0, .inr (.inl 0)), (1, .inl x1), (2, .inl x2), (3, .inl x3)] [.inl 1] m Q
        refine hx_if .eq 33 (by decide +kernel) (fun c3 => ?_) (fun c3 => ?_)
        · have c3 : (1 : Int) = 0 := c3
          exfalso; omega
        · have c3 : (1 : Int) ≠ 0 := c3
          refine hx_blk (npc := 23) (L' := [(0, .inr (.inl 0)), (1, .inl x1), (2, .inl x2), (3, .inl x3)]) (st' := [.inl x3]) (m' := m) [((22, .iload_n 3, 1, 0, 0, 0, 0), (0, 0, 0))] (by decide +kernel) rfl ?_
          refine hx_if .lt 33 (by decide +kernel) (fun c3 => ?_) (fun c3 => ?_)
          · have c3 : x3 < 0 := c3
            refine hx_blk (npc := 34) (L' := [(0, .inr (.inl 0)), (1, .inl x1), (2, .inl x2), (3, .inl x3)]) (st' := [.inl (-1)]) (m' := m) [((33, .iconst (-1), 1, 0, 0, 0, 0), (0, 0, 0))] (by decide +kernel) rfl ?_
            exact hx_reti (by decide +kernel) (h1 c1 c2 c3)
          · have c3 : 0 ≤ x3 := by have h : ¬ (x3 < 0) := c3; omega
            refine hx_blk (npc := 30) (L' := [(0, .inr (.inl 0)), (1, .inl x1), (2, .inl x2), (3, .inl x3)]) (st' := [.inl 9999, .inl x3]) (m' := m) [((26, .iload_n 3, 1, 0, 0, 0, 0), (0, 0, 0)), ((27, .sipush 9999, 3, 0, 0, 0, 0), (0, 0, 0))] (by decide +kernel) rfl ?_
            refine hx_cmp .le 35 (by decide +kernel) (fun c4 => ?_) (fun c4 => ?_)
            · have c4 : x3 ≤ 9999 := c4
              refine hx_blk (npc := 46) (L' := [(0, .inr (.inl 0)), (1, .inl x1), (2, .inl x2), (3, .inl x3)]) (st' := [.inl x3, .inl x2, .inl x1, .inr (.inl 5), .inr (.inl 44)]) (m' := m) [((35, .aload_n 0, 1, 0, 0, 0, 0), (0, 0, 0)), ((36, .getfield 39, 3, 9, 5, 2124, 0), (1, 0, 44)), ((39, .aload_n 0, 1, 0, 0, 0, 0), (0, 0, 0)), ((40, .getfield 26, 3, 9, 2, 2121, 0), (1, 0, 5)), ((43, .iload_n 1, 1, 0, 0, 0, 0), (0, 0, 0)), ((44, .iload_n 2, 1, 0, 0, 0, 0), (0, 0, 0)), ((45, .iload_n 3, 1, 0, 0, 0, 0), (0, 0, 0))] (by decide +kernel) rfl ?_
              exact hx_call (E := (46, .invokevirtual 205, 3, 55, 0, 4015, 0)) (M' := yp_m55) [.inr (.inl 44), .inr (.inl 5), .inl x1, .inl x2, .inl x3] [] rfl (by decide +kernel) rfl ⟨rfl, rfl⟩ rfl rfl (hx_mono (h2 c1 c2 c3 c4) (fun r m' h' => hx_pick [] h'))
            · have c4 : 9999 < x3 := by have h : ¬ (x3 ≤ 9999) := c4; omega
              refine hx_blk (npc := 34) (L' := [(0, .inr (.inl 0)), (1, .inl x1), (2, .inl x2), (3, .inl x3)]) (st' := [.inl (-1)]) (m' := m) [((33, .iconst (-1), 1, 0, 0, 0, 0), (0, 0, 0))] (by decide +kernel) rfl ?_
              exact hx_reti (by decide +kernel) (h3 c1 c2 c3 c4)
      · have c2 : ¬ (cPers 5 m x2) := c2
        show hxn xs n yp_m84 19 [(0, .inr (.inl 0)), (1, .inl x1), (2, .inl x2), (3, .inl x3)] [.inl 0] m Q
        refine hx_if .eq 33 (by decide +kernel) (fun c3 => ?_) (fun c3 => ?_)
        · have c3 : (0 : Int) = 0 := c3
          refine hx_blk (npc := 34) (L' := [(0, .inr (.inl 0)), (1, .inl x1), (2, .inl x2), (3, .inl x3)]) (st' := [.inl (-1)]) (m' := m) [((33, .iconst (-1), 1, 0, 0, 0, 0), (0, 0, 0))] (by decide +kernel) rfl ?_
          exact hx_reti (by decide +kernel) (h4 c1 c2)
        · have c3 : (0 : Int) ≠ 0 := c3
          exfalso; omega
  · have c1 : ¬ (cYear 5 m x1) := c1
    show hxn xs n yp_m84 8 [(0, .inr (.inl 0)), (1, .inl x1), (2, .inl x2), (3, .inl x3)] [.inl 0] m Q
    refine hx_if .eq 33 (by decide +kernel) (fun c2 => ?_) (fun c2 => ?_)
    · have c2 : (0 : Int) = 0 := c2
      refine hx_blk (npc := 34) (L' := [(0, .inr (.inl 0)), (1, .inl x1), (2, .inl x2), (3, .inl x3)]) (st' := [.inl (-1)]) (m' := m) [((33, .iconst (-1), 1, 0, 0, 0, 0), (0, 0, 0))] (by decide +kernel) rfl ?_
      exact hx_reti (by decide +kernel) (h5 c1)
    · have c2 : (0 : Int) ≠ 0 := c2
      exfalso; omega

/-- may from 49 on -/
theorem hr84_49 {xs : List Int32} {n : Nat} {Q : hQ} {m : gx_M} {s0 : Int}
    (h1 : (s0 = 0) → Q (some (.inl 1)) m)
    (h2 : (s0 ≠ 0) → Q (some (.inl 0)) m) : hxn xs (n + 1) yp_m84 49 [] [.inl s0] m Q := by
  refine hx_ifs .eq 56 (by decide +kernel) (fun c1 => ?_) (fun c1 => ?_)
  · have c1 : s0 = 0 := c1
    refine hx_blk (npc := 57) (L' := []) (st' := [.inl 1]) (m' := m) [((56, .iconst 1, 1, 0, 0, 0, 0), (0, 0, 0))] (by decide +kernel) rfl ?_
    exact hx_reti (by decide +kernel) (h1 c1)
  · have c1 : s0 ≠ 0 := c1
    refine hx_blk (npc := 57) (L' := []) (st' := [.inl 0]) (m' := m) [((52, .iconst 0, 1, 0, 0, 0, 0), (0, 0, 0)), ((53, .goto 4, 3, 0, 0, 0, 0), (0, 0, 0))] (by decide +kernel) rfl ?_
    exact hx_reti (by decide +kernel) (h2 c1)

/-- worth from 0 on -/
theorem hr223_0 {xs : List Int32} {n : Nat} {Q : hQ} {m : gx_M} {x1 x2 : Int}
    (h1 : (aYr (m 87) x1) → (aPers (m 87) x2) → hxn xs n yp_m224 0 [(0, .inr (.inl 86)), (1, .inl x1), (2, .inl x2)] [] m (fun r m' => hxn xs n yp_m223 22 [] (hrs r ++ []) m' Q))
    (h2 : (aYr (m 87) x1) → (¬ (aPers (m 87) x2)) → Q (some (.inl (-1))) m)
    (h3 : (¬ (aYr (m 87) x1)) → Q (some (.inl (-1))) m) : hxn xs (n + 1) yp_m223 0 [(0, .inr (.inl 86)), (1, .inl x1), (2, .inl x2)] [] m Q := by
  refine hx_blks (npc := 2) (L' := [(0, .inr (.inl 86)), (1, .inl x1), (2, .inl x2)]) (st' := [.inl x1, .inr (.inl 86)]) (m' := m) ((0, .aload_n 0, 1, 0, 0, 0, 0), (0, 0, 0)) [((1, .iload_n 1, 1, 0, 0, 0, 0), (0, 0, 0))] (by decide +kernel) rfl ?_
  refine hx_call (E := (2, .invokevirtual 269, 3, 196, 0, 6156, 0)) (M' := yp_m196) [.inr (.inl 86), .inl x1] [] rfl (by decide +kernel) rfl ⟨rfl, rfl⟩ rfl rfl (hs196 (fun c1 => ?_) (fun c1 => ?_))
  · have c1 : aYr (m 87) x1 := c1
    show hxn xs n yp_m223 5 [(0, .inr (.inl 86)), (1, .inl x1), (2, .inl x2)] [.inl 1] m Q
    refine hx_if .eq 25 (by decide +kernel) (fun c2 => ?_) (fun c2 => ?_)
    · have c2 : (1 : Int) = 0 := c2
      exfalso; omega
    · have c2 : (1 : Int) ≠ 0 := c2
      refine hx_blk (npc := 10) (L' := [(0, .inr (.inl 86)), (1, .inl x1), (2, .inl x2)]) (st' := [.inl x2, .inr (.inl 86)]) (m' := m) [((8, .aload_n 0, 1, 0, 0, 0, 0), (0, 0, 0)), ((9, .iload_n 2, 1, 0, 0, 0, 0), (0, 0, 0))] (by decide +kernel) rfl ?_
      refine hx_call (E := (10, .invokevirtual 113, 3, 164, 0, 6031, 0)) (M' := yp_m164) [.inr (.inl 86), .inl x2] [] rfl (by decide +kernel) rfl ⟨rfl, rfl⟩ rfl rfl (hs164 (fun c2 => ?_) (fun c2 => ?_))
      · have c2 : aPers (m 87) x2 := c2
        show hxn xs n yp_m223 13 [(0, .inr (.inl 86)), (1, .inl x1), (2, .inl x2)] [.inl 1] m Q
        refine hx_if .eq 25 (by decide +kernel) (fun c3 => ?_) (fun c3 => ?_)
        · have c3 : (1 : Int) = 0 := c3
          exfalso; omega
        · have c3 : (1 : Int) ≠ 0 := c3
          refine hx_blk (npc := 19) (L' := [(0, .inr (.inl 86)), (1, .inl x1), (2, .inl x2)]) (st' := [.inl x2, .inl x1, .inr (.inl 86)]) (m' := m) [((16, .aload_n 0, 1, 0, 0, 0, 0), (0, 0, 0)), ((17, .iload_n 1, 1, 0, 0, 0, 0), (0, 0, 0)), ((18, .iload_n 2, 1, 0, 0, 0, 0), (0, 0, 0))] (by decide +kernel) rfl ?_
          exact hx_call (E := (19, .invokevirtual 312, 3, 224, 0, 7024, 0)) (M' := yp_m224) [.inr (.inl 86), .inl x1, .inl x2] [] rfl (by decide +kernel) rfl ⟨rfl, rfl⟩ rfl rfl (hx_mono (h1 c1 c2) (fun r m' h' => hx_pick [] h'))
      · have c2 : ¬ (aPers (m 87) x2) := c2
        show hxn xs n yp_m223 13 [(0, .inr (.inl 86)), (1, .inl x1), (2, .inl x2)] [.inl 0] m Q
        refine hx_if .eq 25 (by decide +kernel) (fun c3 => ?_) (fun c3 => ?_)
        · have c3 : (0 : Int) = 0 := c3
          refine hx_blk (npc := 26) (L' := [(0, .inr (.inl 86)), (1, .inl x1), (2, .inl x2)]) (st' := [.inl (-1)]) (m' := m) [((25, .iconst (-1), 1, 0, 0, 0, 0), (0, 0, 0))] (by decide +kernel) rfl ?_
          exact hx_reti (by decide +kernel) (h2 c1 c2)
        · have c3 : (0 : Int) ≠ 0 := c3
          exfalso; omega
  · have c1 : ¬ (aYr (m 87) x1) := c1
    show hxn xs n yp_m223 5 [(0, .inr (.inl 86)), (1, .inl x1), (2, .inl x2)] [.inl 0] m Q
    refine hx_if .eq 25 (by decide +kernel) (fun c2 => ?_) (fun c2 => ?_)
    · have c2 : (0 : Int) = 0 := c2
      refine hx_blk (npc := 26) (L' := [(0, .inr (.inl 86)), (1, .inl x1), (2, .inl x2)]) (st' := [.inl (-1)]) (m' := m) [((25, .iconst (-1), 1, 0, 0, 0, 0), (0, 0, 0))] (by decide +kernel) rfl ?_
      exact hx_reti (by decide +kernel) (h3 c1)
    · have c2 : (0 : Int) ≠ 0 := c2
      exfalso; omega

/-- worth from 22 on -/
theorem hr223_22 {xs : List Int32} {n : Nat} {Q : hQ} {m : gx_M} {s0 : Int}
    (h1 : Q (some (.inl s0)) m) : hxn xs (n + 1) yp_m223 22 [] [.inl s0] m Q := by
  refine hx_blks (npc := 26) (L' := []) (st' := [.inl s0]) (m' := m) ((22, .goto 4, 3, 0, 0, 0, 0), (0, 0, 0)) [] (by decide +kernel) rfl ?_
  exact hx_reti (by decide +kernel) h1

/-- may from 0 on -/
theorem hr226_0 {xs : List Int32} {n : Nat} {Q : hQ} {m : gx_M} {x1 x2 x3 : Int}
    (h1 : (aYr (m 87) x1) → (aPers (m 87) x2) → (0 ≤ x3 ∧ x3 ≤ 9999) → hxn xs n yp_m201 0 [(0, .inr (.inl 86)), (1, .inl x1), (2, .inl x2), (3, .inl x3)] [] m (fun r m' => hxn xs n yp_m226 36 [] (hrs r ++ []) m' Q))
    (h2 : (aYr (m 87) x1) → (aPers (m 87) x2) → (¬ (0 ≤ x3 ∧ x3 ≤ 9999)) → Q (some (.inl (-1))) m)
    (h3 : (aYr (m 87) x1) → (¬ (aPers (m 87) x2)) → Q (some (.inl (-1))) m)
    (h4 : (¬ (aYr (m 87) x1)) → Q (some (.inl (-1))) m) : hxn xs (n + 1) yp_m226 0 [(0, .inr (.inl 86)), (1, .inl x1), (2, .inl x2), (3, .inl x3)] [] m Q := by
  refine hx_blks (npc := 2) (L' := [(0, .inr (.inl 86)), (1, .inl x1), (2, .inl x2), (3, .inl x3)]) (st' := [.inl x1, .inr (.inl 86)]) (m' := m) ((0, .aload_n 0, 1, 0, 0, 0, 0), (0, 0, 0)) [((1, .iload_n 1, 1, 0, 0, 0, 0), (0, 0, 0))] (by decide +kernel) rfl ?_
  refine hx_call (E := (2, .invokevirtual 269, 3, 196, 0, 6156, 0)) (M' := yp_m196) [.inr (.inl 86), .inl x1] [] rfl (by decide +kernel) rfl ⟨rfl, rfl⟩ rfl rfl (hs196 (fun c1 => ?_) (fun c1 => ?_))
  · have c1 : aYr (m 87) x1 := c1
    show hxn xs n yp_m226 5 [(0, .inr (.inl 86)), (1, .inl x1), (2, .inl x2), (3, .inl x3)] [.inl 1] m Q
    refine hx_if .eq 27 (by decide +kernel) (fun c2 => ?_) (fun c2 => ?_)
    · have c2 : (1 : Int) = 0 := c2
      exfalso; omega
    · have c2 : (1 : Int) ≠ 0 := c2
      refine hx_blk (npc := 10) (L' := [(0, .inr (.inl 86)), (1, .inl x1), (2, .inl x2), (3, .inl x3)]) (st' := [.inl x2, .inr (.inl 86)]) (m' := m) [((8, .aload_n 0, 1, 0, 0, 0, 0), (0, 0, 0)), ((9, .iload_n 2, 1, 0, 0, 0, 0), (0, 0, 0))] (by decide +kernel) rfl ?_
      refine hx_call (E := (10, .invokevirtual 113, 3, 164, 0, 6031, 0)) (M' := yp_m164) [.inr (.inl 86), .inl x2] [] rfl (by decide +kernel) rfl ⟨rfl, rfl⟩ rfl rfl (hs164 (fun c2 => ?_) (fun c2 => ?_))
      · have c2 : aPers (m 87) x2 := c2
        show hxn xs n yp_m226 13 [(0, .inr (.inl 86)), (1, .inl x1), (2, .inl x2), (3, .inl x3)] [.inl 1] m Q
        refine hx_if .eq 27 (by decide +kernel) (fun c3 => ?_) (fun c3 => ?_)
        · have c3 : (1 : Int) = 0 := c3
          exfalso; omega
        · have c3 : (1 : Int) ≠ 0 := c3
          refine hx_blk (npc := 21) (L' := [(0, .inr (.inl 86)), (1, .inl x1), (2, .inl x2), (3, .inl x3)]) (st' := [.inl 9999, .inl 0, .inl x3]) (m' := m) [((16, .iload_n 3, 1, 0, 0, 0, 0), (0, 0, 0)), ((17, .iconst 0, 1, 0, 0, 0, 0), (0, 0, 0)), ((18, .sipush 9999, 3, 0, 0, 0, 0), (0, 0, 0))] (by decide +kernel) rfl ?_
          refine hx_call (E := (21, .invokestatic 108, 3, 162, 0, 6023, 0)) (M' := yp_m162) [.inl x3, .inl 0, .inl 9999] [] rfl (by decide +kernel) rfl ⟨rfl, rfl⟩ rfl rfl (hs162 (fun c3 => ?_) (fun c3 => ?_))
          · have c3 : 0 ≤ x3 ∧ x3 ≤ 9999 := c3
            show hxn xs n yp_m226 24 [(0, .inr (.inl 86)), (1, .inl x1), (2, .inl x2), (3, .inl x3)] [.inl 1] m Q
            refine hx_if .ne 29 (by decide +kernel) (fun c4 => ?_) (fun c4 => ?_)
            · have c4 : (1 : Int) ≠ 0 := c4
              refine hx_blk (npc := 33) (L' := [(0, .inr (.inl 86)), (1, .inl x1), (2, .inl x2), (3, .inl x3)]) (st' := [.inl x3, .inl x2, .inl x1, .inr (.inl 86)]) (m' := m) [((29, .aload_n 0, 1, 0, 0, 0, 0), (0, 0, 0)), ((30, .iload_n 1, 1, 0, 0, 0, 0), (0, 0, 0)), ((31, .iload_n 2, 1, 0, 0, 0, 0), (0, 0, 0)), ((32, .iload_n 3, 1, 0, 0, 0, 0), (0, 0, 0))] (by decide +kernel) rfl ?_
              exact hx_call (E := (33, .invokevirtual 278, 3, 201, 0, 6175, 0)) (M' := yp_m201) [.inr (.inl 86), .inl x1, .inl x2, .inl x3] [] rfl (by decide +kernel) rfl ⟨rfl, rfl⟩ rfl rfl (hx_mono (h1 c1 c2 c3) (fun r m' h' => hx_pick [] h'))
            · have c4 : (1 : Int) = 0 := by have h : ¬ ((1 : Int) ≠ 0) := c4; omega
              exfalso; omega
          · have c3 : ¬ (0 ≤ x3 ∧ x3 ≤ 9999) := c3
            show hxn xs n yp_m226 24 [(0, .inr (.inl 86)), (1, .inl x1), (2, .inl x2), (3, .inl x3)] [.inl 0] m Q
            refine hx_if .ne 29 (by decide +kernel) (fun c4 => ?_) (fun c4 => ?_)
            · have c4 : (0 : Int) ≠ 0 := c4
              exfalso; omega
            · have c4 : (0 : Int) = 0 := by have h : ¬ ((0 : Int) ≠ 0) := c4; omega
              refine hx_blk (npc := 28) (L' := [(0, .inr (.inl 86)), (1, .inl x1), (2, .inl x2), (3, .inl x3)]) (st' := [.inl (-1)]) (m' := m) [((27, .iconst (-1), 1, 0, 0, 0, 0), (0, 0, 0))] (by decide +kernel) rfl ?_
              exact hx_reti (by decide +kernel) (h2 c1 c2 c3)
      · have c2 : ¬ (aPers (m 87) x2) := c2
        show hxn xs n yp_m226 13 [(0, .inr (.inl 86)), (1, .inl x1), (2, .inl x2), (3, .inl x3)] [.inl 0] m Q
        refine hx_if .eq 27 (by decide +kernel) (fun c3 => ?_) (fun c3 => ?_)
        · have c3 : (0 : Int) = 0 := c3
          refine hx_blk (npc := 28) (L' := [(0, .inr (.inl 86)), (1, .inl x1), (2, .inl x2), (3, .inl x3)]) (st' := [.inl (-1)]) (m' := m) [((27, .iconst (-1), 1, 0, 0, 0, 0), (0, 0, 0))] (by decide +kernel) rfl ?_
          exact hx_reti (by decide +kernel) (h3 c1 c2)
        · have c3 : (0 : Int) ≠ 0 := c3
          exfalso; omega
  · have c1 : ¬ (aYr (m 87) x1) := c1
    show hxn xs n yp_m226 5 [(0, .inr (.inl 86)), (1, .inl x1), (2, .inl x2), (3, .inl x3)] [.inl 0] m Q
    refine hx_if .eq 27 (by decide +kernel) (fun c2 => ?_) (fun c2 => ?_)
    · have c2 : (0 : Int) = 0 := c2
      refine hx_blk (npc := 28) (L' := [(0, .inr (.inl 86)), (1, .inl x1), (2, .inl x2), (3, .inl x3)]) (st' := [.inl (-1)]) (m' := m) [((27, .iconst (-1), 1, 0, 0, 0, 0), (0, 0, 0))] (by decide +kernel) rfl ?_
      exact hx_reti (by decide +kernel) (h4 c1)
    · have c2 : (0 : Int) ≠ 0 := c2
      exfalso; omega

/-- may from 36 on -/
theorem hr226_36 {xs : List Int32} {n : Nat} {Q : hQ} {m : gx_M} {s0 : Int}
    (h1 : (s0 = 0) → Q (some (.inl 1)) m)
    (h2 : (s0 ≠ 0) → Q (some (.inl 0)) m) : hxn xs (n + 1) yp_m226 36 [] [.inl s0] m Q := by
  refine hx_ifs .eq 43 (by decide +kernel) (fun c1 => ?_) (fun c1 => ?_)
  · have c1 : s0 = 0 := c1
    refine hx_blk (npc := 44) (L' := []) (st' := [.inl 1]) (m' := m) [((43, .iconst 1, 1, 0, 0, 0, 0), (0, 0, 0))] (by decide +kernel) rfl ?_
    exact hx_reti (by decide +kernel) (h1 c1)
  · have c1 : s0 ≠ 0 := c1
    refine hx_blk (npc := 44) (L' := []) (st' := [.inl 0]) (m' := m) [((39, .iconst 0, 1, 0, 0, 0, 0), (0, 0, 0)), ((40, .goto 4, 3, 0, 0, 0, 0), (0, 0, 0))] (by decide +kernel) rfl ?_
    exact hx_reti (by decide +kernel) (h2 c1)
end
section
/-! what stands when nothing of the state is written -/
theorem hPR_of {m m' : gx_M} (h : ∀ c k, ((c = 0 ∧ 12 ≤ k ∧ k < 14) ∨ (5 ≤ c ∧ c ≤ 30) ∨ (c = 44 ∧ k = 7) ∨ (45 ≤ c ∧ c ≤ 50) ∨ (c = 86 ∧ (k = 13 ∨ k = 44 ∨ k = 47)) ∨ (c = 87 ∧ k < 1131) ∨ (c = 89 ∧ k < 1131) ∨ (97 ≤ c ∧ c ≤ 101)) → m' c k = m c k) : hAg hPR m m' := by
  intro q hq k h1 h2
  refine h q.1 k ?_
  simp only [hPR, hPL, List.cons_append, List.nil_append, List.mem_cons, List.not_mem_nil, or_false] at hq
  rcases hq with rfl | rfl | rfl | rfl | rfl | rfl | rfl | rfl | rfl | rfl | rfl | rfl | rfl | rfl | rfl | rfl | rfl | rfl | rfl | rfl | rfl | rfl | rfl | rfl | rfl | rfl | rfl | rfl | rfl | rfl | rfl | rfl | rfl | rfl | rfl | rfl | rfl | rfl | rfl | rfl | rfl | rfl | rfl | rfl <;> (dsimp only at h1 h2 ⊢; omega)
theorem cLf_R {m m' : gx_M} (h : cLf m m') : hAg hPR m m' := hPR_of (fun c k hc => h c k (by omega) (by omega))
theorem rLf_R {m m' : gx_M} (h : rLf m m') : hAg hPR m m' := hPR_of (fun c k hc => congrFun (h c (by omega) (by omega)) k)
end
section
/-! worth, may: by both -/
section WM
variable {xs : List Int32} {n : Nat} {m : gx_M} {a1 a2 a3 : Int}
theorem ww_worth (hR : hWr xs m) : hxn xs n yp_m81 0 [(0, .inr (.inl 0)), (1, .inl a1), (2, .inl a2)] [] m (fun r1 m1 => hxn xs n yp_m223 0 [(0, .inr (.inl 86)), (1, .inl a1), (2, .inl a2)] [] m1 (fun r2 m2 => hWr xs m2 ∧ r2 = r1)) := by
  have hR' := hR
  obtain ⟨h1, h2, -, -, ⟨W, h5⟩, -⟩ := hR
  have bad : ¬ (aYr (m 87) a1 ∧ aPers (m 87) a2) → hxn xs n yp_m223 0 [(0, .inr (.inl 86)), (1, .inl a1), (2, .inl a2)] [] m (fun r2 m2 => hWr xs m2 ∧ r2 = some (.inl (-1))) := fun c => hx_dn (hr223_0 (fun d1 d2 => absurd ⟨d1, d2⟩ c) (fun _ _ => ⟨hR', rfl⟩) (fun _ => ⟨hR', rfl⟩))
  refine hx_dn (hr81_0 (fun c1 c2 => ?_) (fun _ c => bad (fun q => c ((cP_iff h2).mpr q.2))) (fun c => bad (fun q => c ((cYr_iff h2).mpr q.1))))
  have y1 := (cYr_iff h2).mp c1
  have p1 : aPers (m 87) a2 := (cP_iff h2).mp c2
  obtain ⟨Y, rfl, hY, -⟩ := aYr_nat y1
  have hp : 0 ≤ a2 ∧ a2 < 8 := ⟨p1.1, p1.2.1⟩
  refine cAm1 (.inl rfl) (by decide) h5 h1 h2 hY hp (fun m1 f1 => hx_dn (hr81_40 ?_))
  have e87 : m1 87 = m 87 := funext (fun k => f1 87 k (by decide) (by omega))
  refine hx_dn (hr223_0 (fun _ _ => ?_) (fun _ c => absurd (by rw [e87]; exact p1) c) (fun c => absurd (by rw [e87]; exact y1) c))
  refine rWor (lawR_c (cLf_L f1) h5) (by rw [e87]; exact h1) hY hp (fun m2 f2 => hx_dn (hr223_22 ⟨hWr_c (rLf_R f2) (hWr_c (cLf_R f1) hR'), ?_⟩))
  rw [e87]
  rfl
theorem ww_may (hR : hWr xs m) : hxn xs n yp_m84 0 [(0, .inr (.inl 0)), (1, .inl a1), (2, .inl a2), (3, .inl a3)] [] m (fun r1 m1 => hxn xs n yp_m226 0 [(0, .inr (.inl 86)), (1, .inl a1), (2, .inl a2), (3, .inl a3)] [] m1 (fun r2 m2 => hWr xs m2 ∧ r2 = r1)) := by
  have hR' := hR
  obtain ⟨h1, h2, -, -, ⟨W, h5⟩, -⟩ := hR
  have bad : ¬ (aYr (m 87) a1 ∧ aPers (m 87) a2 ∧ 0 ≤ a3 ∧ a3 ≤ 9999) → hxn xs n yp_m226 0 [(0, .inr (.inl 86)), (1, .inl a1), (2, .inl a2), (3, .inl a3)] [] m (fun r2 m2 => hWr xs m2 ∧ r2 = some (.inl (-1))) := fun c => hx_dn (hr226_0 (fun d1 d2 d3 => absurd ⟨d1, d2, d3⟩ c) (fun _ _ _ => ⟨hR', rfl⟩) (fun _ _ => ⟨hR', rfl⟩) (fun _ => ⟨hR', rfl⟩))
  refine hx_dn (hr84_0 (fun _ _ c => bad (fun q => by omega)) (fun c1 c2 c3 c4 => ?_) (fun _ _ _ c => bad (fun q => by omega)) (fun _ c => bad (fun q => c ((cP_iff h2).mpr q.2.1))) (fun c => bad (fun q => c ((cYr_iff h2).mpr q.1))))
  have y1 := (cYr_iff h2).mp c1
  have p1 : aPers (m 87) a2 := (cP_iff h2).mp c2
  obtain ⟨Y, rfl, hY, -⟩ := aYr_nat y1
  have hp : 0 ≤ a2 ∧ a2 < 8 := ⟨p1.1, p1.2.1⟩
  refine cForb (.inl rfl) h5 h1 h2 hY hp (fun m1 f1 => ?_)
  have e87 : m1 87 = m 87 := funext (fun k => f1 87 k (by decide) (by omega))
  have fin : ∀ v w : Int, (v = if (W (env1 (m 87) Y a2 a3) 110).isSome = true then 1 else 0) → (v = 0 → w = 1) → (v ≠ 0 → w = 0) → hxn xs n yp_m226 0 [(0, .inr (.inl 86)), (1, .inl (Y : Int)), (2, .inl a2), (3, .inl a3)] [] m1 (fun r2 m2 => hWr xs m2 ∧ r2 = some (.inl w)) := fun v w hv z1 z2 => by
    refine hx_dn (hr226_0 (fun _ _ _ => ?_) (fun _ _ c => absurd ⟨c3, c4⟩ c) (fun _ c => absurd (by rw [e87]; exact p1) c) (fun c => absurd (by rw [e87]; exact y1) c))
    refine rBar (lawR_c (cLf_L f1) h5) (by rw [e87]; exact h1) hY hp (fun m2 f2 => ?_)
    have hw2 := hWr_c (rLf_R f2) (hWr_c (cLf_R f1) hR')
    rw [e87, ← hv]
    exact hx_dn (hr226_36 (fun c => ⟨hw2, by rw [z1 c]⟩) (fun c => ⟨hw2, by rw [z2 c]⟩))
  generalize hg : (if (W (env1 (m 87) Y a2 a3) 110).isSome = true then (1 : Int) else 0) = g at fin ⊢
  exact hx_dn (hr84_49 (fun c => fin g 1 rfl (fun _ => rfl) (fun d => absurd c d)) (fun c => fin g 0 rfl (fun d => absurd d c) (fun _ => rfl)))
end WM
end
