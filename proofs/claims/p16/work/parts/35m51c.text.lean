/-! the text as the class reads it: roads -/
/-- isLetter from 0 on -/
theorem hs38 {xs : List Int32} {n : Nat} {Q : hQ} {m : gx_M} {x0 : Int}
    (h1 : isLt x0 → Q (some (.inl 1)) m) (h0 : ¬ (isLt x0) → Q (some (.inl 0)) m) : hxn xs n yp_m38 0 [(0, .inl x0)] [] m Q := by
  refine hx_dn ?_
  refine hx_blks (npc := 1) (L' := [(0, .inl x0)]) (st' := [.inl x0]) (m' := m) ((0, .iload_n 0, 1, 0, 0, 0, 0), (0, 0, 0)) [] (by decide +kernel) rfl ?_
  refine hx_tsw 122 [(97, 120), (98, 122), (99, 120), (100, 120), (101, 120), (102, 122), (103, 122), (104, 120), (105, 122), (106, 122), (107, 120), (108, 120), (109, 120), (110, 122), (111, 120), (112, 120), (113, 122), (114, 122), (115, 120), (116, 120), (117, 122), (118, 122), (119, 122), (120, 122), (121, 120), (122, 120)] (by decide +kernel) ?_
  refine hsw_c (fun c1 => ?_) (fun c1 => ?_)
  · have c1 : x0 = 97 := c1
    refine hx_blk (npc := 121) (L' := [(0, .inl x0)]) (st' := [.inl 1]) (m' := m) [((120, .iconst 1, 1, 0, 0, 0, 0), (0, 0, 0))] (by decide +kernel) rfl ?_
    exact hx_reti (by decide +kernel) (h1 (by unfold isLt; omega))
  refine hsw_c (fun c2 => ?_) (fun c2 => ?_)
  · have c2 : x0 = 98 := c2
    refine hx_blk (npc := 123) (L' := [(0, .inl x0)]) (st' := [.inl 0]) (m' := m) [((122, .iconst 0, 1, 0, 0, 0, 0), (0, 0, 0))] (by decide +kernel) rfl ?_
    exact hx_reti (by decide +kernel) (h0 (by unfold isLt; omega))
  refine hsw_c (fun c3 => ?_) (fun c3 => ?_)
  · have c3 : x0 = 99 := c3
    refine hx_blk (npc := 121) (L' := [(0, .inl x0)]) (st' := [.inl 1]) (m' := m) [((120, .iconst 1, 1, 0, 0, 0, 0), (0, 0, 0))] (by decide +kernel) rfl ?_
    exact hx_reti (by decide +kernel) (h1 (by unfold isLt; omega))
  refine hsw_c (fun c4 => ?_) (fun c4 => ?_)
  · have c4 : x0 = 100 := c4
    refine hx_blk (npc := 121) (L' := [(0, .inl x0)]) (st' := [.inl 1]) (m' := m) [((120, .iconst 1, 1, 0, 0, 0, 0), (0, 0, 0))] (by decide +kernel) rfl ?_
    exact hx_reti (by decide +kernel) (h1 (by unfold isLt; omega))
  refine hsw_c (fun c5 => ?_) (fun c5 => ?_)
  · have c5 : x0 = 101 := c5
    refine hx_blk (npc := 121) (L' := [(0, .inl x0)]) (st' := [.inl 1]) (m' := m) [((120, .iconst 1, 1, 0, 0, 0, 0), (0, 0, 0))] (by decide +kernel) rfl ?_
    exact hx_reti (by decide +kernel) (h1 (by unfold isLt; omega))
  refine hsw_c (fun c6 => ?_) (fun c6 => ?_)
  · have c6 : x0 = 102 := c6
    refine hx_blk (npc := 123) (L' := [(0, .inl x0)]) (st' := [.inl 0]) (m' := m) [((122, .iconst 0, 1, 0, 0, 0, 0), (0, 0, 0))] (by decide +kernel) rfl ?_
    exact hx_reti (by decide +kernel) (h0 (by unfold isLt; omega))
  refine hsw_c (fun c7 => ?_) (fun c7 => ?_)
  · have c7 : x0 = 103 := c7
    refine hx_blk (npc := 123) (L' := [(0, .inl x0)]) (st' := [.inl 0]) (m' := m) [((122, .iconst 0, 1, 0, 0, 0, 0), (0, 0, 0))] (by decide +kernel) rfl ?_
    exact hx_reti (by decide +kernel) (h0 (by unfold isLt; omega))
  refine hsw_c (fun c8 => ?_) (fun c8 => ?_)
  · have c8 : x0 = 104 := c8
    refine hx_blk (npc := 121) (L' := [(0, .inl x0)]) (st' := [.inl 1]) (m' := m) [((120, .iconst 1, 1, 0, 0, 0, 0), (0, 0, 0))] (by decide +kernel) rfl ?_
    exact hx_reti (by decide +kernel) (h1 (by unfold isLt; omega))
  refine hsw_c (fun c9 => ?_) (fun c9 => ?_)
  · have c9 : x0 = 105 := c9
    refine hx_blk (npc := 123) (L' := [(0, .inl x0)]) (st' := [.inl 0]) (m' := m) [((122, .iconst 0, 1, 0, 0, 0, 0), (0, 0, 0))] (by decide +kernel) rfl ?_
    exact hx_reti (by decide +kernel) (h0 (by unfold isLt; omega))
  refine hsw_c (fun c10 => ?_) (fun c10 => ?_)
  · have c10 : x0 = 106 := c10
    refine hx_blk (npc := 123) (L' := [(0, .inl x0)]) (st' := [.inl 0]) (m' := m) [((122, .iconst 0, 1, 0, 0, 0, 0), (0, 0, 0))] (by decide +kernel) rfl ?_
    exact hx_reti (by decide +kernel) (h0 (by unfold isLt; omega))
  refine hsw_c (fun c11 => ?_) (fun c11 => ?_)
  · have c11 : x0 = 107 := c11
    refine hx_blk (npc := 121) (L' := [(0, .inl x0)]) (st' := [.inl 1]) (m' := m) [((120, .iconst 1, 1, 0, 0, 0, 0), (0, 0, 0))] (by decide +kernel) rfl ?_
    exact hx_reti (by decide +kernel) (h1 (by unfold isLt; omega))
  refine hsw_c (fun c12 => ?_) (fun c12 => ?_)
  · have c12 : x0 = 108 := c12
    refine hx_blk (npc := 121) (L' := [(0, .inl x0)]) (st' := [.inl 1]) (m' := m) [((120, .iconst 1, 1, 0, 0, 0, 0), (0, 0, 0))] (by decide +kernel) rfl ?_
    exact hx_reti (by decide +kernel) (h1 (by unfold isLt; omega))
  refine hsw_c (fun c13 => ?_) (fun c13 => ?_)
  · have c13 : x0 = 109 := c13
    refine hx_blk (npc := 121) (L' := [(0, .inl x0)]) (st' := [.inl 1]) (m' := m) [((120, .iconst 1, 1, 0, 0, 0, 0), (0, 0, 0))] (by decide +kernel) rfl ?_
    exact hx_reti (by decide +kernel) (h1 (by unfold isLt; omega))
  refine hsw_c (fun c14 => ?_) (fun c14 => ?_)
  · have c14 : x0 = 110 := c14
    refine hx_blk (npc := 123) (L' := [(0, .inl x0)]) (st' := [.inl 0]) (m' := m) [((122, .iconst 0, 1, 0, 0, 0, 0), (0, 0, 0))] (by decide +kernel) rfl ?_
    exact hx_reti (by decide +kernel) (h0 (by unfold isLt; omega))
  refine hsw_c (fun c15 => ?_) (fun c15 => ?_)
  · have c15 : x0 = 111 := c15
    refine hx_blk (npc := 121) (L' := [(0, .inl x0)]) (st' := [.inl 1]) (m' := m) [((120, .iconst 1, 1, 0, 0, 0, 0), (0, 0, 0))] (by decide +kernel) rfl ?_
    exact hx_reti (by decide +kernel) (h1 (by unfold isLt; omega))
  refine hsw_c (fun c16 => ?_) (fun c16 => ?_)
  · have c16 : x0 = 112 := c16
    refine hx_blk (npc := 121) (L' := [(0, .inl x0)]) (st' := [.inl 1]) (m' := m) [((120, .iconst 1, 1, 0, 0, 0, 0), (0, 0, 0))] (by decide +kernel) rfl ?_
    exact hx_reti (by decide +kernel) (h1 (by unfold isLt; omega))
  refine hsw_c (fun c17 => ?_) (fun c17 => ?_)
  · have c17 : x0 = 113 := c17
    refine hx_blk (npc := 123) (L' := [(0, .inl x0)]) (st' := [.inl 0]) (m' := m) [((122, .iconst 0, 1, 0, 0, 0, 0), (0, 0, 0))] (by decide +kernel) rfl ?_
    exact hx_reti (by decide +kernel) (h0 (by unfold isLt; omega))
  refine hsw_c (fun c18 => ?_) (fun c18 => ?_)
  · have c18 : x0 = 114 := c18
    refine hx_blk (npc := 123) (L' := [(0, .inl x0)]) (st' := [.inl 0]) (m' := m) [((122, .iconst 0, 1, 0, 0, 0, 0), (0, 0, 0))] (by decide +kernel) rfl ?_
    exact hx_reti (by decide +kernel) (h0 (by unfold isLt; omega))
  refine hsw_c (fun c19 => ?_) (fun c19 => ?_)
  · have c19 : x0 = 115 := c19
    refine hx_blk (npc := 121) (L' := [(0, .inl x0)]) (st' := [.inl 1]) (m' := m) [((120, .iconst 1, 1, 0, 0, 0, 0), (0, 0, 0))] (by decide +kernel) rfl ?_
    exact hx_reti (by decide +kernel) (h1 (by unfold isLt; omega))
  refine hsw_c (fun c20 => ?_) (fun c20 => ?_)
  · have c20 : x0 = 116 := c20
    refine hx_blk (npc := 121) (L' := [(0, .inl x0)]) (st' := [.inl 1]) (m' := m) [((120, .iconst 1, 1, 0, 0, 0, 0), (0, 0, 0))] (by decide +kernel) rfl ?_
    exact hx_reti (by decide +kernel) (h1 (by unfold isLt; omega))
  refine hsw_c (fun c21 => ?_) (fun c21 => ?_)
  · have c21 : x0 = 117 := c21
    refine hx_blk (npc := 123) (L' := [(0, .inl x0)]) (st' := [.inl 0]) (m' := m) [((122, .iconst 0, 1, 0, 0, 0, 0), (0, 0, 0))] (by decide +kernel) rfl ?_
    exact hx_reti (by decide +kernel) (h0 (by unfold isLt; omega))
  refine hsw_c (fun c22 => ?_) (fun c22 => ?_)
  · have c22 : x0 = 118 := c22
    refine hx_blk (npc := 123) (L' := [(0, .inl x0)]) (st' := [.inl 0]) (m' := m) [((122, .iconst 0, 1, 0, 0, 0, 0), (0, 0, 0))] (by decide +kernel) rfl ?_
    exact hx_reti (by decide +kernel) (h0 (by unfold isLt; omega))
  refine hsw_c (fun c23 => ?_) (fun c23 => ?_)
  · have c23 : x0 = 119 := c23
    refine hx_blk (npc := 123) (L' := [(0, .inl x0)]) (st' := [.inl 0]) (m' := m) [((122, .iconst 0, 1, 0, 0, 0, 0), (0, 0, 0))] (by decide +kernel) rfl ?_
    exact hx_reti (by decide +kernel) (h0 (by unfold isLt; omega))
  refine hsw_c (fun c24 => ?_) (fun c24 => ?_)
  · have c24 : x0 = 120 := c24
    refine hx_blk (npc := 123) (L' := [(0, .inl x0)]) (st' := [.inl 0]) (m' := m) [((122, .iconst 0, 1, 0, 0, 0, 0), (0, 0, 0))] (by decide +kernel) rfl ?_
    exact hx_reti (by decide +kernel) (h0 (by unfold isLt; omega))
  refine hsw_c (fun c25 => ?_) (fun c25 => ?_)
  · have c25 : x0 = 121 := c25
    refine hx_blk (npc := 121) (L' := [(0, .inl x0)]) (st' := [.inl 1]) (m' := m) [((120, .iconst 1, 1, 0, 0, 0, 0), (0, 0, 0))] (by decide +kernel) rfl ?_
    exact hx_reti (by decide +kernel) (h1 (by unfold isLt; omega))
  refine hsw_c (fun c26 => ?_) (fun c26 => ?_)
  · have c26 : x0 = 122 := c26
    refine hx_blk (npc := 121) (L' := [(0, .inl x0)]) (st' := [.inl 1]) (m' := m) [((120, .iconst 1, 1, 0, 0, 0, 0), (0, 0, 0))] (by decide +kernel) rfl ?_
    exact hx_reti (by decide +kernel) (h1 (by unfold isLt; omega))
  refine hsw_n ?_
  refine hx_blk (npc := 123) (L' := [(0, .inl x0)]) (st' := [.inl 0]) (m' := m) [((122, .iconst 0, 1, 0, 0, 0, 0), (0, 0, 0))] (by decide +kernel) rfl ?_
  exact hx_reti (by decide +kernel) (h0 (by unfold isLt; omega))

/-- isProductSign from 0 on -/
theorem hs39 {xs : List Int32} {n : Nat} {Q : hQ} {m : gx_M} {x0 : Int}
    (h1 : isPr x0 → Q (some (.inl 1)) m) (h0 : ¬ (isPr x0) → Q (some (.inl 0)) m) : hxn xs n yp_m39 0 [(0, .inl x0)] [] m Q := by
  refine hx_dn ?_
  refine hx_blks (npc := 3) (L' := [(0, .inl x0)]) (st' := [.inl 42, .inl x0]) (m' := m) ((0, .iload_n 0, 1, 0, 0, 0, 0), (0, 0, 0)) [((1, .bipush 42, 2, 0, 0, 0, 0), (0, 0, 0))] (by decide +kernel) rfl ?_
  refine hx_cmp .eq 18 (by decide +kernel) (fun c1 => ?_) (fun c1 => ?_)
  · have c1 : x0 = 42 := c1
    refine hx_blk (npc := 23) (L' := [(0, .inl x0)]) (st' := [.inl 1]) (m' := m) [((18, .iconst 1, 1, 0, 0, 0, 0), (0, 0, 0)), ((19, .goto 4, 3, 0, 0, 0, 0), (0, 0, 0))] (by decide +kernel) rfl ?_
    exact hx_reti (by decide +kernel) (h1 (by unfold isPr; omega))
  · have c1 : x0 ≠ 42 := c1
    refine hx_blk (npc := 9) (L' := [(0, .inl x0)]) (st' := [.inl 47, .inl x0]) (m' := m) [((6, .iload_n 0, 1, 0, 0, 0, 0), (0, 0, 0)), ((7, .bipush 47, 2, 0, 0, 0, 0), (0, 0, 0))] (by decide +kernel) rfl ?_
    refine hx_cmp .eq 18 (by decide +kernel) (fun c2 => ?_) (fun c2 => ?_)
    · have c2 : x0 = 47 := c2
      refine hx_blk (npc := 23) (L' := [(0, .inl x0)]) (st' := [.inl 1]) (m' := m) [((18, .iconst 1, 1, 0, 0, 0, 0), (0, 0, 0)), ((19, .goto 4, 3, 0, 0, 0, 0), (0, 0, 0))] (by decide +kernel) rfl ?_
      exact hx_reti (by decide +kernel) (h1 (by unfold isPr; omega))
    · have c2 : x0 ≠ 47 := c2
      refine hx_blk (npc := 15) (L' := [(0, .inl x0)]) (st' := [.inl 37, .inl x0]) (m' := m) [((12, .iload_n 0, 1, 0, 0, 0, 0), (0, 0, 0)), ((13, .bipush 37, 2, 0, 0, 0, 0), (0, 0, 0))] (by decide +kernel) rfl ?_
      refine hx_cmp .ne 22 (by decide +kernel) (fun c3 => ?_) (fun c3 => ?_)
      · have c3 : x0 ≠ 37 := c3
        refine hx_blk (npc := 23) (L' := [(0, .inl x0)]) (st' := [.inl 0]) (m' := m) [((22, .iconst 0, 1, 0, 0, 0, 0), (0, 0, 0))] (by decide +kernel) rfl ?_
        exact hx_reti (by decide +kernel) (h0 (by unfold isPr; omega))
      · have c3 : x0 = 37 := by have h : ¬ (x0 ≠ 37) := c3; omega
        refine hx_blk (npc := 23) (L' := [(0, .inl x0)]) (st' := [.inl 1]) (m' := m) [((18, .iconst 1, 1, 0, 0, 0, 0), (0, 0, 0)), ((19, .goto 4, 3, 0, 0, 0, 0), (0, 0, 0))] (by decide +kernel) rfl ?_
        exact hx_reti (by decide +kernel) (h1 (by unfold isPr; omega))

/-- isSumSign from 0 on -/
theorem hs40 {xs : List Int32} {n : Nat} {Q : hQ} {m : gx_M} {x0 : Int}
    (h1 : isSm x0 → Q (some (.inl 1)) m) (h0 : ¬ (isSm x0) → Q (some (.inl 0)) m) : hxn xs n yp_m40 0 [(0, .inl x0)] [] m Q := by
  refine hx_dn ?_
  refine hx_blks (npc := 3) (L' := [(0, .inl x0)]) (st' := [.inl 43, .inl x0]) (m' := m) ((0, .iload_n 0, 1, 0, 0, 0, 0), (0, 0, 0)) [((1, .bipush 43, 2, 0, 0, 0, 0), (0, 0, 0))] (by decide +kernel) rfl ?_
  refine hx_cmp .eq 12 (by decide +kernel) (fun c1 => ?_) (fun c1 => ?_)
  · have c1 : x0 = 43 := c1
    refine hx_blk (npc := 17) (L' := [(0, .inl x0)]) (st' := [.inl 1]) (m' := m) [((12, .iconst 1, 1, 0, 0, 0, 0), (0, 0, 0)), ((13, .goto 4, 3, 0, 0, 0, 0), (0, 0, 0))] (by decide +kernel) rfl ?_
    exact hx_reti (by decide +kernel) (h1 (by unfold isSm; omega))
  · have c1 : x0 ≠ 43 := c1
    refine hx_blk (npc := 9) (L' := [(0, .inl x0)]) (st' := [.inl 45, .inl x0]) (m' := m) [((6, .iload_n 0, 1, 0, 0, 0, 0), (0, 0, 0)), ((7, .bipush 45, 2, 0, 0, 0, 0), (0, 0, 0))] (by decide +kernel) rfl ?_
    refine hx_cmp .ne 16 (by decide +kernel) (fun c2 => ?_) (fun c2 => ?_)
    · have c2 : x0 ≠ 45 := c2
      refine hx_blk (npc := 17) (L' := [(0, .inl x0)]) (st' := [.inl 0]) (m' := m) [((16, .iconst 0, 1, 0, 0, 0, 0), (0, 0, 0))] (by decide +kernel) rfl ?_
      exact hx_reti (by decide +kernel) (h0 (by unfold isSm; omega))
    · have c2 : x0 = 45 := by have h : ¬ (x0 ≠ 45) := c2; omega
      refine hx_blk (npc := 17) (L' := [(0, .inl x0)]) (st' := [.inl 1]) (m' := m) [((12, .iconst 1, 1, 0, 0, 0, 0), (0, 0, 0)), ((13, .goto 4, 3, 0, 0, 0, 0), (0, 0, 0))] (by decide +kernel) rfl ?_
      exact hx_reti (by decide +kernel) (h1 (by unfold isSm; omega))

/-- atDigit from 0 on -/
theorem hs34 {xs : List Int32} {n : Nat} {Q : hQ} {m : gx_M}
    (h1 : isDg (m 3 3) → Q (some (.inl 1)) m) (h0 : ¬ (isDg (m 3 3)) → Q (some (.inl 0)) m) : hxn xs n yp_m34 0 [(0, .inr (.inl 3))] [] m Q := by
  refine hx_dn ?_
  refine hx_blks (npc := 6) (L' := [(0, .inr (.inl 3))]) (st' := [.inl 48, .inl (m 3 3)]) (m' := m) ((0, .aload_n 0, 1, 0, 0, 0, 0), (0, 0, 0)) [((1, .getfield 49, 3, 1, 3, 1054, 0), (0, 3, 0)), ((4, .bipush 48, 2, 0, 0, 0, 0), (0, 0, 0))] (by decide +kernel) rfl ?_
  refine hx_cmp .lt 22 (by decide +kernel) (fun c1 => ?_) (fun c1 => ?_)
  · have c1 : (m 3 3) < 48 := c1
    refine hx_blk (npc := 23) (L' := [(0, .inr (.inl 3))]) (st' := [.inl 0]) (m' := m) [((22, .iconst 0, 1, 0, 0, 0, 0), (0, 0, 0))] (by decide +kernel) rfl ?_
    exact hx_reti (by decide +kernel) (h0 (by unfold isDg; omega))
  · have c1 : 48 ≤ (m 3 3) := by have h : ¬ ((m 3 3) < 48) := c1; omega
    refine hx_blk (npc := 15) (L' := [(0, .inr (.inl 3))]) (st' := [.inl 57, .inl (m 3 3)]) (m' := m) [((9, .aload_n 0, 1, 0, 0, 0, 0), (0, 0, 0)), ((10, .getfield 49, 3, 1, 3, 1054, 0), (0, 3, 0)), ((13, .bipush 57, 2, 0, 0, 0, 0), (0, 0, 0))] (by decide +kernel) rfl ?_
    refine hx_cmp .gt 22 (by decide +kernel) (fun c2 => ?_) (fun c2 => ?_)
    · have c2 : 57 < (m 3 3) := c2
      refine hx_blk (npc := 23) (L' := [(0, .inr (.inl 3))]) (st' := [.inl 0]) (m' := m) [((22, .iconst 0, 1, 0, 0, 0, 0), (0, 0, 0))] (by decide +kernel) rfl ?_
      exact hx_reti (by decide +kernel) (h0 (by unfold isDg; omega))
    · have c2 : (m 3 3) ≤ 57 := by have h : ¬ (57 < (m 3 3)) := c2; omega
      refine hx_blk (npc := 23) (L' := [(0, .inr (.inl 3))]) (st' := [.inl 1]) (m' := m) [((18, .iconst 1, 1, 0, 0, 0, 0), (0, 0, 0)), ((19, .goto 4, 3, 0, 0, 0, 0), (0, 0, 0))] (by decide +kernel) rfl ?_
      exact hx_reti (by decide +kernel) (h1 (by unfold isDg; omega))

/-- signAt from 0 on -/
theorem hr25_0 {xs : List Int32} {n : Nat} {Q : hQ} {m : gx_M} {x1 : Int}
    (h1 : (x1 < 0) → Q (some (.inl (-1))) m)
    (h2 : (0 ≤ x1) → ((m 3 1) ≤ x1) → Q (some (.inl (-1))) m)
    (h3 : (0 ≤ x1) → (x1 < (m 3 1)) → (260 ≤ x1) → Q (some (.inl (-1))) m)
    (h4 : (0 ≤ x1) → (x1 < (m 3 1)) → (x1 < 260) → Q (some (.inl (m 4 (x1).toNat))) m) : hxn xs (n + 1) yp_m25 0 [(0, .inr (.inl 3)), (1, .inl x1)] [] m Q := by
  refine hx_blks (npc := 1) (L' := [(0, .inr (.inl 3)), (1, .inl x1)]) (st' := [.inl x1]) (m' := m) ((0, .iload_n 1, 1, 0, 0, 0, 0), (0, 0, 0)) [] (by decide +kernel) rfl ?_
  refine hx_if .lt 28 (by decide +kernel) (fun c1 => ?_) (fun c1 => ?_)
  · have c1 : x1 < 0 := c1
    refine hx_blk (npc := 29) (L' := [(0, .inr (.inl 3)), (1, .inl x1)]) (st' := [.inl (-1)]) (m' := m) [((28, .iconst (-1), 1, 0, 0, 0, 0), (0, 0, 0))] (by decide +kernel) rfl ?_
    exact hx_reti (by decide +kernel) (h1 c1)
  · have c1 : 0 ≤ x1 := by have h : ¬ (x1 < 0) := c1; omega
    refine hx_blk (npc := 9) (L' := [(0, .inr (.inl 3)), (1, .inl x1)]) (st' := [.inl (m 3 1), .inl x1]) (m' := m) [((4, .iload_n 1, 1, 0, 0, 0, 0), (0, 0, 0)), ((5, .aload_n 0, 1, 0, 0, 0, 0), (0, 0, 0)), ((6, .getfield 24, 3, 1, 1, 1050, 0), (0, 3, 0))] (by decide +kernel) rfl ?_
    refine hx_cmp .ge 28 (by decide +kernel) (fun c2 => ?_) (fun c2 => ?_)
    · have c2 : (m 3 1) ≤ x1 := c2
      refine hx_blk (npc := 29) (L' := [(0, .inr (.inl 3)), (1, .inl x1)]) (st' := [.inl (-1)]) (m' := m) [((28, .iconst (-1), 1, 0, 0, 0, 0), (0, 0, 0))] (by decide +kernel) rfl ?_
      exact hx_reti (by decide +kernel) (h2 c1 c2)
    · have c2 : x1 < (m 3 1) := by have h : ¬ ((m 3 1) ≤ x1) := c2; omega
      refine hx_blk (npc := 16) (L' := [(0, .inr (.inl 3)), (1, .inl x1)]) (st' := [.inl 260, .inl x1]) (m' := m) [((12, .iload_n 1, 1, 0, 0, 0, 0), (0, 0, 0)), ((13, .sipush 260, 3, 0, 0, 0, 0), (0, 0, 0))] (by decide +kernel) rfl ?_
      refine hx_cmp .ge 28 (by decide +kernel) (fun c3 => ?_) (fun c3 => ?_)
      · have c3 : 260 ≤ x1 := c3
        refine hx_blk (npc := 29) (L' := [(0, .inr (.inl 3)), (1, .inl x1)]) (st' := [.inl (-1)]) (m' := m) [((28, .iconst (-1), 1, 0, 0, 0, 0), (0, 0, 0))] (by decide +kernel) rfl ?_
        exact hx_reti (by decide +kernel) (h3 c1 c2 c3)
      · have c3 : x1 < 260 := by have h : ¬ (260 ≤ x1) := c3; omega
        refine hx_blk (npc := 29) (L' := [(0, .inr (.inl 3)), (1, .inl x1)]) (st' := [.inl (m 4 (x1).toNat)]) (m' := m) [((19, .aload_n 0, 1, 0, 0, 0, 0), (0, 0, 0)), ((20, .getfield 9, 3, 1, 0, 1048, 0), (1, 3, 4)), ((23, .iload_n 1, 1, 0, 0, 0, 0), (0, 0, 0)), ((24, .iaload, 1, 0, 0, 0, 0), (0, 4, 0)), ((25, .goto 4, 3, 0, 0, 0, 0), (0, 0, 0))] (by decide +kernel) rfl ?_
        exact hx_reti (by decide +kernel) (h4 c1 c2 c3)

/-- step from 0 on -/
theorem hr30_0 {xs : List Int32} {n : Nat} {Q : hQ} {m : gx_M} (g0 : 0 ≤ (m 3 2) ∧ (m 3 2) ≤ 260)
    (h1 : ((m 3 1) ≤ (m 3 2)) → hxn xs n yp_m25 0 [(0, .inr (.inl 3)), (1, .inl (m 3 2))] [] m (fun r m' => hxn xs n yp_m30 30 [] (hrs r ++ [.inr (.inl 3)]) m' Q))
    (h2 : ((m 3 2) < (m 3 1)) → hxn xs n yp_m25 0 [(0, .inr (.inl 3)), (1, .inl ((m 3 2) + 1))] [] (gx_u m 3 2 ((m 3 2) + 1)) (fun r m' => hxn xs n yp_m30 30 [] (hrs r ++ [.inr (.inl 3)]) m' Q)) : hxn xs (n + 1) yp_m30 0 [(0, .inr (.inl 3))] [] m Q := by
  refine hx_blks (npc := 8) (L' := [(0, .inr (.inl 3))]) (st' := [.inl (m 3 1), .inl (m 3 2)]) (m' := m) ((0, .aload_n 0, 1, 0, 0, 0, 0), (0, 0, 0)) [((1, .getfield 42, 3, 1, 2, 1051, 0), (0, 3, 0)), ((4, .aload_n 0, 1, 0, 0, 0, 0), (0, 0, 0)), ((5, .getfield 24, 3, 1, 1, 1050, 0), (0, 3, 0))] (by decide +kernel) rfl ?_
  refine hx_cmp .ge 21 (by decide +kernel) (fun c1 => ?_) (fun c1 => ?_)
  · have c1 : (m 3 1) ≤ (m 3 2) := c1
    refine hx_blk (npc := 27) (L' := [(0, .inr (.inl 3))]) (st' := [.inl (m 3 2), .inr (.inl 3), .inr (.inl 3)]) (m' := m) [((21, .aload_n 0, 1, 0, 0, 0, 0), (0, 0, 0)), ((22, .aload_n 0, 1, 0, 0, 0, 0), (0, 0, 0)), ((23, .aload_n 0, 1, 0, 0, 0, 0), (0, 0, 0)), ((24, .getfield 42, 3, 1, 2, 1051, 0), (0, 3, 0))] (by decide +kernel) rfl ?_
    exact hx_call (E := (27, .invokevirtual 45, 3, 25, 0, 2229, 0)) (M' := yp_m25) [.inr (.inl 3), .inl (m 3 2)] [.inr (.inl 3)] rfl (by decide +kernel) rfl ⟨rfl, rfl⟩ rfl rfl (hx_mono (h1 c1) (fun r m' h' => hx_pick [] h'))
  · have c1 : (m 3 2) < (m 3 1) := by have h : ¬ ((m 3 1) ≤ (m 3 2)) := c1; omega
    have e1 : gx_w ((m 3 2) + 1) = (m 3 2) + 1 := gx_w_id (by omega) (by omega)
    refine hx_blk (npc := 27) (L' := [(0, .inr (.inl 3))]) (st' := [.inl (gx_w ((m 3 2) + 1)), .inr (.inl 3), .inr (.inl 3)]) (m' := (gx_u m 3 2 (gx_w ((m 3 2) + 1)))) [((11, .aload_n 0, 1, 0, 0, 0, 0), (0, 0, 0)), ((12, .dup, 1, 0, 0, 0, 0), (0, 0, 0)), ((13, .getfield 42, 3, 1, 2, 1051, 0), (0, 3, 0)), ((16, .iconst 1, 1, 0, 0, 0, 0), (0, 0, 0)), ((17, .iadd, 1, 0, 0, 0, 0), (0, 0, 0)), ((18, .putfield 42, 3, 1, 2, 1051, 0), (0, 3, 0)), ((21, .aload_n 0, 1, 0, 0, 0, 0), (0, 0, 0)), ((22, .aload_n 0, 1, 0, 0, 0, 0), (0, 0, 0)), ((23, .aload_n 0, 1, 0, 0, 0, 0), (0, 0, 0)), ((24, .getfield 42, 3, 1, 2, 1051, 0), (0, 3, 0))] (by decide +kernel) rfl ?_
    rw [e1]
    exact hx_call (E := (27, .invokevirtual 45, 3, 25, 0, 2229, 0)) (M' := yp_m25) [.inr (.inl 3), .inl ((m 3 2) + 1)] [.inr (.inl 3)] rfl (by decide +kernel) rfl ⟨rfl, rfl⟩ rfl rfl (hx_mono (h2 c1) (fun r m' h' => hx_pick [] h'))

/-- step from 30 on -/
theorem hr30_30 {xs : List Int32} {n : Nat} {Q : hQ} {m : gx_M} {s1 : Int}
    (h1 : Q none (gx_u m 3 3 s1)) : hxn xs (n + 1) yp_m30 30 [] [.inl s1, .inr (.inl 3)] m Q := by
  refine hx_blks (npc := 33) (L' := []) (st' := []) (m' := (gx_u m 3 3 s1)) ((30, .putfield 49, 3, 1, 3, 1054, 0), (0, 3, 0)) [] (by decide +kernel) rfl ?_
  exact hx_ret0 (by decide +kernel) h1

/-- blame from 0 on -/
theorem hr29_0 {xs : List Int32} {n : Nat} {Q : hQ} {m : gx_M} {x1 x2 : Int}
    (h1 : ((m 3 4) ≠ 0) → Q (some (.inl 0)) m)
    (h2 : ((m 3 4) = 0) → Q (some (.inl 0)) (gx_u m 3 4 (gx_w ((gx_w ((-1000) * x1)) - x2)))) : hxn xs (n + 1) yp_m29 0 [(0, .inr (.inl 3)), (1, .inl x1), (2, .inl x2)] [] m Q := by
  refine hx_blks (npc := 4) (L' := [(0, .inr (.inl 3)), (1, .inl x1), (2, .inl x2)]) (st' := [.inl (m 3 4)]) (m' := m) ((0, .aload_n 0, 1, 0, 0, 0, 0), (0, 0, 0)) [((1, .getfield 52, 3, 1, 4, 1057, 0), (0, 3, 0))] (by decide +kernel) rfl ?_
  refine hx_if .ne 18 (by decide +kernel) (fun c1 => ?_) (fun c1 => ?_)
  · have c1 : (m 3 4) ≠ 0 := c1
    refine hx_blk (npc := 19) (L' := [(0, .inr (.inl 3)), (1, .inl x1), (2, .inl x2)]) (st' := [.inl 0]) (m' := m) [((18, .iconst 0, 1, 0, 0, 0, 0), (0, 0, 0))] (by decide +kernel) rfl ?_
    exact hx_reti (by decide +kernel) (h1 c1)
  · have c1 : (m 3 4) = 0 := by have h : ¬ ((m 3 4) ≠ 0) := c1; omega
    refine hx_blk (npc := 19) (L' := [(0, .inr (.inl 3)), (1, .inl x1), (2, .inl x2)]) (st' := [.inl 0]) (m' := (gx_u m 3 4 (gx_w ((gx_w ((-1000) * x1)) - x2)))) [((7, .aload_n 0, 1, 0, 0, 0, 0), (0, 0, 0)), ((8, .sipush (-1000), 3, 0, 0, 0, 0), (0, 0, 0)), ((11, .iload_n 1, 1, 0, 0, 0, 0), (0, 0, 0)), ((12, .imul, 1, 0, 0, 0, 0), (0, 0, 0)), ((13, .iload_n 2, 1, 0, 0, 0, 0), (0, 0, 0)), ((14, .isub, 1, 0, 0, 0, 0), (0, 0, 0)), ((15, .putfield 52, 3, 1, 4, 1057, 0), (0, 3, 0)), ((18, .iconst 0, 1, 0, 0, 0, 0), (0, 0, 0))] (by decide +kernel) rfl ?_
    exact hx_reti (by decide +kernel) (h2 c1)

/-- misplaced from 0 on -/
theorem hr28_0 {xs : List Int32} {n : Nat} {Q : hQ} {m : gx_M}
    (h1 : hxn xs n yp_m29 0 [(0, .inr (.inl 3)), (1, .inl 1), (2, .inl (m 3 2))] [] m (fun r m' => hxn xs n yp_m28 9 [] (hrs r ++ []) m' Q)) : hxn xs (n + 1) yp_m28 0 [(0, .inr (.inl 3))] [] m Q := by
  refine hx_blks (npc := 6) (L' := [(0, .inr (.inl 3))]) (st' := [.inl (m 3 2), .inl 1, .inr (.inl 3)]) (m' := m) ((0, .aload_n 0, 1, 0, 0, 0, 0), (0, 0, 0)) [((1, .iconst 1, 1, 0, 0, 0, 0), (0, 0, 0)), ((2, .aload_n 0, 1, 0, 0, 0, 0), (0, 0, 0)), ((3, .getfield 42, 3, 1, 2, 1051, 0), (0, 3, 0))] (by decide +kernel) rfl ?_
  exact hx_call (E := (6, .invokevirtual 55, 3, 29, 0, 3005, 0)) (M' := yp_m29) [.inr (.inl 3), .inl 1, .inl (m 3 2)] [] rfl (by decide +kernel) rfl ⟨rfl, rfl⟩ rfl rfl (hx_mono h1 (fun r m' h' => hx_pick [] h'))

/-- misplaced from 9 on -/
theorem hr28_9 {xs : List Int32} {n : Nat} {Q : hQ} {m : gx_M} {s0 : Int}
    (h1 : Q (some (.inl s0)) m) : hxn xs (n + 1) yp_m28 9 [] [.inl s0] m Q := by
  exact hx_reti (by decide +kernel) h1

/-- pass from 0 on -/
theorem hr37_0 {xs : List Int32} {n : Nat} {Q : hQ} {m : gx_M} {x1 : Int}
    (h1 : ((m 3 3) = x1) → hxn xs n yp_m30 0 [(0, .inr (.inl 3))] [] m (fun r m' => hxn xs n yp_m37 17 [] (hrs r ++ []) m' Q))
    (h2 : ((m 3 3) ≠ x1) → hxn xs n yp_m28 0 [(0, .inr (.inl 3))] [] m (fun r m' => hxn xs n yp_m37 12 [] (hrs r ++ []) m' Q)) : hxn xs (n + 1) yp_m37 0 [(0, .inr (.inl 3)), (1, .inl x1)] [] m Q := by
  refine hx_blks (npc := 5) (L' := [(0, .inr (.inl 3)), (1, .inl x1)]) (st' := [.inl x1, .inl (m 3 3)]) (m' := m) ((0, .aload_n 0, 1, 0, 0, 0, 0), (0, 0, 0)) [((1, .getfield 49, 3, 1, 3, 1054, 0), (0, 3, 0)), ((4, .iload_n 1, 1, 0, 0, 0, 0), (0, 0, 0))] (by decide +kernel) rfl ?_
  refine hx_cmp .eq 13 (by decide +kernel) (fun c1 => ?_) (fun c1 => ?_)
  · have c1 : (m 3 3) = x1 := c1
    refine hx_blk (npc := 14) (L' := [(0, .inr (.inl 3)), (1, .inl x1)]) (st' := [.inr (.inl 3)]) (m' := m) [((13, .aload_n 0, 1, 0, 0, 0, 0), (0, 0, 0))] (by decide +kernel) rfl ?_
    exact hx_call (E := (14, .invokevirtual 63, 3, 30, 0, 3035, 0)) (M' := yp_m30) [.inr (.inl 3)] [] rfl (by decide +kernel) rfl ⟨rfl, rfl⟩ rfl rfl (hx_mono (h1 c1) (fun r m' h' => hx_pick [] h'))
  · have c1 : (m 3 3) ≠ x1 := c1
    refine hx_blk (npc := 9) (L' := [(0, .inr (.inl 3)), (1, .inl x1)]) (st' := [.inr (.inl 3)]) (m' := m) [((8, .aload_n 0, 1, 0, 0, 0, 0), (0, 0, 0))] (by decide +kernel) rfl ?_
    exact hx_call (E := (9, .invokevirtual 59, 3, 28, 0, 3044, 0)) (M' := yp_m28) [.inr (.inl 3)] [] rfl (by decide +kernel) rfl ⟨rfl, rfl⟩ rfl rfl (hx_mono (h2 c1) (fun r m' h' => hx_pick [] h'))

/-- pass from 12 on -/
theorem hr37_12 {xs : List Int32} {n : Nat} {Q : hQ} {m : gx_M} {s0 : Int}
    (h1 : Q (some (.inl s0)) m) : hxn xs (n + 1) yp_m37 12 [] [.inl s0] m Q := by
  exact hx_reti (by decide +kernel) h1

/-- pass from 17 on -/
theorem hr37_17 {xs : List Int32} {n : Nat} {Q : hQ} {m : gx_M}
    (h1 : Q (some (.inl 1)) m) : hxn xs (n + 1) yp_m37 17 [] [] m Q := by
  refine hx_blks (npc := 18) (L' := []) (st' := [.inl 1]) (m' := m) ((17, .iconst 1, 1, 0, 0, 0, 0), (0, 0, 0)) [] (by decide +kernel) rfl ?_
  exact hx_reti (by decide +kernel) h1

/-- emit from 0 on -/
theorem hr36_0 {xs : List Int32} {n : Nat} {Q : hQ} {m : gx_M} {x1 x2 : Int}
    (h1 : ((m 53 2) < 0) → Q (some (.inl (-1))) m)
    (h2 : (0 ≤ (m 53 2)) → ((m 53 2) < 240) → Q (some (.inl (m 53 2))) (gx_u (gx_u (gx_u m 54 (m 53 2).toNat x1) 55 (m 53 2).toNat x2) 53 2 ((m 53 2) + 1)))
    (h3 : (0 ≤ (m 53 2)) → (240 ≤ (m 53 2)) → Q (some (.inl (-1))) m) : hxn xs (n + 1) yp_m36 0 [(0, .inr (.inl 53)), (1, .inl x1), (2, .inl x2)] [] m Q := by
  refine hx_blks (npc := 4) (L' := [(0, .inr (.inl 53)), (1, .inl x1), (2, .inl x2)]) (st' := [.inl (m 53 2)]) (m' := m) ((0, .aload_n 0, 1, 0, 0, 0, 0), (0, 0, 0)) [((1, .getfield 43, 3, 3, 2, 1181, 0), (0, 53, 0))] (by decide +kernel) rfl ?_
  refine hx_if .lt 17 (by decide +kernel) (fun c1 => ?_) (fun c1 => ?_)
  · have c1 : (m 53 2) < 0 := c1
    refine hx_blk (npc := 18) (L' := [(0, .inr (.inl 53)), (1, .inl x1), (2, .inl x2)]) (st' := [.inl (-1)]) (m' := m) [((17, .iconst (-1), 1, 0, 0, 0, 0), (0, 0, 0))] (by decide +kernel) rfl ?_
    exact hx_reti (by decide +kernel) (h1 c1)
  · have c1 : 0 ≤ (m 53 2) := by have h : ¬ ((m 53 2) < 0) := c1; omega
    refine hx_blk (npc := 14) (L' := [(0, .inr (.inl 53)), (1, .inl x1), (2, .inl x2)]) (st' := [.inl 240, .inl (m 53 2)]) (m' := m) [((7, .aload_n 0, 1, 0, 0, 0, 0), (0, 0, 0)), ((8, .getfield 43, 3, 3, 2, 1181, 0), (0, 53, 0)), ((11, .sipush 240, 3, 0, 0, 0, 0), (0, 0, 0))] (by decide +kernel) rfl ?_
    refine hx_cmp .lt 19 (by decide +kernel) (fun c2 => ?_) (fun c2 => ?_)
    · have c2 : (m 53 2) < 240 := c2
      have e1 : gx_w ((m 53 2) + 1) = (m 53 2) + 1 := gx_w_id (by omega) (by omega)
      refine hx_blk (npc := 50) (L' := [(0, .inr (.inl 53)), (1, .inl x1), (2, .inl x2)]) (st' := [.inl (m 53 2)]) (m' := (gx_u (gx_u (gx_u m 54 (m 53 2).toNat x1) 55 (m 53 2).toNat x2) 53 2 (gx_w ((m 53 2) + 1)))) [((19, .aload_n 0, 1, 0, 0, 0, 0), (0, 0, 0)), ((20, .getfield 9, 3, 3, 0, 1178, 0), (1, 53, 54)), ((23, .aload_n 0, 1, 0, 0, 0, 0), (0, 0, 0)), ((24, .getfield 43, 3, 3, 2, 1181, 0), (0, 53, 0)), ((27, .iload_n 1, 1, 0, 0, 0, 0), (0, 0, 0)), ((28, .iastore, 1, 0, 0, 0, 0), (0, 54, 0)), ((29, .aload_n 0, 1, 0, 0, 0, 0), (0, 0, 0)), ((30, .getfield 15, 3, 3, 1, 1179, 0), (1, 53, 55)), ((33, .aload_n 0, 1, 0, 0, 0, 0), (0, 0, 0)), ((34, .getfield 43, 3, 3, 2, 1181, 0), (0, 53, 0)), ((37, .iload_n 2, 1, 0, 0, 0, 0), (0, 0, 0)), ((38, .iastore, 1, 0, 0, 0, 0), (0, 55, 0)), ((39, .aload_n 0, 1, 0, 0, 0, 0), (0, 0, 0)), ((40, .dup, 1, 0, 0, 0, 0), (0, 0, 0)), ((41, .getfield 43, 3, 3, 2, 1181, 0), (0, 53, 0)), ((44, .dup_x1, 1, 0, 0, 0, 0), (0, 0, 0)), ((45, .iconst 1, 1, 0, 0, 0, 0), (0, 0, 0)), ((46, .iadd, 1, 0, 0, 0, 0), (0, 0, 0)), ((47, .putfield 43, 3, 3, 2, 1181, 0), (0, 53, 0))] (by decide +kernel) rfl ?_
      rw [e1]
      exact hx_reti (by decide +kernel) (h2 c1 c2)
    · have c2 : 240 ≤ (m 53 2) := by have h : ¬ ((m 53 2) < 240) := c2; omega
      refine hx_blk (npc := 18) (L' := [(0, .inr (.inl 53)), (1, .inl x1), (2, .inl x2)]) (st' := [.inl (-1)]) (m' := m) [((17, .iconst (-1), 1, 0, 0, 0, 0), (0, 0, 0))] (by decide +kernel) rfl ?_
      exact hx_reti (by decide +kernel) (h3 c1 c2)

/-- jumpToHere from 0 on -/
theorem hr44_0 {xs : List Int32} {n : Nat} {Q : hQ} {m : gx_M} {x1 : Int}
    (h1 : (x1 < 0) → Q none m)
    (h2 : (0 ≤ x1) → (240 ≤ x1) → Q none m)
    (h3 : (0 ≤ x1) → (x1 < 240) → Q none (gx_u m 55 (x1).toNat (m 53 2))) : hxn xs (n + 1) yp_m44 0 [(0, .inr (.inl 53)), (1, .inl x1)] [] m Q := by
  refine hx_blks (npc := 1) (L' := [(0, .inr (.inl 53)), (1, .inl x1)]) (st' := [.inl x1]) (m' := m) ((0, .iload_n 1, 1, 0, 0, 0, 0), (0, 0, 0)) [] (by decide +kernel) rfl ?_
  refine hx_if .lt 21 (by decide +kernel) (fun c1 => ?_) (fun c1 => ?_)
  · have c1 : x1 < 0 := c1
    exact hx_ret0 (by decide +kernel) (h1 c1)
  · have c1 : 0 ≤ x1 := by have h : ¬ (x1 < 0) := c1; omega
    refine hx_blk (npc := 8) (L' := [(0, .inr (.inl 53)), (1, .inl x1)]) (st' := [.inl 240, .inl x1]) (m' := m) [((4, .iload_n 1, 1, 0, 0, 0, 0), (0, 0, 0)), ((5, .sipush 240, 3, 0, 0, 0, 0), (0, 0, 0))] (by decide +kernel) rfl ?_
    refine hx_cmp .ge 21 (by decide +kernel) (fun c2 => ?_) (fun c2 => ?_)
    · have c2 : 240 ≤ x1 := c2
      exact hx_ret0 (by decide +kernel) (h2 c1 c2)
    · have c2 : x1 < 240 := by have h : ¬ (240 ≤ x1) := c2; omega
      refine hx_blk (npc := 21) (L' := [(0, .inr (.inl 53)), (1, .inl x1)]) (st' := []) (m' := (gx_u m 55 (x1).toNat (m 53 2))) [((11, .aload_n 0, 1, 0, 0, 0, 0), (0, 0, 0)), ((12, .getfield 15, 3, 3, 1, 1179, 0), (1, 53, 55)), ((15, .iload_n 1, 1, 0, 0, 0, 0), (0, 0, 0)), ((16, .aload_n 0, 1, 0, 0, 0, 0), (0, 0, 0)), ((17, .getfield 43, 3, 3, 2, 1181, 0), (0, 53, 0)), ((20, .iastore, 1, 0, 0, 0, 0), (0, 55, 0))] (by decide +kernel) rfl ?_
      exact hx_ret0 (by decide +kernel) (h3 c1 c2)

/-- ended from 0 on -/
theorem hr46_0 {xs : List Int32} {n : Nat} {Q : hQ} {m : gx_M}
    (h1 : ((m 3 2) < (m 3 1)) → Q (some (.inl 0)) m)
    (h2 : ((m 3 1) ≤ (m 3 2)) → Q (some (.inl 1)) m) : hxn xs (n + 1) yp_m46 0 [(0, .inr (.inl 3))] [] m Q := by
  refine hx_blks (npc := 8) (L' := [(0, .inr (.inl 3))]) (st' := [.inl (m 3 1), .inl (m 3 2)]) (m' := m) ((0, .aload_n 0, 1, 0, 0, 0, 0), (0, 0, 0)) [((1, .getfield 42, 3, 1, 2, 1051, 0), (0, 3, 0)), ((4, .aload_n 0, 1, 0, 0, 0, 0), (0, 0, 0)), ((5, .getfield 24, 3, 1, 1, 1050, 0), (0, 3, 0))] (by decide +kernel) rfl ?_
  refine hx_cmp .lt 15 (by decide +kernel) (fun c1 => ?_) (fun c1 => ?_)
  · have c1 : (m 3 2) < (m 3 1) := c1
    refine hx_blk (npc := 16) (L' := [(0, .inr (.inl 3))]) (st' := [.inl 0]) (m' := m) [((15, .iconst 0, 1, 0, 0, 0, 0), (0, 0, 0))] (by decide +kernel) rfl ?_
    exact hx_reti (by decide +kernel) (h1 c1)
  · have c1 : (m 3 1) ≤ (m 3 2) := by have h : ¬ ((m 3 2) < (m 3 1)) := c1; omega
    refine hx_blk (npc := 16) (L' := [(0, .inr (.inl 3))]) (st' := [.inl 1]) (m' := m) [((11, .iconst 1, 1, 0, 0, 0, 0), (0, 0, 0)), ((12, .goto 4, 3, 0, 0, 0, 0), (0, 0, 0))] (by decide +kernel) rfl ?_
    exact hx_reti (by decide +kernel) (h2 c1)

/-- close from 0 on -/
theorem hr45_0 {xs : List Int32} {n : Nat} {Q : hQ} {m : gx_M} {x1 x2 x3 : Int}
    (h1 : ((m 53 7) < 0) → Q none m)
    (h2 : (0 ≤ (m 53 7)) → ((m 53 7) < 16) → Q none (gx_u (gx_u (gx_u (gx_u (gx_u m 56 (m 53 7).toNat x1) 57 (m 53 7).toNat x2) 58 (m 53 7).toNat x3) 59 (m 53 7).toNat (m 53 2)) 53 7 ((m 53 7) + 1)))
    (h3 : (0 ≤ (m 53 7)) → (16 ≤ (m 53 7)) → Q none m) : hxn xs (n + 1) yp_m45 0 [(0, .inr (.inl 53)), (1, .inl x1), (2, .inl x2), (3, .inl x3)] [] m Q := by
  refine hx_blks (npc := 4) (L' := [(0, .inr (.inl 53)), (1, .inl x1), (2, .inl x2), (3, .inl x3)]) (st' := [.inl (m 53 7)]) (m' := m) ((0, .aload_n 0, 1, 0, 0, 0, 0), (0, 0, 0)) [((1, .getfield 39, 3, 3, 7, 1187, 0), (0, 53, 0))] (by decide +kernel) rfl ?_
  refine hx_if .lt 16 (by decide +kernel) (fun c1 => ?_) (fun c1 => ?_)
  · have c1 : (m 53 7) < 0 := c1
    exact hx_ret0 (by decide +kernel) (h1 c1)
  · have c1 : 0 ≤ (m 53 7) := by have h : ¬ ((m 53 7) < 0) := c1; omega
    refine hx_blk (npc := 13) (L' := [(0, .inr (.inl 53)), (1, .inl x1), (2, .inl x2), (3, .inl x3)]) (st' := [.inl 16, .inl (m 53 7)]) (m' := m) [((7, .aload_n 0, 1, 0, 0, 0, 0), (0, 0, 0)), ((8, .getfield 39, 3, 3, 7, 1187, 0), (0, 53, 0)), ((11, .bipush 16, 2, 0, 0, 0, 0), (0, 0, 0))] (by decide +kernel) rfl ?_
    refine hx_cmp .lt 17 (by decide +kernel) (fun c2 => ?_) (fun c2 => ?_)
    · have c2 : (m 53 7) < 16 := c2
      have e1 : gx_w ((m 53 7) + 1) = (m 53 7) + 1 := gx_w_id (by omega) (by omega)
      refine hx_blk (npc := 70) (L' := [(0, .inr (.inl 53)), (1, .inl x1), (2, .inl x2), (3, .inl x3)]) (st' := []) (m' := (gx_u (gx_u (gx_u (gx_u (gx_u m 56 (m 53 7).toNat x1) 57 (m 53 7).toNat x2) 58 (m 53 7).toNat x3) 59 (m 53 7).toNat (m 53 2)) 53 7 (gx_w ((m 53 7) + 1)))) [((17, .aload_n 0, 1, 0, 0, 0, 0), (0, 0, 0)), ((18, .getfield 18, 3, 3, 3, 1182, 0), (1, 53, 56)), ((21, .aload_n 0, 1, 0, 0, 0, 0), (0, 0, 0)), ((22, .getfield 39, 3, 3, 7, 1187, 0), (0, 53, 0)), ((25, .iload_n 1, 1, 0, 0, 0, 0), (0, 0, 0)), ((26, .iastore, 1, 0, 0, 0, 0), (0, 56, 0)), ((27, .aload_n 0, 1, 0, 0, 0, 0), (0, 0, 0)), ((28, .getfield 21, 3, 3, 4, 1183, 0), (1, 53, 57)), ((31, .aload_n 0, 1, 0, 0, 0, 0), (0, 0, 0)), ((32, .getfield 39, 3, 3, 7, 1187, 0), (0, 53, 0)), ((35, .iload_n 2, 1, 0, 0, 0, 0), (0, 0, 0)), ((36, .iastore, 1, 0, 0, 0, 0), (0, 57, 0)), ((37, .aload_n 0, 1, 0, 0, 0, 0), (0, 0, 0)), ((38, .getfield 24, 3, 3, 5, 1184, 0), (1, 53, 58)), ((41, .aload_n 0, 1, 0, 0, 0, 0), (0, 0, 0)), ((42, .getfield 39, 3, 3, 7, 1187, 0), (0, 53, 0)), ((45, .iload_n 3, 1, 0, 0, 0, 0), (0, 0, 0)), ((46, .iastore, 1, 0, 0, 0, 0), (0, 58, 0)), ((47, .aload_n 0, 1, 0, 0, 0, 0), (0, 0, 0)), ((48, .getfield 27, 3, 3, 6, 1185, 0), (1, 53, 59)), ((51, .aload_n 0, 1, 0, 0, 0, 0), (0, 0, 0)), ((52, .getfield 39, 3, 3, 7, 1187, 0), (0, 53, 0)), ((55, .aload_n 0, 1, 0, 0, 0, 0), (0, 0, 0)), ((56, .getfield 43, 3, 3, 2, 1181, 0), (0, 53, 0)), ((59, .iastore, 1, 0, 0, 0, 0), (0, 59, 0)), ((60, .aload_n 0, 1, 0, 0, 0, 0), (0, 0, 0)), ((61, .dup, 1, 0, 0, 0, 0), (0, 0, 0)), ((62, .getfield 39, 3, 3, 7, 1187, 0), (0, 53, 0)), ((65, .iconst 1, 1, 0, 0, 0, 0), (0, 0, 0)), ((66, .iadd, 1, 0, 0, 0, 0), (0, 0, 0)), ((67, .putfield 39, 3, 3, 7, 1187, 0), (0, 53, 0))] (by decide +kernel) rfl ?_
      rw [e1]
      exact hx_ret0 (by decide +kernel) (h2 c1 c2)
    · have c2 : 16 ≤ (m 53 7) := by have h : ¬ ((m 53 7) < 16) := c2; omega
      exact hx_ret0 (by decide +kernel) (h3 c1 c2)

/-- has from 0 on -/
theorem hr23_0 {xs : List Int32} {n : Nat} {Q : hQ} {m : gx_M} {x1 x2 : Int}
    (h1 : (x1 < 1) → Q (some (.inl 0)) m)
    (h2 : (1 ≤ x1) → (x2 < x1) → Q (some (.inl 0)) m)
    (h3 : (1 ≤ x1) → (x1 ≤ x2) → ((m 1 1) < x1) → Q (some (.inl 0)) m)
    (h4 : (1 ≤ x1) → (x1 ≤ x2) → (x1 ≤ (m 1 1)) → Q (some (.inl 1)) m) : hxn xs (n + 1) yp_m23 0 [(0, .inr (.inl 1)), (1, .inl x1), (2, .inl x2)] [] m Q := by
  refine hx_blks (npc := 2) (L' := [(0, .inr (.inl 1)), (1, .inl x1), (2, .inl x2)]) (st' := [.inl 1, .inl x1]) (m' := m) ((0, .iload_n 1, 1, 0, 0, 0, 0), (0, 0, 0)) [((1, .iconst 1, 1, 0, 0, 0, 0), (0, 0, 0))] (by decide +kernel) rfl ?_
  refine hx_cmp .lt 22 (by decide +kernel) (fun c1 => ?_) (fun c1 => ?_)
  · have c1 : x1 < 1 := c1
    refine hx_blk (npc := 23) (L' := [(0, .inr (.inl 1)), (1, .inl x1), (2, .inl x2)]) (st' := [.inl 0]) (m' := m) [((22, .iconst 0, 1, 0, 0, 0, 0), (0, 0, 0))] (by decide +kernel) rfl ?_
    exact hx_reti (by decide +kernel) (h1 c1)
  · have c1 : 1 ≤ x1 := by have h : ¬ (x1 < 1) := c1; omega
    refine hx_blk (npc := 7) (L' := [(0, .inr (.inl 1)), (1, .inl x1), (2, .inl x2)]) (st' := [.inl x2, .inl x1]) (m' := m) [((5, .iload_n 1, 1, 0, 0, 0, 0), (0, 0, 0)), ((6, .iload_n 2, 1, 0, 0, 0, 0), (0, 0, 0))] (by decide +kernel) rfl ?_
    refine hx_cmp .gt 22 (by decide +kernel) (fun c2 => ?_) (fun c2 => ?_)
    · have c2 : x2 < x1 := c2
      refine hx_blk (npc := 23) (L' := [(0, .inr (.inl 1)), (1, .inl x1), (2, .inl x2)]) (st' := [.inl 0]) (m' := m) [((22, .iconst 0, 1, 0, 0, 0, 0), (0, 0, 0))] (by decide +kernel) rfl ?_
      exact hx_reti (by decide +kernel) (h2 c1 c2)
    · have c2 : x1 ≤ x2 := by have h : ¬ (x2 < x1) := c2; omega
      refine hx_blk (npc := 15) (L' := [(0, .inr (.inl 1)), (1, .inl x1), (2, .inl x2)]) (st' := [.inl (m 1 1), .inl x1]) (m' := m) [((10, .iload_n 1, 1, 0, 0, 0, 0), (0, 0, 0)), ((11, .aload_n 0, 1, 0, 0, 0, 0), (0, 0, 0)), ((12, .getfield 15, 3, 0, 1, 1033, 0), (0, 1, 0))] (by decide +kernel) rfl ?_
      refine hx_cmp .gt 22 (by decide +kernel) (fun c3 => ?_) (fun c3 => ?_)
      · have c3 : (m 1 1) < x1 := c3
        refine hx_blk (npc := 23) (L' := [(0, .inr (.inl 1)), (1, .inl x1), (2, .inl x2)]) (st' := [.inl 0]) (m' := m) [((22, .iconst 0, 1, 0, 0, 0, 0), (0, 0, 0))] (by decide +kernel) rfl ?_
        exact hx_reti (by decide +kernel) (h3 c1 c2 c3)
      · have c3 : x1 ≤ (m 1 1) := by have h : ¬ ((m 1 1) < x1) := c3; omega
        refine hx_blk (npc := 23) (L' := [(0, .inr (.inl 1)), (1, .inl x1), (2, .inl x2)]) (st' := [.inl 1]) (m' := m) [((18, .iconst 1, 1, 0, 0, 0, 0), (0, 0, 0)), ((19, .goto 4, 3, 0, 0, 0, 0), (0, 0, 0))] (by decide +kernel) rfl ?_
        exact hx_reti (by decide +kernel) (h4 c1 c2 c3)

/-- take from 0 on -/
theorem hr24_0 {xs : List Int32} {n : Nat} {Q : hQ} {m : gx_M} {x2 : Int}
    (h1 : hxn xs n yp_m25 0 [(0, .inr (.inl 3)), (1, .inl 0)] [] (gx_u (gx_u (hcopy (gx_u m 3 1 (if 0 < (if 260 < x2 then 260 else x2) then (if 260 < x2 then 260 else x2) else 0)) 2 0 4 0 (if 0 < (if 260 < x2 then 260 else x2) then (if 260 < x2 then 260 else x2) else 0).toNat) 1 1 0) 3 2 0) (fun r m' => hxn xs n yp_m24 48 [(0, .inr (.inl 3))] (hrs r ++ [.inr (.inl 3)]) m' Q)) : hxn xs (n + 1) yp_m24 0 [(0, .inr (.inl 3)), (1, .inr (.inl 1)), (2, .inl x2)] [] m Q := by
  refine hx_blks (npc := 45) (L' := [(0, .inr (.inl 3)), (1, .inr (.inl 1)), (2, .inl x2)]) (st' := [.inl 0, .inr (.inl 3), .inr (.inl 3)]) (m' := (gx_u (gx_u (hcopy (gx_u m 3 1 (if 0 < (if 260 < x2 then 260 else x2) then (if 260 < x2 then 260 else x2) else 0)) 2 0 4 0 (if 0 < (if 260 < x2 then 260 else x2) then (if 260 < x2 then 260 else x2) else 0).toNat) 1 1 0) 3 2 0)) ((0, .aload_n 0, 1, 0, 0, 0, 0), (0, 0, 0)) [((1, .iconst 0, 1, 0, 0, 0, 0), (0, 0, 0)), ((2, .iload_n 2, 1, 0, 0, 0, 0), (0, 0, 0)), ((3, .sipush 260, 3, 0, 0, 0, 0), (0, 0, 0)), ((6, .invokestatic 15, 3, 1003, 2221, 2220, 1013002222), (0, 0, 0)), ((9, .invokestatic 21, 3, 1002, 2224, 2223, 1013002225), (0, 0, 0)), ((12, .putfield 24, 3, 1, 1, 1050, 0), (0, 3, 0)), ((15, .aload_n 1, 1, 0, 0, 0, 0), (0, 0, 0)), ((16, .getfield 28, 3, 0, 0, 1032, 0), (1, 1, 2)), ((19, .iconst 0, 1, 0, 0, 0, 0), (0, 0, 0)), ((20, .aload_n 0, 1, 0, 0, 0, 0), (0, 0, 0)), ((21, .getfield 9, 3, 1, 0, 1048, 0), (1, 3, 4)), ((24, .iconst 0, 1, 0, 0, 0, 0), (0, 0, 0)), ((25, .aload_n 0, 1, 0, 0, 0, 0), (0, 0, 0)), ((26, .getfield 24, 3, 1, 1, 1050, 0), (0, 3, 0)), ((29, .invokestatic 33, 3, 1001, 2228, 2226, 1014), (0, 2, 4)), ((32, .aload_n 1, 1, 0, 0, 0, 0), (0, 0, 0)), ((33, .iconst 0, 1, 0, 0, 0, 0), (0, 0, 0)), ((34, .putfield 39, 3, 0, 1, 1034, 0), (0, 1, 0)), ((37, .aload_n 0, 1, 0, 0, 0, 0), (0, 0, 0)), ((38, .iconst 0, 1, 0, 0, 0, 0), (0, 0, 0)), ((39, .putfield 42, 3, 1, 2, 1051, 0), (0, 3, 0)), ((42, .aload_n 0, 1, 0, 0, 0, 0), (0, 0, 0)), ((43, .aload_n 0, 1, 0, 0, 0, 0), (0, 0, 0)), ((44, .iconst 0, 1, 0, 0, 0, 0), (0, 0, 0))] (by decide +kernel) rfl ?_
  exact hx_call (E := (45, .invokevirtual 45, 3, 25, 0, 2229, 0)) (M' := yp_m25) [.inr (.inl 3), .inl 0] [.inr (.inl 3)] rfl (by decide +kernel) rfl ⟨rfl, rfl⟩ rfl rfl (hx_mono h1 (fun r m' h' => hx_pick [0] h'))

/-- take from 48 on -/
theorem hr24_48 {xs : List Int32} {n : Nat} {Q : hQ} {m : gx_M} {s1 : Int}
    (h1 : Q none (gx_u (gx_u m 3 3 s1) 3 4 0)) : hxn xs (n + 1) yp_m24 48 [(0, .inr (.inl 3))] [.inl s1, .inr (.inl 3)] m Q := by
  refine hx_blks (npc := 56) (L' := [(0, .inr (.inl 3))]) (st' := []) (m' := (gx_u (gx_u m 3 3 s1) 3 4 0)) ((48, .putfield 49, 3, 1, 3, 1054, 0), (0, 3, 0)) [((51, .aload_n 0, 1, 0, 0, 0, 0), (0, 0, 0)), ((52, .iconst 0, 1, 0, 0, 0, 0), (0, 0, 0)), ((53, .putfield 52, 3, 1, 4, 1057, 0), (0, 3, 0))] (by decide +kernel) rfl ?_
  exact hx_ret0 (by decide +kernel) h1

/-- digits from 0 on -/
theorem hr35_0 {xs : List Int32} {n : Nat} {Q : hQ} {m : gx_M} {x1 : Int}
    (h1 : hxn xs n yp_m35 4 [(0, .inr (.inl 3)), (1, .inl x1), (2, .inl 0), (3, .inl 0)] [] m Q) : hxn xs (n + 1) yp_m35 0 [(0, .inr (.inl 3)), (1, .inl x1)] [] m Q := by
  refine hx_blks (npc := 4) (L' := [(0, .inr (.inl 3)), (1, .inl x1), (2, .inl 0), (3, .inl 0)]) (st' := []) (m' := m) ((0, .iconst 0, 1, 0, 0, 0, 0), (0, 0, 0)) [((1, .istore_n 2, 1, 0, 0, 0, 0), (0, 0, 0)), ((2, .iconst 0, 1, 0, 0, 0, 0), (0, 0, 0)), ((3, .istore_n 3, 1, 0, 0, 0, 0), (0, 0, 0))] (by decide +kernel) rfl ?_
  exact hx_pick [0, 1, 2, 3] h1

/-- digits from 4 on -/
theorem hr35_4 {xs : List Int32} {n : Nat} {Q : hQ} {m : gx_M} {x1 x2 x3 : Int} (r_x3 : 0 ≤ x3 ∧ x3 ≤ 100)
    (h1 : (x1 ≤ x3) → Q (some (.inl x2)) m)
    (h2 : (x3 < x1) → (isDg (m 3 3)) → hxn xs n yp_m30 0 [(0, .inr (.inl 3))] [] m (fun r m' => hxn xs n yp_m35 33 [(0, .inr (.inl 3)), (1, .inl x1), (2, .inl (gx_w ((gx_w ((gx_w (10 * x2)) + (m 3 3))) - 48))), (3, .inl x3)] (hrs r ++ []) m' Q))
    (h3 : (x3 < x1) → (¬ (isDg (m 3 3))) → Q (some (.inl x2)) m) : hxn xs (n + 1) yp_m35 4 [(0, .inr (.inl 3)), (1, .inl x1), (2, .inl x2), (3, .inl x3)] [] m Q := by
  refine hx_blks (npc := 6) (L' := [(0, .inr (.inl 3)), (1, .inl x1), (2, .inl x2), (3, .inl x3)]) (st' := [.inl x1, .inl x3]) (m' := m) ((4, .iload_n 3, 1, 0, 0, 0, 0), (0, 0, 0)) [((5, .iload_n 1, 1, 0, 0, 0, 0), (0, 0, 0))] (by decide +kernel) rfl ?_
  refine hx_cmp .ge 39 (by decide +kernel) (fun c1 => ?_) (fun c1 => ?_)
  · have c1 : x1 ≤ x3 := c1
    refine hx_blk (npc := 40) (L' := [(0, .inr (.inl 3)), (1, .inl x1), (2, .inl x2), (3, .inl x3)]) (st' := [.inl x2]) (m' := m) [((39, .iload_n 2, 1, 0, 0, 0, 0), (0, 0, 0))] (by decide +kernel) rfl ?_
    exact hx_reti (by decide +kernel) (h1 c1)
  · have c1 : x3 < x1 := by have h : ¬ (x1 ≤ x3) := c1; omega
    refine hx_blk (npc := 10) (L' := [(0, .inr (.inl 3)), (1, .inl x1), (2, .inl x2), (3, .inl x3)]) (st' := [.inr (.inl 3)]) (m' := m) [((9, .aload_n 0, 1, 0, 0, 0, 0), (0, 0, 0))] (by decide +kernel) rfl ?_
    refine hx_call (E := (10, .invokevirtual 66, 3, 34, 0, 3034, 0)) (M' := yp_m34) [.inr (.inl 3)] [] rfl (by decide +kernel) rfl ⟨rfl, rfl⟩ rfl rfl (hs34 (fun c2 => ?_) (fun c2 => ?_))
    · have c2 : isDg (m 3 3) := c2
      show hxn xs n yp_m35 13 [(0, .inr (.inl 3)), (1, .inl x1), (2, .inl x2), (3, .inl x3)] [.inl 1] m Q
      refine hx_if .eq 39 (by decide +kernel) (fun c3 => ?_) (fun c3 => ?_)
      · have c3 : (1 : Int) = 0 := c3
        exfalso; omega
      · have c3 : (1 : Int) ≠ 0 := c3
        refine hx_blk (npc := 30) (L' := [(0, .inr (.inl 3)), (1, .inl x1), (2, .inl (gx_w ((gx_w ((gx_w (10 * x2)) + (m 3 3))) - 48))), (3, .inl x3)]) (st' := [.inr (.inl 3)]) (m' := m) [((16, .bipush 10, 2, 0, 0, 0, 0), (0, 0, 0)), ((18, .iload_n 2, 1, 0, 0, 0, 0), (0, 0, 0)), ((19, .imul, 1, 0, 0, 0, 0), (0, 0, 0)), ((20, .aload_n 0, 1, 0, 0, 0, 0), (0, 0, 0)), ((21, .getfield 49, 3, 1, 3, 1054, 0), (0, 3, 0)), ((24, .iadd, 1, 0, 0, 0, 0), (0, 0, 0)), ((25, .bipush 48, 2, 0, 0, 0, 0), (0, 0, 0)), ((27, .isub, 1, 0, 0, 0, 0), (0, 0, 0)), ((28, .istore_n 2, 1, 0, 0, 0, 0), (0, 0, 0)), ((29, .aload_n 0, 1, 0, 0, 0, 0), (0, 0, 0))] (by decide +kernel) rfl ?_
        exact hx_call (E := (30, .invokevirtual 63, 3, 30, 0, 3035, 0)) (M' := yp_m30) [.inr (.inl 3)] [] rfl (by decide +kernel) rfl ⟨rfl, rfl⟩ rfl rfl (hx_mono (h2 c1 c2) (fun r m' h' => hx_pick [0, 1, 2, 3] h'))
    · have c2 : ¬ (isDg (m 3 3)) := c2
      show hxn xs n yp_m35 13 [(0, .inr (.inl 3)), (1, .inl x1), (2, .inl x2), (3, .inl x3)] [.inl 0] m Q
      refine hx_if .eq 39 (by decide +kernel) (fun c3 => ?_) (fun c3 => ?_)
      · have c3 : (0 : Int) = 0 := c3
        refine hx_blk (npc := 40) (L' := [(0, .inr (.inl 3)), (1, .inl x1), (2, .inl x2), (3, .inl x3)]) (st' := [.inl x2]) (m' := m) [((39, .iload_n 2, 1, 0, 0, 0, 0), (0, 0, 0))] (by decide +kernel) rfl ?_
        exact hx_reti (by decide +kernel) (h3 c1 c2)
      · have c3 : (0 : Int) ≠ 0 := c3
        exfalso; omega

/-- digits from 33 on -/
theorem hr35_33 {xs : List Int32} {n : Nat} {Q : hQ} {m : gx_M} {x1 x2 x3 : Int} (r_x3 : 0 ≤ x3 ∧ x3 ≤ 100)
    (h1 : hxn xs n yp_m35 4 [(0, .inr (.inl 3)), (1, .inl x1), (2, .inl x2), (3, .inl (x3 + 1))] [] m Q) : hxn xs (n + 1) yp_m35 33 [(0, .inr (.inl 3)), (1, .inl x1), (2, .inl x2), (3, .inl x3)] [] m Q := by
  have e1 : gx_w (x3 + 1) = x3 + 1 := gx_w_id (by omega) (by omega)
  refine hx_blks (npc := 4) (L' := [(0, .inr (.inl 3)), (1, .inl x1), (2, .inl x2), (3, .inl (gx_w (x3 + 1)))]) (st' := []) (m' := m) ((33, .iinc 3 1, 3, 0, 0, 0, 0), (0, 0, 0)) [((36, .goto (-32), 3, 0, 0, 0, 0), (0, 0, 0))] (by decide +kernel) rfl ?_
  rw [e1]
  exact hx_pick [0, 1, 2, 3] h1

