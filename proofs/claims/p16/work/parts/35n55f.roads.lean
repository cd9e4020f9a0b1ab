/-! what a letter stands for, clauses that hold: roads of the reference -/
/-- isOwned from 0 on -/
theorem hr205_0 {xs : List Int32} {n : Nat} {Q : hQ} {m : gx_M} {x1 x2 : Int}
    (h1 : ((m 87 (gx_w (440 + x1)).toNat) ≠ 0) → ((m 87 (gx_w (240 + x1)).toNat) ≠ x2) → Q (some (.inl 0)) m)
    (h2 : ((m 87 (gx_w (440 + x1)).toNat) ≠ 0) → ((m 87 (gx_w (240 + x1)).toNat) = x2) → Q (some (.inl 1)) m)
    (h3 : ((m 87 (gx_w (440 + x1)).toNat) = 0) → Q (some (.inl 0)) m) : hxn xs (n + 1) yp_m205 0 [(0, .inr (.inl 86)), (1, .inl x1), (2, .inl x2)] [] m Q := by
  refine hx_blks (npc := 10) (L' := [(0, .inr (.inl 86)), (1, .inl x1), (2, .inl x2)]) (st' := [.inl (m 87 (gx_w (440 + x1)).toNat)]) (m' := m) ((0, .aload_n 0, 1, 0, 0, 0, 0), (0, 0, 0)) [((1, .getfield 7, 3, 10, 0, 5113, 0), (1, 86, 87)), ((4, .sipush 440, 3, 0, 0, 0, 0), (0, 0, 0)), ((7, .iload_n 1, 1, 0, 0, 0, 0), (0, 0, 0)), ((8, .iadd, 1, 0, 0, 0, 0), (0, 0, 0)), ((9, .iaload, 1, 0, 0, 0, 0), (0, 87, 0))] (by decide +kernel) rfl ?_
  refine hx_if .ne 15 (by decide +kernel) (fun c1 => ?_) (fun c1 => ?_)
  · have c1 : (m 87 (gx_w (440 + x1)).toNat) ≠ 0 := c1
    refine hx_blk (npc := 26) (L' := [(0, .inr (.inl 86)), (1, .inl x1), (2, .inl x2)]) (st' := [.inl x2, .inl (m 87 (gx_w (240 + x1)).toNat)]) (m' := m) [((15, .aload_n 0, 1, 0, 0, 0, 0), (0, 0, 0)), ((16, .getfield 7, 3, 10, 0, 5113, 0), (1, 86, 87)), ((19, .sipush 240, 3, 0, 0, 0, 0), (0, 0, 0)), ((22, .iload_n 1, 1, 0, 0, 0, 0), (0, 0, 0)), ((23, .iadd, 1, 0, 0, 0, 0), (0, 0, 0)), ((24, .iaload, 1, 0, 0, 0, 0), (0, 87, 0)), ((25, .iload_n 2, 1, 0, 0, 0, 0), (0, 0, 0))] (by decide +kernel) rfl ?_
    refine hx_cmp .ne 33 (by decide +kernel) (fun c2 => ?_) (fun c2 => ?_)
    · have c2 : (m 87 (gx_w (240 + x1)).toNat) ≠ x2 := c2
      refine hx_blk (npc := 34) (L' := [(0, .inr (.inl 86)), (1, .inl x1), (2, .inl x2)]) (st' := [.inl 0]) (m' := m) [((33, .iconst 0, 1, 0, 0, 0, 0), (0, 0, 0))] (by decide +kernel) rfl ?_
      exact hx_reti (by decide +kernel) (h1 c1 c2)
    · have c2 : (m 87 (gx_w (240 + x1)).toNat) = x2 := by have h : ¬ ((m 87 (gx_w (240 + x1)).toNat) ≠ x2) := c2; omega
      refine hx_blk (npc := 34) (L' := [(0, .inr (.inl 86)), (1, .inl x1), (2, .inl x2)]) (st' := [.inl 1]) (m' := m) [((29, .iconst 1, 1, 0, 0, 0, 0), (0, 0, 0)), ((30, .goto 4, 3, 0, 0, 0, 0), (0, 0, 0))] (by decide +kernel) rfl ?_
      exact hx_reti (by decide +kernel) (h2 c1 c2)
  · have c1 : (m 87 (gx_w (440 + x1)).toNat) = 0 := by have h : ¬ ((m 87 (gx_w (440 + x1)).toNat) ≠ 0) := c1; omega
    refine hx_blk (npc := 14) (L' := [(0, .inr (.inl 86)), (1, .inl x1), (2, .inl x2)]) (st' := [.inl 0]) (m' := m) [((13, .iconst 0, 1, 0, 0, 0, 0), (0, 0, 0))] (by decide +kernel) rfl ?_
    exact hx_reti (by decide +kernel) (h3 c1)

/-- bits from 0 on -/
theorem hr206_0 {xs : List Int32} {n : Nat} {Q : hQ} {m : gx_M} {x0 : Int}
    (h1 : hxn xs n yp_m206 4 [(0, .inl x0), (1, .inl 0), (2, .inl 0)] [] m Q) : hxn xs (n + 1) yp_m206 0 [(0, .inl x0)] [] m Q := by
  refine hx_blks (npc := 4) (L' := [(0, .inl x0), (1, .inl 0), (2, .inl 0)]) (st' := []) (m' := m) ((0, .iconst 0, 1, 0, 0, 0, 0), (0, 0, 0)) [((1, .istore_n 1, 1, 0, 0, 0, 0), (0, 0, 0)), ((2, .iconst 0, 1, 0, 0, 0, 0), (0, 0, 0)), ((3, .istore_n 2, 1, 0, 0, 0, 0), (0, 0, 0))] (by decide +kernel) rfl ?_
  exact hx_pick [0, 1, 2] h1

/-- bits from 4 on -/
theorem hr206_4 {xs : List Int32} {n : Nat} {Q : hQ} {m : gx_M} {x0 x1 x2 : Int}
    (h1 : (20 ≤ x2) → Q (some (.inl x1)) m)
    (h2 : (x2 < 20) → hxn xs n yp_m206 4 [(0, .inl x0), (1, .inl (gx_w (x1 + (gx_and (gx_shr x0 x2) 1)))), (2, .inl (gx_w (x2 + 1)))] [] m Q) : hxn xs (n + 1) yp_m206 4 [(0, .inl x0), (1, .inl x1), (2, .inl x2)] [] m Q := by
  refine hx_blks (npc := 7) (L' := [(0, .inl x0), (1, .inl x1), (2, .inl x2)]) (st' := [.inl 20, .inl x2]) (m' := m) ((4, .iload_n 2, 1, 0, 0, 0, 0), (0, 0, 0)) [((5, .bipush 20, 2, 0, 0, 0, 0), (0, 0, 0))] (by decide +kernel) rfl ?_
  refine hx_cmp .ge 24 (by decide +kernel) (fun c1 => ?_) (fun c1 => ?_)
  · have c1 : 20 ≤ x2 := c1
    refine hx_blk (npc := 25) (L' := [(0, .inl x0), (1, .inl x1), (2, .inl x2)]) (st' := [.inl x1]) (m' := m) [((24, .iload_n 1, 1, 0, 0, 0, 0), (0, 0, 0))] (by decide +kernel) rfl ?_
    exact hx_reti (by decide +kernel) (h1 c1)
  · have c1 : x2 < 20 := by have h : ¬ (20 ≤ x2) := c1; omega
    have f1 := gx_and_bd (gx_shr x0 x2) 1 (by decide)
    refine hx_blk (npc := 4) (L' := [(0, .inl x0), (1, .inl (gx_w (x1 + (gx_and (gx_shr x0 x2) 1)))), (2, .inl (gx_w (x2 + 1)))]) (st' := []) (m' := m) [((10, .iload_n 1, 1, 0, 0, 0, 0), (0, 0, 0)), ((11, .iload_n 0, 1, 0, 0, 0, 0), (0, 0, 0)), ((12, .iload_n 2, 1, 0, 0, 0, 0), (0, 0, 0)), ((13, .ishr, 1, 0, 0, 0, 0), (0, 0, 0)), ((14, .iconst 1, 1, 0, 0, 0, 0), (0, 0, 0)), ((15, .iand, 1, 0, 0, 0, 0), (0, 0, 0)), ((16, .iadd, 1, 0, 0, 0, 0), (0, 0, 0)), ((17, .istore_n 1, 1, 0, 0, 0, 0), (0, 0, 0)), ((18, .iinc 2 1, 3, 0, 0, 0, 0), (0, 0, 0)), ((21, .goto (-17), 3, 0, 0, 0, 0), (0, 0, 0))] (by decide +kernel) rfl ?_
    exact hx_pick [0, 1, 2] (h2 c1)

/-- ageOf from 0 on -/
theorem hr204_0 {xs : List Int32} {n : Nat} {Q : hQ} {m : gx_M} {x1 : Int}
    (h1 : hxn xs n yp_m204 4 [(0, .inr (.inl 86)), (1, .inl x1), (2, .inl 0), (3, .inl 0)] [] m Q) : hxn xs (n + 1) yp_m204 0 [(0, .inr (.inl 86)), (1, .inl x1)] [] m Q := by
  refine hx_blks (npc := 4) (L' := [(0, .inr (.inl 86)), (1, .inl x1), (2, .inl 0), (3, .inl 0)]) (st' := []) (m' := m) ((0, .iconst 0, 1, 0, 0, 0, 0), (0, 0, 0)) [((1, .istore_n 2, 1, 0, 0, 0, 0), (0, 0, 0)), ((2, .iconst 0, 1, 0, 0, 0, 0), (0, 0, 0)), ((3, .istore_n 3, 1, 0, 0, 0, 0), (0, 0, 0))] (by decide +kernel) rfl ?_
  exact hx_pick [0, 1, 2, 3] h1

/-- ageOf from 4 on -/
theorem hr204_4 {xs : List Int32} {n : Nat} {Q : hQ} {m : gx_M} {x1 x2 x3 : Int}
    (h1 : (40 ≤ x3) → Q (some (.inl x2)) m)
    (h2 : (x3 < 40) → hxn xs n yp_m205 0 [(0, .inr (.inl 86)), (1, .inl x3), (2, .inl x1)] [] m (fun r m' => hxn xs n yp_m204 17 [(0, .inr (.inl 86)), (1, .inl x1), (3, .inl x3)] (hrs r ++ [.inl x2]) m' Q)) : hxn xs (n + 1) yp_m204 4 [(0, .inr (.inl 86)), (1, .inl x1), (2, .inl x2), (3, .inl x3)] [] m Q := by
  refine hx_blks (npc := 7) (L' := [(0, .inr (.inl 86)), (1, .inl x1), (2, .inl x2), (3, .inl x3)]) (st' := [.inl 40, .inl x3]) (m' := m) ((4, .iload_n 3, 1, 0, 0, 0, 0), (0, 0, 0)) [((5, .bipush 40, 2, 0, 0, 0, 0), (0, 0, 0))] (by decide +kernel) rfl ?_
  refine hx_cmp .ge 33 (by decide +kernel) (fun c1 => ?_) (fun c1 => ?_)
  · have c1 : 40 ≤ x3 := c1
    refine hx_blk (npc := 34) (L' := [(0, .inr (.inl 86)), (1, .inl x1), (2, .inl x2), (3, .inl x3)]) (st' := [.inl x2]) (m' := m) [((33, .iload_n 2, 1, 0, 0, 0, 0), (0, 0, 0))] (by decide +kernel) rfl ?_
    exact hx_reti (by decide +kernel) (h1 c1)
  · have c1 : x3 < 40 := by have h : ¬ (40 ≤ x3) := c1; omega
    refine hx_blk (npc := 14) (L' := [(0, .inr (.inl 86)), (1, .inl x1), (2, .inl x2), (3, .inl x3)]) (st' := [.inl x1, .inl x3, .inr (.inl 86), .inl x2]) (m' := m) [((10, .iload_n 2, 1, 0, 0, 0, 0), (0, 0, 0)), ((11, .aload_n 0, 1, 0, 0, 0, 0), (0, 0, 0)), ((12, .iload_n 3, 1, 0, 0, 0, 0), (0, 0, 0)), ((13, .iload_n 1, 1, 0, 0, 0, 0), (0, 0, 0))] (by decide +kernel) rfl ?_
    exact hx_call (E := (14, .invokevirtual 117, 3, 205, 0, 6191, 0)) (M' := yp_m205) [.inr (.inl 86), .inl x3, .inl x1] [.inl x2] rfl (by decide +kernel) rfl ⟨rfl, rfl⟩ rfl rfl (hx_mono (h2 c1) (fun r m' h' => hx_pick [0, 1, 3] h'))

/-- ageOf from 17 on -/
theorem hr204_17 {xs : List Int32} {n : Nat} {Q : hQ} {m : gx_M} {x1 x3 s0 s1 : Int}
    (h1 : (s1 = 0) → hxn xs n yp_m204 4 [(0, .inr (.inl 86)), (1, .inl x1), (2, .inl (gx_w (s0 + 0))), (3, .inl (gx_w (x3 + 1)))] [] m Q)
    (h2 : (s1 ≠ 0) → hxn xs n yp_m204 4 [(0, .inr (.inl 86)), (1, .inl x1), (2, .inl (gx_w (s0 + 1))), (3, .inl (gx_w (x3 + 1)))] [] m Q) : hxn xs (n + 1) yp_m204 17 [(0, .inr (.inl 86)), (1, .inl x1), (3, .inl x3)] [.inl s1, .inl s0] m Q := by
  refine hx_ifs .eq 24 (by decide +kernel) (fun c1 => ?_) (fun c1 => ?_)
  · have c1 : s1 = 0 := c1
    refine hx_blk (npc := 4) (L' := [(0, .inr (.inl 86)), (1, .inl x1), (3, .inl (gx_w (x3 + 1))), (2, .inl (gx_w (s0 + 0)))]) (st' := []) (m' := m) [((24, .iconst 0, 1, 0, 0, 0, 0), (0, 0, 0)), ((25, .iadd, 1, 0, 0, 0, 0), (0, 0, 0)), ((26, .istore_n 2, 1, 0, 0, 0, 0), (0, 0, 0)), ((27, .iinc 3 1, 3, 0, 0, 0, 0), (0, 0, 0)), ((30, .goto (-26), 3, 0, 0, 0, 0), (0, 0, 0))] (by decide +kernel) rfl ?_
    exact hx_pick [0, 1, 2, 3] (h1 c1)
  · have c1 : s1 ≠ 0 := c1
    refine hx_blk (npc := 4) (L' := [(0, .inr (.inl 86)), (1, .inl x1), (3, .inl (gx_w (x3 + 1))), (2, .inl (gx_w (s0 + 1)))]) (st' := []) (m' := m) [((20, .iconst 1, 1, 0, 0, 0, 0), (0, 0, 0)), ((21, .goto 4, 3, 0, 0, 0, 0), (0, 0, 0)), ((25, .iadd, 1, 0, 0, 0, 0), (0, 0, 0)), ((26, .istore_n 2, 1, 0, 0, 0, 0), (0, 0, 0)), ((27, .iinc 3 1, 3, 0, 0, 0, 0), (0, 0, 0)), ((30, .goto (-26), 3, 0, 0, 0, 0), (0, 0, 0))] (by decide +kernel) rfl ?_
    exact hx_pick [0, 1, 2, 3] (h2 c1)

/-- knownBut from 0 on -/
theorem hr207_0 {xs : List Int32} {n : Nat} {Q : hQ} {m : gx_M} {x1 x2 : Int}
    (h1 : hxn xs n yp_m207 5 [(0, .inr (.inl 86)), (1, .inl x1), (2, .inl x2), (3, .inl 0), (4, .inl 0)] [] m Q) : hxn xs (n + 1) yp_m207 0 [(0, .inr (.inl 86)), (1, .inl x1), (2, .inl x2)] [] m Q := by
  refine hx_blks (npc := 5) (L' := [(0, .inr (.inl 86)), (1, .inl x1), (2, .inl x2), (3, .inl 0), (4, .inl 0)]) (st' := []) (m' := m) ((0, .iconst 0, 1, 0, 0, 0, 0), (0, 0, 0)) [((1, .istore_n 3, 1, 0, 0, 0, 0), (0, 0, 0)), ((2, .iconst 0, 1, 0, 0, 0, 0), (0, 0, 0)), ((3, .istore 4, 2, 0, 0, 0, 0), (0, 0, 0))] (by decide +kernel) rfl ?_
  exact hx_pick [0, 1, 2, 3, 4] h1

/-- knownBut from 5 on -/
theorem hr207_5 {xs : List Int32} {n : Nat} {Q : hQ} {m : gx_M} {x1 x2 x3 x4 : Int}
    (h1 : (40 ≤ x4) → Q (some (.inl x3)) m)
    (h2 : (x4 < 40) → (x4 = x2) → hxn xs n yp_m207 5 [(0, .inr (.inl 86)), (1, .inl x1), (2, .inl x2), (3, .inl x3), (4, .inl (gx_w (x4 + 1)))] [] m Q)
    (h3 : (x4 < 40) → (x4 ≠ x2) → hxn xs n yp_m205 0 [(0, .inr (.inl 86)), (1, .inl x4), (2, .inl x1)] [] m (fun r m' => hxn xs n yp_m207 25 [(0, .inr (.inl 86)), (1, .inl x1), (2, .inl x2), (3, .inl x3), (4, .inl x4)] (hrs r ++ []) m' Q)) : hxn xs (n + 1) yp_m207 5 [(0, .inr (.inl 86)), (1, .inl x1), (2, .inl x2), (3, .inl x3), (4, .inl x4)] [] m Q := by
  refine hx_blks (npc := 9) (L' := [(0, .inr (.inl 86)), (1, .inl x1), (2, .inl x2), (3, .inl x3), (4, .inl x4)]) (st' := [.inl 40, .inl x4]) (m' := m) ((5, .iload 4, 2, 0, 0, 0, 0), (0, 0, 0)) [((7, .bipush 40, 2, 0, 0, 0, 0), (0, 0, 0))] (by decide +kernel) rfl ?_
  refine hx_cmp .ge 47 (by decide +kernel) (fun c1 => ?_) (fun c1 => ?_)
  · have c1 : 40 ≤ x4 := c1
    refine hx_blk (npc := 48) (L' := [(0, .inr (.inl 86)), (1, .inl x1), (2, .inl x2), (3, .inl x3), (4, .inl x4)]) (st' := [.inl x3]) (m' := m) [((47, .iload_n 3, 1, 0, 0, 0, 0), (0, 0, 0))] (by decide +kernel) rfl ?_
    exact hx_reti (by decide +kernel) (h1 c1)
  · have c1 : x4 < 40 := by have h : ¬ (40 ≤ x4) := c1; omega
    refine hx_blk (npc := 15) (L' := [(0, .inr (.inl 86)), (1, .inl x1), (2, .inl x2), (3, .inl x3), (4, .inl x4)]) (st' := [.inl x2, .inl x4]) (m' := m) [((12, .iload 4, 2, 0, 0, 0, 0), (0, 0, 0)), ((14, .iload_n 2, 1, 0, 0, 0, 0), (0, 0, 0))] (by decide +kernel) rfl ?_
    refine hx_cmp .eq 41 (by decide +kernel) (fun c2 => ?_) (fun c2 => ?_)
    · have c2 : x4 = x2 := c2
      refine hx_blk (npc := 5) (L' := [(0, .inr (.inl 86)), (1, .inl x1), (2, .inl x2), (3, .inl x3), (4, .inl (gx_w (x4 + 1)))]) (st' := []) (m' := m) [((41, .iinc 4 1, 3, 0, 0, 0, 0), (0, 0, 0)), ((44, .goto (-39), 3, 0, 0, 0, 0), (0, 0, 0))] (by decide +kernel) rfl ?_
      exact hx_pick [0, 1, 2, 3, 4] (h2 c1 c2)
    · have c2 : x4 ≠ x2 := c2
      refine hx_blk (npc := 22) (L' := [(0, .inr (.inl 86)), (1, .inl x1), (2, .inl x2), (3, .inl x3), (4, .inl x4)]) (st' := [.inl x1, .inl x4, .inr (.inl 86)]) (m' := m) [((18, .aload_n 0, 1, 0, 0, 0, 0), (0, 0, 0)), ((19, .iload 4, 2, 0, 0, 0, 0), (0, 0, 0)), ((21, .iload_n 1, 1, 0, 0, 0, 0), (0, 0, 0))] (by decide +kernel) rfl ?_
      exact hx_call (E := (22, .invokevirtual 117, 3, 205, 0, 6191, 0)) (M' := yp_m205) [.inr (.inl 86), .inl x4, .inl x1] [] rfl (by decide +kernel) rfl ⟨rfl, rfl⟩ rfl rfl (hx_mono (h3 c1 c2) (fun r m' h' => hx_pick [0, 1, 2, 3, 4] h'))

/-- knownBut from 25 on -/
theorem hr207_25 {xs : List Int32} {n : Nat} {Q : hQ} {m : gx_M} {x1 x2 x3 x4 s0 : Int}
    (h1 : (s0 = 0) → hxn xs n yp_m207 5 [(0, .inr (.inl 86)), (1, .inl x1), (2, .inl x2), (3, .inl x3), (4, .inl (gx_w (x4 + 1)))] [] m Q)
    (h2 : (s0 ≠ 0) → hxn xs n yp_m207 5 [(0, .inr (.inl 86)), (1, .inl x1), (2, .inl x2), (3, .inl (gx_or x3 (m 87 (gx_w (80 + x4)).toNat))), (4, .inl (gx_w (x4 + 1)))] [] m Q) : hxn xs (n + 1) yp_m207 25 [(0, .inr (.inl 86)), (1, .inl x1), (2, .inl x2), (3, .inl x3), (4, .inl x4)] [.inl s0] m Q := by
  refine hx_ifs .eq 41 (by decide +kernel) (fun c1 => ?_) (fun c1 => ?_)
  · have c1 : s0 = 0 := c1
    refine hx_blk (npc := 5) (L' := [(0, .inr (.inl 86)), (1, .inl x1), (2, .inl x2), (3, .inl x3), (4, .inl (gx_w (x4 + 1)))]) (st' := []) (m' := m) [((41, .iinc 4 1, 3, 0, 0, 0, 0), (0, 0, 0)), ((44, .goto (-39), 3, 0, 0, 0, 0), (0, 0, 0))] (by decide +kernel) rfl ?_
    exact hx_pick [0, 1, 2, 3, 4] (h1 c1)
  · have c1 : s0 ≠ 0 := c1
    refine hx_blk (npc := 5) (L' := [(0, .inr (.inl 86)), (1, .inl x1), (2, .inl x2), (3, .inl (gx_or x3 (m 87 (gx_w (80 + x4)).toNat))), (4, .inl (gx_w (x4 + 1)))]) (st' := []) (m' := m) [((28, .iload_n 3, 1, 0, 0, 0, 0), (0, 0, 0)), ((29, .aload_n 0, 1, 0, 0, 0, 0), (0, 0, 0)), ((30, .getfield 7, 3, 10, 0, 5113, 0), (1, 86, 87)), ((33, .bipush 80, 2, 0, 0, 0, 0), (0, 0, 0)), ((35, .iload 4, 2, 0, 0, 0, 0), (0, 0, 0)), ((37, .iadd, 1, 0, 0, 0, 0), (0, 0, 0)), ((38, .iaload, 1, 0, 0, 0, 0), (0, 87, 0)), ((39, .ior, 1, 0, 0, 0, 0), (0, 0, 0)), ((40, .istore_n 3, 1, 0, 0, 0, 0), (0, 0, 0)), ((41, .iinc 4 1, 3, 0, 0, 0, 0), (0, 0, 0)), ((44, .goto (-39), 3, 0, 0, 0, 0), (0, 0, 0))] (by decide +kernel) rfl ?_
    exact hx_pick [0, 1, 2, 3, 4] (h2 c1)

/-- feelsPerson from 0 on -/
theorem hr203_0 {xs : List Int32} {n : Nat} {Q : hQ} {m : gx_M} {x1 : Int}
    (h1 : hxn xs n yp_m203 2 [(0, .inr (.inl 86)), (1, .inl x1), (2, .inl 0)] [] m Q) : hxn xs (n + 1) yp_m203 0 [(0, .inr (.inl 86)), (1, .inl x1)] [] m Q := by
  refine hx_blks (npc := 2) (L' := [(0, .inr (.inl 86)), (1, .inl x1), (2, .inl 0)]) (st' := []) (m' := m) ((0, .iconst 0, 1, 0, 0, 0, 0), (0, 0, 0)) [((1, .istore_n 2, 1, 0, 0, 0, 0), (0, 0, 0))] (by decide +kernel) rfl ?_
  exact hx_pick [0, 1, 2] h1

/-- feelsPerson from 2 on -/
theorem hr203_2 {xs : List Int32} {n : Nat} {Q : hQ} {m : gx_M} {x1 x2 : Int}
    (h1 : (14 ≤ x2) → hxn xs n yp_m204 0 [(0, .inr (.inl 86)), (1, .inl x1)] [] (gx_u (gx_u m 103 0 (m 87 1129)) 103 9 x1) (fun r m' => hxn xs n yp_m203 54 [(0, .inr (.inl 86)), (1, .inl x1)] (hrs r ++ [.inl 10, .inr (.inl 103)]) m' Q))
    (h2 : (x2 < 14) → hxn xs n yp_m203 2 [(0, .inr (.inl 86)), (1, .inl x1), (2, .inl (gx_w (x2 + 1)))] [] (gx_u m 103 (x2).toNat 0) Q) : hxn xs (n + 1) yp_m203 2 [(0, .inr (.inl 86)), (1, .inl x1), (2, .inl x2)] [] m Q := by
  refine hx_blks (npc := 5) (L' := [(0, .inr (.inl 86)), (1, .inl x1), (2, .inl x2)]) (st' := [.inl 14, .inl x2]) (m' := m) ((2, .iload_n 2, 1, 0, 0, 0, 0), (0, 0, 0)) [((3, .bipush 14, 2, 0, 0, 0, 0), (0, 0, 0))] (by decide +kernel) rfl ?_
  refine hx_cmp .ge 21 (by decide +kernel) (fun c1 => ?_) (fun c1 => ?_)
  · have c1 : 14 ≤ x2 := c1
    refine hx_blk (npc := 51) (L' := [(0, .inr (.inl 86)), (1, .inl x1), (2, .inl x2)]) (st' := [.inl x1, .inr (.inl 86), .inl 10, .inr (.inl 103)]) (m' := (gx_u (gx_u m 103 0 (m 87 1129)) 103 9 x1)) [((21, .aload_n 0, 1, 0, 0, 0, 0), (0, 0, 0)), ((22, .getfield 59, 3, 10, 26, 5139, 0), (1, 86, 103)), ((25, .iconst 0, 1, 0, 0, 0, 0), (0, 0, 0)), ((26, .aload_n 0, 1, 0, 0, 0, 0), (0, 0, 0)), ((27, .getfield 7, 3, 10, 0, 5113, 0), (1, 86, 87)), ((30, .sipush 1129, 3, 0, 0, 0, 0), (0, 0, 0)), ((33, .iaload, 1, 0, 0, 0, 0), (0, 87, 0)), ((34, .iastore, 1, 0, 0, 0, 0), (0, 103, 0)), ((35, .aload_n 0, 1, 0, 0, 0, 0), (0, 0, 0)), ((36, .getfield 59, 3, 10, 26, 5139, 0), (1, 86, 103)), ((39, .bipush 9, 2, 0, 0, 0, 0), (0, 0, 0)), ((41, .iload_n 1, 1, 0, 0, 0, 0), (0, 0, 0)), ((42, .iastore, 1, 0, 0, 0, 0), (0, 103, 0)), ((43, .aload_n 0, 1, 0, 0, 0, 0), (0, 0, 0)), ((44, .getfield 59, 3, 10, 26, 5139, 0), (1, 86, 103)), ((47, .bipush 10, 2, 0, 0, 0, 0), (0, 0, 0)), ((49, .aload_n 0, 1, 0, 0, 0, 0), (0, 0, 0)), ((50, .iload_n 1, 1, 0, 0, 0, 0), (0, 0, 0))] (by decide +kernel) rfl ?_
    exact hx_call (E := (51, .invokevirtual 235, 3, 204, 0, 6187, 0)) (M' := yp_m204) [.inr (.inl 86), .inl x1] [.inl 10, .inr (.inl 103)] rfl (by decide +kernel) rfl ⟨rfl, rfl⟩ rfl rfl (hx_mono (h1 c1) (fun r m' h' => hx_pick [0, 1] h'))
  · have c1 : x2 < 14 := by have h : ¬ (14 ≤ x2) := c1; omega
    refine hx_blk (npc := 2) (L' := [(0, .inr (.inl 86)), (1, .inl x1), (2, .inl (gx_w (x2 + 1)))]) (st' := []) (m' := (gx_u m 103 (x2).toNat 0)) [((8, .aload_n 0, 1, 0, 0, 0, 0), (0, 0, 0)), ((9, .getfield 59, 3, 10, 26, 5139, 0), (1, 86, 103)), ((12, .iload_n 2, 1, 0, 0, 0, 0), (0, 0, 0)), ((13, .iconst 0, 1, 0, 0, 0, 0), (0, 0, 0)), ((14, .iastore, 1, 0, 0, 0, 0), (0, 103, 0)), ((15, .iinc 2 1, 3, 0, 0, 0, 0), (0, 0, 0)), ((18, .goto (-16), 3, 0, 0, 0, 0), (0, 0, 0))] (by decide +kernel) rfl ?_
    exact hx_pick [0, 1, 2] (h2 c1)

/-- feelsPerson from 54 on -/
theorem hr203_54 {xs : List Int32} {n : Nat} {Q : hQ} {m : gx_M} {x1 s1 s2 : Int}
    (h1 : Q none (gx_u (gx_u m 103 (s1).toNat s2) 103 11 (m 87 (gx_w (1120 + x1)).toNat))) : hxn xs (n + 1) yp_m203 54 [(0, .inr (.inl 86)), (1, .inl x1)] [.inl s2, .inl s1, .inr (.inl 103)] m Q := by
  refine hx_blks (npc := 72) (L' := [(0, .inr (.inl 86)), (1, .inl x1)]) (st' := []) (m' := (gx_u (gx_u m 103 (s1).toNat s2) 103 11 (m 87 (gx_w (1120 + x1)).toNat))) ((54, .iastore, 1, 0, 0, 0, 0), (0, 103, 0)) [((55, .aload_n 0, 1, 0, 0, 0, 0), (0, 0, 0)), ((56, .getfield 59, 3, 10, 26, 5139, 0), (1, 86, 103)), ((59, .bipush 11, 2, 0, 0, 0, 0), (0, 0, 0)), ((61, .aload_n 0, 1, 0, 0, 0, 0), (0, 0, 0)), ((62, .getfield 7, 3, 10, 0, 5113, 0), (1, 86, 87)), ((65, .sipush 1120, 3, 0, 0, 0, 0), (0, 0, 0)), ((68, .iload_n 1, 1, 0, 0, 0, 0), (0, 0, 0)), ((69, .iadd, 1, 0, 0, 0, 0), (0, 0, 0)), ((70, .iaload, 1, 0, 0, 0, 0), (0, 87, 0)), ((71, .iastore, 1, 0, 0, 0, 0), (0, 103, 0))] (by decide +kernel) rfl ?_
  exact hx_ret0 (by decide +kernel) h1

/-- feels from 0 on -/
theorem hr202_0 {xs : List Int32} {n : Nat} {Q : hQ} {m : gx_M} {x1 x2 x3 : Int}
    (h1 : hxn xs n yp_m203 0 [(0, .inr (.inl 86)), (1, .inl x2)] [] m (fun r m' => hxn xs n yp_m202 5 [(0, .inr (.inl 86)), (1, .inl x1), (2, .inl x2), (3, .inl x3)] (hrs r ++ []) m' Q)) : hxn xs (n + 1) yp_m202 0 [(0, .inr (.inl 86)), (1, .inl x1), (2, .inl x2), (3, .inl x3)] [] m Q := by
  refine hx_blks (npc := 2) (L' := [(0, .inr (.inl 86)), (1, .inl x1), (2, .inl x2), (3, .inl x3)]) (st' := [.inl x2, .inr (.inl 86)]) (m' := m) ((0, .aload_n 0, 1, 0, 0, 0, 0), (0, 0, 0)) [((1, .iload_n 2, 1, 0, 0, 0, 0), (0, 0, 0))] (by decide +kernel) rfl ?_
  exact hx_call (E := (2, .invokevirtual 238, 3, 203, 0, 6183, 0)) (M' := yp_m203) [.inr (.inl 86), .inl x2] [] rfl (by decide +kernel) rfl ⟨rfl, rfl⟩ rfl rfl (hx_mono h1 (fun r m' h' => hx_pick [0, 1, 2, 3] h'))

/-- feels from 5 on -/
theorem hr202_5 {xs : List Int32} {n : Nat} {Q : hQ} {m : gx_M} {x1 x2 x3 : Int}
    (h1 : hxn xs n yp_m206 0 [(0, .inl (m 87 (gx_w (80 + x1)).toNat))] [] (gx_u (gx_u (gx_u (gx_u m 103 1 x1) 103 2 (m 87 (gx_w (0 + x1)).toNat)) 103 3 (m 87 (gx_w (40 + x1)).toNat)) 103 4 (m 87 (gx_w (240 + x1)).toNat)) (fun r m' => hxn xs n yp_m202 74 [(0, .inr (.inl 86)), (1, .inl x1), (2, .inl x2), (3, .inl x3)] (hrs r ++ [.inl 5, .inr (.inl 103)]) m' Q)) : hxn xs (n + 1) yp_m202 5 [(0, .inr (.inl 86)), (1, .inl x1), (2, .inl x2), (3, .inl x3)] [] m Q := by
  refine hx_blks (npc := 71) (L' := [(0, .inr (.inl 86)), (1, .inl x1), (2, .inl x2), (3, .inl x3)]) (st' := [.inl (m 87 (gx_w (80 + x1)).toNat), .inl 5, .inr (.inl 103)]) (m' := (gx_u (gx_u (gx_u (gx_u m 103 1 x1) 103 2 (m 87 (gx_w (0 + x1)).toNat)) 103 3 (m 87 (gx_w (40 + x1)).toNat)) 103 4 (m 87 (gx_w (240 + x1)).toNat))) ((5, .aload_n 0, 1, 0, 0, 0, 0), (0, 0, 0)) [((6, .getfield 59, 3, 10, 26, 5139, 0), (1, 86, 103)), ((9, .iconst 1, 1, 0, 0, 0, 0), (0, 0, 0)), ((10, .iload_n 1, 1, 0, 0, 0, 0), (0, 0, 0)), ((11, .iastore, 1, 0, 0, 0, 0), (0, 103, 0)), ((12, .aload_n 0, 1, 0, 0, 0, 0), (0, 0, 0)), ((13, .getfield 59, 3, 10, 26, 5139, 0), (1, 86, 103)), ((16, .iconst 2, 1, 0, 0, 0, 0), (0, 0, 0)), ((17, .aload_n 0, 1, 0, 0, 0, 0), (0, 0, 0)), ((18, .getfield 7, 3, 10, 0, 5113, 0), (1, 86, 87)), ((21, .iconst 0, 1, 0, 0, 0, 0), (0, 0, 0)), ((22, .iload_n 1, 1, 0, 0, 0, 0), (0, 0, 0)), ((23, .iadd, 1, 0, 0, 0, 0), (0, 0, 0)), ((24, .iaload, 1, 0, 0, 0, 0), (0, 87, 0)), ((25, .iastore, 1, 0, 0, 0, 0), (0, 103, 0)), ((26, .aload_n 0, 1, 0, 0, 0, 0), (0, 0, 0)), ((27, .getfield 59, 3, 10, 26, 5139, 0), (1, 86, 103)), ((30, .iconst 3, 1, 0, 0, 0, 0), (0, 0, 0)), ((31, .aload_n 0, 1, 0, 0, 0, 0), (0, 0, 0)), ((32, .getfield 7, 3, 10, 0, 5113, 0), (1, 86, 87)), ((35, .bipush 40, 2, 0, 0, 0, 0), (0, 0, 0)), ((37, .iload_n 1, 1, 0, 0, 0, 0), (0, 0, 0)), ((38, .iadd, 1, 0, 0, 0, 0), (0, 0, 0)), ((39, .iaload, 1, 0, 0, 0, 0), (0, 87, 0)), ((40, .iastore, 1, 0, 0, 0, 0), (0, 103, 0)), ((41, .aload_n 0, 1, 0, 0, 0, 0), (0, 0, 0)), ((42, .getfield 59, 3, 10, 26, 5139, 0), (1, 86, 103)), ((45, .iconst 4, 1, 0, 0, 0, 0), (0, 0, 0)), ((46, .aload_n 0, 1, 0, 0, 0, 0), (0, 0, 0)), ((47, .getfield 7, 3, 10, 0, 5113, 0), (1, 86, 87)), ((50, .sipush 240, 3, 0, 0, 0, 0), (0, 0, 0)), ((53, .iload_n 1, 1, 0, 0, 0, 0), (0, 0, 0)), ((54, .iadd, 1, 0, 0, 0, 0), (0, 0, 0)), ((55, .iaload, 1, 0, 0, 0, 0), (0, 87, 0)), ((56, .iastore, 1, 0, 0, 0, 0), (0, 103, 0)), ((57, .aload_n 0, 1, 0, 0, 0, 0), (0, 0, 0)), ((58, .getfield 59, 3, 10, 26, 5139, 0), (1, 86, 103)), ((61, .iconst 5, 1, 0, 0, 0, 0), (0, 0, 0)), ((62, .aload_n 0, 1, 0, 0, 0, 0), (0, 0, 0)), ((63, .getfield 7, 3, 10, 0, 5113, 0), (1, 86, 87)), ((66, .bipush 80, 2, 0, 0, 0, 0), (0, 0, 0)), ((68, .iload_n 1, 1, 0, 0, 0, 0), (0, 0, 0)), ((69, .iadd, 1, 0, 0, 0, 0), (0, 0, 0)), ((70, .iaload, 1, 0, 0, 0, 0), (0, 87, 0))] (by decide +kernel) rfl ?_
  exact hx_call (E := (71, .invokestatic 241, 3, 206, 0, 6195, 0)) (M' := yp_m206) [.inl (m 87 (gx_w (80 + x1)).toNat)] [.inl 5, .inr (.inl 103)] rfl (by decide +kernel) rfl ⟨rfl, rfl⟩ rfl rfl (hx_mono h1 (fun r m' h' => hx_pick [0, 1, 2, 3] h'))

/-- feels from 74 on -/
theorem hr202_74 {xs : List Int32} {n : Nat} {Q : hQ} {m : gx_M} {x1 x2 x3 s1 s2 : Int}
    (h1 : hxn xs n yp_m206 0 [(0, .inl (m 87 (gx_w (120 + x1)).toNat))] [] (gx_u m 103 (s1).toNat s2) (fun r m' => hxn xs n yp_m202 93 [(0, .inr (.inl 86)), (1, .inl x1), (2, .inl x2), (3, .inl x3)] (hrs r ++ [.inl 6, .inr (.inl 103)]) m' Q)) : hxn xs (n + 1) yp_m202 74 [(0, .inr (.inl 86)), (1, .inl x1), (2, .inl x2), (3, .inl x3)] [.inl s2, .inl s1, .inr (.inl 103)] m Q := by
  refine hx_blks (npc := 90) (L' := [(0, .inr (.inl 86)), (1, .inl x1), (2, .inl x2), (3, .inl x3)]) (st' := [.inl (m 87 (gx_w (120 + x1)).toNat), .inl 6, .inr (.inl 103)]) (m' := (gx_u m 103 (s1).toNat s2)) ((74, .iastore, 1, 0, 0, 0, 0), (0, 103, 0)) [((75, .aload_n 0, 1, 0, 0, 0, 0), (0, 0, 0)), ((76, .getfield 59, 3, 10, 26, 5139, 0), (1, 86, 103)), ((79, .bipush 6, 2, 0, 0, 0, 0), (0, 0, 0)), ((81, .aload_n 0, 1, 0, 0, 0, 0), (0, 0, 0)), ((82, .getfield 7, 3, 10, 0, 5113, 0), (1, 86, 87)), ((85, .bipush 120, 2, 0, 0, 0, 0), (0, 0, 0)), ((87, .iload_n 1, 1, 0, 0, 0, 0), (0, 0, 0)), ((88, .iadd, 1, 0, 0, 0, 0), (0, 0, 0)), ((89, .iaload, 1, 0, 0, 0, 0), (0, 87, 0))] (by decide +kernel) rfl ?_
  exact hx_call (E := (90, .invokestatic 241, 3, 206, 0, 6195, 0)) (M' := yp_m206) [.inl (m 87 (gx_w (120 + x1)).toNat)] [.inl 6, .inr (.inl 103)] rfl (by decide +kernel) rfl ⟨rfl, rfl⟩ rfl rfl (hx_mono h1 (fun r m' h' => hx_pick [0, 1, 2, 3] h'))

/-- feels from 93 on -/
theorem hr202_93 {xs : List Int32} {n : Nat} {Q : hQ} {m : gx_M} {x1 x2 x3 s1 s2 : Int}
    (h1 : hxn xs n yp_m207 0 [(0, .inr (.inl 86)), (1, .inl x2), (2, .inl x1)] [] (gx_u (gx_u (gx_u m 103 (s1).toNat s2) 103 7 (m 87 (gx_w (160 + x1)).toNat)) 103 8 (m 87 (gx_w (400 + x1)).toNat)) (fun r m' => hxn xs n yp_m202 149 [(0, .inr (.inl 86)), (3, .inl x3)] (hrs r ++ [.inl (m 87 (gx_w (80 + x1)).toNat), .inl 12, .inr (.inl 103)]) m' Q)) : hxn xs (n + 1) yp_m202 93 [(0, .inr (.inl 86)), (1, .inl x1), (2, .inl x2), (3, .inl x3)] [.inl s2, .inl s1, .inr (.inl 103)] m Q := by
  refine hx_blks (npc := 146) (L' := [(0, .inr (.inl 86)), (1, .inl x1), (2, .inl x2), (3, .inl x3)]) (st' := [.inl x1, .inl x2, .inr (.inl 86), .inl (m 87 (gx_w (80 + x1)).toNat), .inl 12, .inr (.inl 103)]) (m' := (gx_u (gx_u (gx_u m 103 (s1).toNat s2) 103 7 (m 87 (gx_w (160 + x1)).toNat)) 103 8 (m 87 (gx_w (400 + x1)).toNat))) ((93, .iastore, 1, 0, 0, 0, 0), (0, 103, 0)) [((94, .aload_n 0, 1, 0, 0, 0, 0), (0, 0, 0)), ((95, .getfield 59, 3, 10, 26, 5139, 0), (1, 86, 103)), ((98, .bipush 7, 2, 0, 0, 0, 0), (0, 0, 0)), ((100, .aload_n 0, 1, 0, 0, 0, 0), (0, 0, 0)), ((101, .getfield 7, 3, 10, 0, 5113, 0), (1, 86, 87)), ((104, .sipush 160, 3, 0, 0, 0, 0), (0, 0, 0)), ((107, .iload_n 1, 1, 0, 0, 0, 0), (0, 0, 0)), ((108, .iadd, 1, 0, 0, 0, 0), (0, 0, 0)), ((109, .iaload, 1, 0, 0, 0, 0), (0, 87, 0)), ((110, .iastore, 1, 0, 0, 0, 0), (0, 103, 0)), ((111, .aload_n 0, 1, 0, 0, 0, 0), (0, 0, 0)), ((112, .getfield 59, 3, 10, 26, 5139, 0), (1, 86, 103)), ((115, .bipush 8, 2, 0, 0, 0, 0), (0, 0, 0)), ((117, .aload_n 0, 1, 0, 0, 0, 0), (0, 0, 0)), ((118, .getfield 7, 3, 10, 0, 5113, 0), (1, 86, 87)), ((121, .sipush 400, 3, 0, 0, 0, 0), (0, 0, 0)), ((124, .iload_n 1, 1, 0, 0, 0, 0), (0, 0, 0)), ((125, .iadd, 1, 0, 0, 0, 0), (0, 0, 0)), ((126, .iaload, 1, 0, 0, 0, 0), (0, 87, 0)), ((127, .iastore, 1, 0, 0, 0, 0), (0, 103, 0)), ((128, .aload_n 0, 1, 0, 0, 0, 0), (0, 0, 0)), ((129, .getfield 59, 3, 10, 26, 5139, 0), (1, 86, 103)), ((132, .bipush 12, 2, 0, 0, 0, 0), (0, 0, 0)), ((134, .aload_n 0, 1, 0, 0, 0, 0), (0, 0, 0)), ((135, .getfield 7, 3, 10, 0, 5113, 0), (1, 86, 87)), ((138, .bipush 80, 2, 0, 0, 0, 0), (0, 0, 0)), ((140, .iload_n 1, 1, 0, 0, 0, 0), (0, 0, 0)), ((141, .iadd, 1, 0, 0, 0, 0), (0, 0, 0)), ((142, .iaload, 1, 0, 0, 0, 0), (0, 87, 0)), ((143, .aload_n 0, 1, 0, 0, 0, 0), (0, 0, 0)), ((144, .iload_n 2, 1, 0, 0, 0, 0), (0, 0, 0)), ((145, .iload_n 1, 1, 0, 0, 0, 0), (0, 0, 0))] (by decide +kernel) rfl ?_
  exact hx_call (E := (146, .invokevirtual 244, 3, 207, 0, 6198, 0)) (M' := yp_m207) [.inr (.inl 86), .inl x2, .inl x1] [.inl (m 87 (gx_w (80 + x1)).toNat), .inl 12, .inr (.inl 103)] rfl (by decide +kernel) rfl ⟨rfl, rfl⟩ rfl rfl (hx_mono h1 (fun r m' h' => hx_pick [0, 3] h'))

/-- feels from 149 on -/
theorem hr202_149 {xs : List Int32} {n : Nat} {Q : hQ} {m : gx_M} {x3 s1 s2 s3 : Int}
    (h1 : hxn xs n yp_m206 0 [(0, .inl (gx_and s2 s3))] [] m (fun r m' => hxn xs n yp_m202 153 [(0, .inr (.inl 86)), (3, .inl x3)] (hrs r ++ [.inl s1, .inr (.inl 103)]) m' Q)) : hxn xs (n + 1) yp_m202 149 [(0, .inr (.inl 86)), (3, .inl x3)] [.inl s3, .inl s2, .inl s1, .inr (.inl 103)] m Q := by
  refine hx_blks (npc := 150) (L' := [(0, .inr (.inl 86)), (3, .inl x3)]) (st' := [.inl (gx_and s2 s3), .inl s1, .inr (.inl 103)]) (m' := m) ((149, .iand, 1, 0, 0, 0, 0), (0, 0, 0)) [] (by decide +kernel) rfl ?_
  exact hx_call (E := (150, .invokestatic 241, 3, 206, 0, 6195, 0)) (M' := yp_m206) [.inl (gx_and s2 s3)] [.inl s1, .inr (.inl 103)] rfl (by decide +kernel) rfl ⟨rfl, rfl⟩ rfl rfl (hx_mono h1 (fun r m' h' => hx_pick [0, 3] h'))

/-- feels from 153 on -/
theorem hr202_153 {xs : List Int32} {n : Nat} {Q : hQ} {m : gx_M} {x3 s1 s2 : Int}
    (h1 : Q none (gx_u (gx_u m 103 (s1).toNat s2) 103 13 x3)) : hxn xs (n + 1) yp_m202 153 [(0, .inr (.inl 86)), (3, .inl x3)] [.inl s2, .inl s1, .inr (.inl 103)] m Q := by
  refine hx_blks (npc := 162) (L' := [(0, .inr (.inl 86)), (3, .inl x3)]) (st' := []) (m' := (gx_u (gx_u m 103 (s1).toNat s2) 103 13 x3)) ((153, .iastore, 1, 0, 0, 0, 0), (0, 103, 0)) [((154, .aload_n 0, 1, 0, 0, 0, 0), (0, 0, 0)), ((155, .getfield 59, 3, 10, 26, 5139, 0), (1, 86, 103)), ((158, .bipush 13, 2, 0, 0, 0, 0), (0, 0, 0)), ((160, .iload_n 3, 1, 0, 0, 0, 0), (0, 0, 0)), ((161, .iastore, 1, 0, 0, 0, 0), (0, 103, 0))] (by decide +kernel) rfl ?_
  exact hx_ret0 (by decide +kernel) h1

/-- byLaw from 0 on -/
theorem hr225_0 {xs : List Int32} {n : Nat} {Q : hQ} {m : gx_M} {x1 x2 : Int}
    (h1 : hxn xs n yp_m225 2 [(0, .inr (.inl 86)), (1, .inl x1), (2, .inl x2), (3, .inl 0)] [] m Q) : hxn xs (n + 1) yp_m225 0 [(0, .inr (.inl 86)), (1, .inl x1), (2, .inl x2)] [] m Q := by
  refine hx_blks (npc := 2) (L' := [(0, .inr (.inl 86)), (1, .inl x1), (2, .inl x2), (3, .inl 0)]) (st' := []) (m' := m) ((0, .iconst 0, 1, 0, 0, 0, 0), (0, 0, 0)) [((1, .istore_n 3, 1, 0, 0, 0, 0), (0, 0, 0))] (by decide +kernel) rfl ?_
  exact hx_pick [0, 1, 2, 3] h1

/-- byLaw from 2 on -/
theorem hr225_2 {xs : List Int32} {n : Nat} {Q : hQ} {m : gx_M} {x1 x2 x3 : Int}
    (h1 : ((m 86 13) ≤ x3) → Q (some (.inl 0)) m)
    (h2 : (x3 < (m 86 13)) → ((m 98 (x3).toNat) ≠ x1) → hxn xs n yp_m225 2 [(0, .inr (.inl 86)), (1, .inl x1), (2, .inl x2), (3, .inl (gx_w (x3 + 1)))] [] m Q)
    (h3 : (x3 < (m 86 13)) → ((m 98 (x3).toNat) = x1) → hxn xs n yp_m208 0 [(0, .inr (.inl 86)), (1, .inl (m 100 (x3).toNat)), (2, .inl (m 101 (x3).toNat))] [] m (fun r m' => hxn xs n yp_m225 36 [(0, .inr (.inl 86)), (1, .inl x1), (2, .inl x2), (3, .inl x3)] (hrs r ++ []) m' Q)) : hxn xs (n + 1) yp_m225 2 [(0, .inr (.inl 86)), (1, .inl x1), (2, .inl x2), (3, .inl x3)] [] m Q := by
  refine hx_blks (npc := 7) (L' := [(0, .inr (.inl 86)), (1, .inl x1), (2, .inl x2), (3, .inl x3)]) (st' := [.inl (m 86 13), .inl x3]) (m' := m) ((2, .iload_n 3, 1, 0, 0, 0, 0), (0, 0, 0)) [((3, .aload_n 0, 1, 0, 0, 0, 0), (0, 0, 0)), ((4, .getfield 225, 3, 10, 13, 5126, 0), (0, 86, 0))] (by decide +kernel) rfl ?_
  refine hx_cmp .ge 89 (by decide +kernel) (fun c1 => ?_) (fun c1 => ?_)
  · have c1 : (m 86 13) ≤ x3 := c1
    refine hx_blk (npc := 90) (L' := [(0, .inr (.inl 86)), (1, .inl x1), (2, .inl x2), (3, .inl x3)]) (st' := [.inl 0]) (m' := m) [((89, .iconst 0, 1, 0, 0, 0, 0), (0, 0, 0))] (by decide +kernel) rfl ?_
    exact hx_reti (by decide +kernel) (h1 c1)
  · have c1 : x3 < (m 86 13) := by have h : ¬ ((m 86 13) ≤ x3) := c1; omega
    refine hx_blk (npc := 17) (L' := [(0, .inr (.inl 86)), (1, .inl x1), (2, .inl x2), (3, .inl x3)]) (st' := [.inl x1, .inl (m 98 (x3).toNat)]) (m' := m) [((10, .aload_n 0, 1, 0, 0, 0, 0), (0, 0, 0)), ((11, .getfield 44, 3, 10, 21, 5134, 0), (1, 86, 98)), ((14, .iload_n 3, 1, 0, 0, 0, 0), (0, 0, 0)), ((15, .iaload, 1, 0, 0, 0, 0), (0, 98, 0)), ((16, .iload_n 1, 1, 0, 0, 0, 0), (0, 0, 0))] (by decide +kernel) rfl ?_
    refine hx_cmp .ne 83 (by decide +kernel) (fun c2 => ?_) (fun c2 => ?_)
    · have c2 : (m 98 (x3).toNat) ≠ x1 := c2
      refine hx_blk (npc := 2) (L' := [(0, .inr (.inl 86)), (1, .inl x1), (2, .inl x2), (3, .inl (gx_w (x3 + 1)))]) (st' := []) (m' := m) [((83, .iinc 3 1, 3, 0, 0, 0, 0), (0, 0, 0)), ((86, .goto (-84), 3, 0, 0, 0, 0), (0, 0, 0))] (by decide +kernel) rfl ?_
      exact hx_pick [0, 1, 2, 3] (h2 c1 c2)
    · have c2 : (m 98 (x3).toNat) = x1 := by have h : ¬ ((m 98 (x3).toNat) ≠ x1) := c2; omega
      refine hx_blk (npc := 33) (L' := [(0, .inr (.inl 86)), (1, .inl x1), (2, .inl x2), (3, .inl x3)]) (st' := [.inl (m 101 (x3).toNat), .inl (m 100 (x3).toNat), .inr (.inl 86)]) (m' := m) [((20, .aload_n 0, 1, 0, 0, 0, 0), (0, 0, 0)), ((21, .aload_n 0, 1, 0, 0, 0, 0), (0, 0, 0)), ((22, .getfield 50, 3, 10, 23, 5136, 0), (1, 86, 100)), ((25, .iload_n 3, 1, 0, 0, 0, 0), (0, 0, 0)), ((26, .iaload, 1, 0, 0, 0, 0), (0, 100, 0)), ((27, .aload_n 0, 1, 0, 0, 0, 0), (0, 0, 0)), ((28, .getfield 53, 3, 10, 24, 5137, 0), (1, 86, 101)), ((31, .iload_n 3, 1, 0, 0, 0, 0), (0, 0, 0)), ((32, .iaload, 1, 0, 0, 0, 0), (0, 101, 0))] (by decide +kernel) rfl ?_
      exact hx_call (E := (33, .invokevirtual 232, 3, 208, 0, 6202, 0)) (M' := yp_m208) [.inr (.inl 86), .inl (m 100 (x3).toNat), .inl (m 101 (x3).toNat)] [] rfl (by decide +kernel) rfl ⟨rfl, rfl⟩ rfl rfl (hx_mono (h3 c1 c2) (fun r m' h' => hx_pick [0, 1, 2, 3] h'))

/-- byLaw from 36 on -/
theorem hr225_36 {xs : List Int32} {n : Nat} {Q : hQ} {m : gx_M} {x1 x2 x3 s0 : Int}
    (h1 : (s0 = 1) → hxn xs n yp_m208 0 [(0, .inr (.inl 86)), (1, .inl (m 99 (x3).toNat)), (2, .inl (m 100 (x3).toNat))] [] m (fun r m' => hxn xs n yp_m225 59 [(2, .inl x2)] (hrs r ++ []) m' Q))
    (h2 : (s0 ≠ 1) → hxn xs n yp_m225 2 [(0, .inr (.inl 86)), (1, .inl x1), (2, .inl x2), (3, .inl (gx_w (x3 + 1)))] [] m Q) : hxn xs (n + 1) yp_m225 36 [(0, .inr (.inl 86)), (1, .inl x1), (2, .inl x2), (3, .inl x3)] [.inl s0] m Q := by
  refine hx_blks (npc := 37) (L' := [(0, .inr (.inl 86)), (1, .inl x1), (2, .inl x2), (3, .inl x3)]) (st' := [.inl 1, .inl s0]) (m' := m) ((36, .iconst 1, 1, 0, 0, 0, 0), (0, 0, 0)) [] (by decide +kernel) rfl ?_
  refine hx_cmp .eq 43 (by decide +kernel) (fun c1 => ?_) (fun c1 => ?_)
  · have c1 : s0 = 1 := c1
    refine hx_blk (npc := 56) (L' := [(0, .inr (.inl 86)), (1, .inl x1), (2, .inl x2), (3, .inl x3)]) (st' := [.inl (m 100 (x3).toNat), .inl (m 99 (x3).toNat), .inr (.inl 86)]) (m' := m) [((43, .aload_n 0, 1, 0, 0, 0, 0), (0, 0, 0)), ((44, .aload_n 0, 1, 0, 0, 0, 0), (0, 0, 0)), ((45, .getfield 47, 3, 10, 22, 5135, 0), (1, 86, 99)), ((48, .iload_n 3, 1, 0, 0, 0, 0), (0, 0, 0)), ((49, .iaload, 1, 0, 0, 0, 0), (0, 99, 0)), ((50, .aload_n 0, 1, 0, 0, 0, 0), (0, 0, 0)), ((51, .getfield 50, 3, 10, 23, 5136, 0), (1, 86, 100)), ((54, .iload_n 3, 1, 0, 0, 0, 0), (0, 0, 0)), ((55, .iaload, 1, 0, 0, 0, 0), (0, 100, 0))] (by decide +kernel) rfl ?_
    exact hx_call (E := (56, .invokevirtual 232, 3, 208, 0, 6202, 0)) (M' := yp_m208) [.inr (.inl 86), .inl (m 99 (x3).toNat), .inl (m 100 (x3).toNat)] [] rfl (by decide +kernel) rfl ⟨rfl, rfl⟩ rfl rfl (hx_mono (h1 c1) (fun r m' h' => hx_pick [2] h'))
  · have c1 : s0 ≠ 1 := c1
    refine hx_blk (npc := 2) (L' := [(0, .inr (.inl 86)), (1, .inl x1), (2, .inl x2), (3, .inl (gx_w (x3 + 1)))]) (st' := []) (m' := m) [((40, .goto 43, 3, 0, 0, 0, 0), (0, 0, 0)), ((83, .iinc 3 1, 3, 0, 0, 0, 0), (0, 0, 0)), ((86, .goto (-84), 3, 0, 0, 0, 0), (0, 0, 0))] (by decide +kernel) rfl ?_
    exact hx_pick [0, 1, 2, 3] (h2 c1)

/-- byLaw from 59 on -/
theorem hr225_59 {xs : List Int32} {n : Nat} {Q : hQ} {m : gx_M} {x2 s0 : Int}
    (h1 : (0 ≤ s0) → (s0 ≤ x2) → Q (some (.inl s0)) m)
    (h2 : (0 ≤ s0) → (x2 < s0) → Q (some (.inl x2)) m)
    (h3 : (s0 < 0) → Q (some (.inl 0)) m) : hxn xs (n + 1) yp_m225 59 [(2, .inl x2)] [.inl s0] m Q := by
  refine hx_blks (npc := 63) (L' := [(2, .inl x2), (4, .inl s0)]) (st' := [.inl s0]) (m' := m) ((59, .istore 4, 2, 0, 0, 0, 0), (0, 0, 0)) [((61, .iload 4, 2, 0, 0, 0, 0), (0, 0, 0))] (by decide +kernel) rfl ?_
  refine hx_if .ge 70 (by decide +kernel) (fun c1 => ?_) (fun c1 => ?_)
  · have c1 : 0 ≤ s0 := c1
    refine hx_blk (npc := 73) (L' := [(2, .inl x2), (4, .inl s0)]) (st' := [.inl x2, .inl s0]) (m' := m) [((70, .iload 4, 2, 0, 0, 0, 0), (0, 0, 0)), ((72, .iload_n 2, 1, 0, 0, 0, 0), (0, 0, 0))] (by decide +kernel) rfl ?_
    refine hx_cmp .le 80 (by decide +kernel) (fun c2 => ?_) (fun c2 => ?_)
    · have c2 : s0 ≤ x2 := c2
      refine hx_blk (npc := 82) (L' := [(2, .inl x2), (4, .inl s0)]) (st' := [.inl s0]) (m' := m) [((80, .iload 4, 2, 0, 0, 0, 0), (0, 0, 0))] (by decide +kernel) rfl ?_
      exact hx_reti (by decide +kernel) (h1 c1 c2)
    · have c2 : x2 < s0 := by have h : ¬ (s0 ≤ x2) := c2; omega
      refine hx_blk (npc := 82) (L' := [(2, .inl x2), (4, .inl s0)]) (st' := [.inl x2]) (m' := m) [((76, .iload_n 2, 1, 0, 0, 0, 0), (0, 0, 0)), ((77, .goto 5, 3, 0, 0, 0, 0), (0, 0, 0))] (by decide +kernel) rfl ?_
      exact hx_reti (by decide +kernel) (h2 c1 c2)
  · have c1 : s0 < 0 := by have h : ¬ (0 ≤ s0) := c1; omega
    refine hx_blk (npc := 82) (L' := [(2, .inl x2), (4, .inl s0)]) (st' := [.inl 0]) (m' := m) [((66, .iconst 0, 1, 0, 0, 0, 0), (0, 0, 0)), ((67, .goto 15, 3, 0, 0, 0, 0), (0, 0, 0))] (by decide +kernel) rfl ?_
    exact hx_reti (by decide +kernel) (h3 c1)

/-- isBarred from 0 on -/
theorem hr201_0 {xs : List Int32} {n : Nat} {Q : hQ} {m : gx_M} {x1 x2 x3 : Int}
    (h1 : hxn xs n yp_m202 0 [(0, .inr (.inl 86)), (1, .inl x1), (2, .inl x2), (3, .inl x3)] [] m (fun r m' => hxn xs n yp_m201 7 [(0, .inr (.inl 86))] (hrs r ++ []) m' Q)) : hxn xs (n + 1) yp_m201 0 [(0, .inr (.inl 86)), (1, .inl x1), (2, .inl x2), (3, .inl x3)] [] m Q := by
  refine hx_blks (npc := 4) (L' := [(0, .inr (.inl 86)), (1, .inl x1), (2, .inl x2), (3, .inl x3)]) (st' := [.inl x3, .inl x2, .inl x1, .inr (.inl 86)]) (m' := m) ((0, .aload_n 0, 1, 0, 0, 0, 0), (0, 0, 0)) [((1, .iload_n 1, 1, 0, 0, 0, 0), (0, 0, 0)), ((2, .iload_n 2, 1, 0, 0, 0, 0), (0, 0, 0)), ((3, .iload_n 3, 1, 0, 0, 0, 0), (0, 0, 0))] (by decide +kernel) rfl ?_
  exact hx_call (E := (4, .invokevirtual 247, 3, 202, 0, 6179, 0)) (M' := yp_m202) [.inr (.inl 86), .inl x1, .inl x2, .inl x3] [] rfl (by decide +kernel) rfl ⟨rfl, rfl⟩ rfl rfl (hx_mono h1 (fun r m' h' => hx_pick [0] h'))

/-- isBarred from 7 on -/
theorem hr201_7 {xs : List Int32} {n : Nat} {Q : hQ} {m : gx_M}
    (h1 : hxn xs n yp_m201 10 [(0, .inr (.inl 86)), (4, .inl 0)] [] m Q) : hxn xs (n + 1) yp_m201 7 [(0, .inr (.inl 86))] [] m Q := by
  refine hx_blks (npc := 10) (L' := [(0, .inr (.inl 86)), (4, .inl 0)]) (st' := []) (m' := m) ((7, .iconst 0, 1, 0, 0, 0, 0), (0, 0, 0)) [((8, .istore 4, 2, 0, 0, 0, 0), (0, 0, 0))] (by decide +kernel) rfl ?_
  exact hx_pick [0, 4] h1

/-- isBarred from 10 on -/
theorem hr201_10 {xs : List Int32} {n : Nat} {Q : hQ} {m : gx_M} {x4 : Int}
    (h1 : ((m 86 13) ≤ x4) → Q (some (.inl 0)) m)
    (h2 : (x4 < (m 86 13)) → ((m 98 (x4).toNat) ≠ 110) → hxn xs n yp_m201 10 [(0, .inr (.inl 86)), (4, .inl (gx_w (x4 + 1)))] [] m Q)
    (h3 : (x4 < (m 86 13)) → ((m 98 (x4).toNat) = 110) → hxn xs n yp_m208 0 [(0, .inr (.inl 86)), (1, .inl (m 100 (x4).toNat)), (2, .inl (m 101 (x4).toNat))] [] m (fun r m' => hxn xs n yp_m201 49 [(0, .inr (.inl 86)), (4, .inl x4)] (hrs r ++ []) m' Q)) : hxn xs (n + 1) yp_m201 10 [(0, .inr (.inl 86)), (4, .inl x4)] [] m Q := by
  refine hx_blks (npc := 16) (L' := [(0, .inr (.inl 86)), (4, .inl x4)]) (st' := [.inl (m 86 13), .inl x4]) (m' := m) ((10, .iload 4, 2, 0, 0, 0, 0), (0, 0, 0)) [((12, .aload_n 0, 1, 0, 0, 0, 0), (0, 0, 0)), ((13, .getfield 225, 3, 10, 13, 5126, 0), (0, 86, 0))] (by decide +kernel) rfl ?_
  refine hx_cmp .ge 61 (by decide +kernel) (fun c1 => ?_) (fun c1 => ?_)
  · have c1 : (m 86 13) ≤ x4 := c1
    refine hx_blk (npc := 62) (L' := [(0, .inr (.inl 86)), (4, .inl x4)]) (st' := [.inl 0]) (m' := m) [((61, .iconst 0, 1, 0, 0, 0, 0), (0, 0, 0))] (by decide +kernel) rfl ?_
    exact hx_reti (by decide +kernel) (h1 c1)
  · have c1 : x4 < (m 86 13) := by have h : ¬ ((m 86 13) ≤ x4) := c1; omega
    refine hx_blk (npc := 28) (L' := [(0, .inr (.inl 86)), (4, .inl x4)]) (st' := [.inl 110, .inl (m 98 (x4).toNat)]) (m' := m) [((19, .aload_n 0, 1, 0, 0, 0, 0), (0, 0, 0)), ((20, .getfield 44, 3, 10, 21, 5134, 0), (1, 86, 98)), ((23, .iload 4, 2, 0, 0, 0, 0), (0, 0, 0)), ((25, .iaload, 1, 0, 0, 0, 0), (0, 98, 0)), ((26, .bipush 110, 2, 0, 0, 0, 0), (0, 0, 0))] (by decide +kernel) rfl ?_
    refine hx_cmp .ne 55 (by decide +kernel) (fun c2 => ?_) (fun c2 => ?_)
    · have c2 : (m 98 (x4).toNat) ≠ 110 := c2
      refine hx_blk (npc := 10) (L' := [(0, .inr (.inl 86)), (4, .inl (gx_w (x4 + 1)))]) (st' := []) (m' := m) [((55, .iinc 4 1, 3, 0, 0, 0, 0), (0, 0, 0)), ((58, .goto (-48), 3, 0, 0, 0, 0), (0, 0, 0))] (by decide +kernel) rfl ?_
      exact hx_pick [0, 4] (h2 c1 c2)
    · have c2 : (m 98 (x4).toNat) = 110 := by have h : ¬ ((m 98 (x4).toNat) ≠ 110) := c2; omega
      refine hx_blk (npc := 46) (L' := [(0, .inr (.inl 86)), (4, .inl x4)]) (st' := [.inl (m 101 (x4).toNat), .inl (m 100 (x4).toNat), .inr (.inl 86)]) (m' := m) [((31, .aload_n 0, 1, 0, 0, 0, 0), (0, 0, 0)), ((32, .aload_n 0, 1, 0, 0, 0, 0), (0, 0, 0)), ((33, .getfield 50, 3, 10, 23, 5136, 0), (1, 86, 100)), ((36, .iload 4, 2, 0, 0, 0, 0), (0, 0, 0)), ((38, .iaload, 1, 0, 0, 0, 0), (0, 100, 0)), ((39, .aload_n 0, 1, 0, 0, 0, 0), (0, 0, 0)), ((40, .getfield 53, 3, 10, 24, 5137, 0), (1, 86, 101)), ((43, .iload 4, 2, 0, 0, 0, 0), (0, 0, 0)), ((45, .iaload, 1, 0, 0, 0, 0), (0, 101, 0))] (by decide +kernel) rfl ?_
      exact hx_call (E := (46, .invokevirtual 232, 3, 208, 0, 6202, 0)) (M' := yp_m208) [.inr (.inl 86), .inl (m 100 (x4).toNat), .inl (m 101 (x4).toNat)] [] rfl (by decide +kernel) rfl ⟨rfl, rfl⟩ rfl rfl (hx_mono (h3 c1 c2) (fun r m' h' => hx_pick [0, 4] h'))

/-- isBarred from 49 on -/
theorem hr201_49 {xs : List Int32} {n : Nat} {Q : hQ} {m : gx_M} {x4 s0 : Int}
    (h1 : (s0 ≠ 1) → hxn xs n yp_m201 10 [(0, .inr (.inl 86)), (4, .inl (gx_w (x4 + 1)))] [] m Q)
    (h2 : (s0 = 1) → Q (some (.inl 1)) m) : hxn xs (n + 1) yp_m201 49 [(0, .inr (.inl 86)), (4, .inl x4)] [.inl s0] m Q := by
  refine hx_blks (npc := 50) (L' := [(0, .inr (.inl 86)), (4, .inl x4)]) (st' := [.inl 1, .inl s0]) (m' := m) ((49, .iconst 1, 1, 0, 0, 0, 0), (0, 0, 0)) [] (by decide +kernel) rfl ?_
  refine hx_cmp .ne 55 (by decide +kernel) (fun c1 => ?_) (fun c1 => ?_)
  · have c1 : s0 ≠ 1 := c1
    refine hx_blk (npc := 10) (L' := [(0, .inr (.inl 86)), (4, .inl (gx_w (x4 + 1)))]) (st' := []) (m' := m) [((55, .iinc 4 1, 3, 0, 0, 0, 0), (0, 0, 0)), ((58, .goto (-48), 3, 0, 0, 0, 0), (0, 0, 0))] (by decide +kernel) rfl ?_
    exact hx_pick [0, 4] (h1 c1)
  · have c1 : s0 = 1 := by have h : ¬ (s0 ≠ 1) := c1; omega
    refine hx_blk (npc := 54) (L' := [(0, .inr (.inl 86)), (4, .inl x4)]) (st' := [.inl 1]) (m' := m) [((53, .iconst 1, 1, 0, 0, 0, 0), (0, 0, 0))] (by decide +kernel) rfl ?_
    exact hx_reti (by decide +kernel) (h2 c1)

/-- worthOf from 0 on -/
theorem hr224_0 {xs : List Int32} {n : Nat} {Q : hQ} {m : gx_M} {x1 x2 : Int}
    (h1 : hxn xs n yp_m202 0 [(0, .inr (.inl 86)), (1, .inl x1), (2, .inl x2), (3, .inl 0)] [] m (fun r m' => hxn xs n yp_m224 7 [(0, .inr (.inl 86))] (hrs r ++ []) m' Q)) : hxn xs (n + 1) yp_m224 0 [(0, .inr (.inl 86)), (1, .inl x1), (2, .inl x2)] [] m Q := by
  refine hx_blks (npc := 4) (L' := [(0, .inr (.inl 86)), (1, .inl x1), (2, .inl x2)]) (st' := [.inl 0, .inl x2, .inl x1, .inr (.inl 86)]) (m' := m) ((0, .aload_n 0, 1, 0, 0, 0, 0), (0, 0, 0)) [((1, .iload_n 1, 1, 0, 0, 0, 0), (0, 0, 0)), ((2, .iload_n 2, 1, 0, 0, 0, 0), (0, 0, 0)), ((3, .iconst 0, 1, 0, 0, 0, 0), (0, 0, 0))] (by decide +kernel) rfl ?_
  exact hx_call (E := (4, .invokevirtual 247, 3, 202, 0, 6179, 0)) (M' := yp_m202) [.inr (.inl 86), .inl x1, .inl x2, .inl 0] [] rfl (by decide +kernel) rfl ⟨rfl, rfl⟩ rfl rfl (hx_mono h1 (fun r m' h' => hx_pick [0] h'))

/-- worthOf from 7 on -/
theorem hr224_7 {xs : List Int32} {n : Nat} {Q : hQ} {m : gx_M}
    (h1 : hxn xs n yp_m225 0 [(0, .inr (.inl 86)), (1, .inl 118), (2, .inl 999)] [] m (fun r m' => hxn xs n yp_m224 16 [] (hrs r ++ []) m' Q)) : hxn xs (n + 1) yp_m224 7 [(0, .inr (.inl 86))] [] m Q := by
  refine hx_blks (npc := 13) (L' := [(0, .inr (.inl 86))]) (st' := [.inl 999, .inl 118, .inr (.inl 86)]) (m' := m) ((7, .aload_n 0, 1, 0, 0, 0, 0), (0, 0, 0)) [((8, .bipush 118, 2, 0, 0, 0, 0), (0, 0, 0)), ((10, .sipush 999, 3, 0, 0, 0, 0), (0, 0, 0))] (by decide +kernel) rfl ?_
  exact hx_call (E := (13, .invokevirtual 251, 3, 225, 0, 7028, 0)) (M' := yp_m225) [.inr (.inl 86), .inl 118, .inl 999] [] rfl (by decide +kernel) rfl ⟨rfl, rfl⟩ rfl rfl (hx_mono h1 (fun r m' h' => hx_pick [] h'))

/-- worthOf from 16 on -/
theorem hr224_16 {xs : List Int32} {n : Nat} {Q : hQ} {m : gx_M} {s0 : Int}
    (h1 : Q (some (.inl s0)) m) : hxn xs (n + 1) yp_m224 16 [] [.inl s0] m Q := by
  exact hx_reti (by decide +kernel) h1

