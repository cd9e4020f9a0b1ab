section
/-! inOrder: roads -/
/-- inOrder from 0 on -/
theorem hv139_0 {xs : List Int32} {n : Nat} {Q : hQ} {m : gx_M} {x1 x2 : Int}
    (h1 : hxn xs n yp_m23 0 [(0, .inr (.inl 1)), (1, .inl x1), (2, .inl 160)] [] m (fun r m' => hxn xs n yp_m139 11 [(0, .inr (.inl 0)), (1, .inl x1), (2, .inl x2)] (hrs r ++ []) m' Q)) : hxn xs (n + 1) yp_m139 0 [(0, .inr (.inl 0)), (1, .inl x1), (2, .inl x2)] [] m Q := by
  refine hx_blks (npc := 8) (L' := [(0, .inr (.inl 0)), (1, .inl x1), (2, .inl x2)]) (st' := [.inl 160, .inl x1, .inr (.inl 1)]) (m' := m) ((0, .aload_n 0, 1, 0, 0, 0, 0), (0, 0, 0)) [((1, .getfield 10, 3, 9, 0, 2119, 0), (1, 0, 1)), ((4, .iload_n 1, 1, 0, 0, 0, 0), (0, 0, 0)), ((5, .sipush 160, 3, 0, 0, 0, 0), (0, 0, 0))] (by decide +kernel) rfl ?_
  exact hx_call (E := (8, .invokevirtual 124, 3, 23, 0, 2212, 0)) (M' := yp_m23) [.inr (.inl 1), .inl x1, .inl 160] [] rfl (by decide +kernel) rfl ⟨rfl, rfl⟩ rfl rfl (hx_mono h1 (fun r m' h' => hx_pick [0, 1, 2] h'))

/-- inOrder from 11 on -/
theorem hv139_11 {xs : List Int32} {n : Nat} {Q : hQ} {m : gx_M} {x1 x2 s0 : Int}
    (h1 : (s0 ≠ 0) → hxn xs n yp_m24 0 [(0, .inr (.inl 3)), (1, .inr (.inl 1)), (2, .inl x1)] [] m (fun r m' => hxn xs n yp_m139 28 [(0, .inr (.inl 0)), (2, .inl x2)] (hrs r ++ []) m' Q))
    (h2 : (s0 = 0) → Q (some (.inl (-1))) m) : hxn xs (n + 1) yp_m139 11 [(0, .inr (.inl 0)), (1, .inl x1), (2, .inl x2)] [.inl s0] m Q := by
  refine hx_ifs .ne 16 (by decide +kernel) (fun c1 => ?_) (fun c1 => ?_)
  · have c1 : s0 ≠ 0 := c1
    refine hx_blk (npc := 25) (L' := [(0, .inr (.inl 0)), (1, .inl x1), (2, .inl x2)]) (st' := [.inl x1, .inr (.inl 1), .inr (.inl 3)]) (m' := m) [((16, .aload_n 0, 1, 0, 0, 0, 0), (0, 0, 0)), ((17, .getfield 19, 3, 9, 1, 2120, 0), (1, 0, 3)), ((20, .aload_n 0, 1, 0, 0, 0, 0), (0, 0, 0)), ((21, .getfield 10, 3, 9, 0, 2119, 0), (1, 0, 1)), ((24, .iload_n 1, 1, 0, 0, 0, 0), (0, 0, 0))] (by decide +kernel) rfl ?_
    exact hx_call (E := (25, .invokevirtual 128, 3, 24, 0, 2216, 0)) (M' := yp_m24) [.inr (.inl 3), .inr (.inl 1), .inl x1] [] rfl (by decide +kernel) rfl ⟨rfl, rfl⟩ rfl rfl (hx_mono (h1 c1) (fun r m' h' => hx_pick [0, 2] h'))
  · have c1 : s0 = 0 := by have h : ¬ (s0 ≠ 0) := c1; omega
    refine hx_blk (npc := 15) (L' := [(0, .inr (.inl 0)), (1, .inl x1), (2, .inl x2)]) (st' := [.inl (-1)]) (m' := m) [((14, .iconst (-1), 1, 0, 0, 0, 0), (0, 0, 0))] (by decide +kernel) rfl ?_
    exact hx_reti (by decide +kernel) (h2 c1)

/-- inOrder from 28 on -/
theorem hv139_28 {xs : List Int32} {n : Nat} {Q : hQ} {m : gx_M} {x2 : Int}
    (h1 : hxn xs n yp_m49 0 [(0, .inr (.inl 61)), (1, .inr (.inl 3))] [] m (fun r m' => hxn xs n yp_m139 39 [(0, .inr (.inl 0)), (2, .inl x2)] (hrs r ++ []) m' Q)) : hxn xs (n + 1) yp_m139 28 [(0, .inr (.inl 0)), (2, .inl x2)] [] m Q := by
  refine hx_blks (npc := 36) (L' := [(0, .inr (.inl 0)), (2, .inl x2)]) (st' := [.inr (.inl 3), .inr (.inl 61)]) (m' := m) ((28, .aload_n 0, 1, 0, 0, 0, 0), (0, 0, 0)) [((29, .getfield 53, 3, 9, 7, 2126, 0), (1, 0, 61)), ((32, .aload_n 0, 1, 0, 0, 0, 0), (0, 0, 0)), ((33, .getfield 19, 3, 9, 1, 2120, 0), (1, 0, 3))] (by decide +kernel) rfl ?_
  exact hx_call (E := (36, .invokevirtual 147, 3, 49, 0, 3087, 0)) (M' := yp_m49) [.inr (.inl 61), .inr (.inl 3)] [] rfl (by decide +kernel) rfl ⟨rfl, rfl⟩ rfl rfl (hx_mono h1 (fun r m' h' => hx_pick [0, 2] h'))

/-- inOrder from 39 on -/
theorem hv139_39 {xs : List Int32} {n : Nat} {Q : hQ} {m : gx_M} {x2 s0 : Int}
    (h1 : (s0 ≠ 0) → (6 < (m 61 5)) → Q (some (.inl (-3))) m)
    (h2 : (s0 ≠ 0) → ((m 61 5) ≤ 6) → (x2 < (-1)) → Q (some (.inl (-3))) m)
    (h3 : (s0 ≠ 0) → ((m 61 5) ≤ 6) → ((-1) ≤ x2) → (x2 < (m 61 5)) → hxn xs n yp_m71 0 [(0, .inr (.inl 31)), (1, .inr (.inl 5))] [] m (fun r m' => hxn xs n yp_m139 92 [(0, .inr (.inl 0)), (2, .inl x2)] (hrs r ++ []) m' Q))
    (h4 : (s0 ≠ 0) → ((m 61 5) ≤ 6) → ((-1) ≤ x2) → ((m 61 5) ≤ x2) → Q (some (.inl (-3))) m)
    (h5 : (s0 = 0) → Q (some (.inl (m 3 4))) m) : hxn xs (n + 1) yp_m139 39 [(0, .inr (.inl 0)), (2, .inl x2)] [.inl s0] m Q := by
  refine hx_ifs .ne 50 (by decide +kernel) (fun c1 => ?_) (fun c1 => ?_)
  · have c1 : s0 ≠ 0 := c1
    refine hx_blk (npc := 59) (L' := [(0, .inr (.inl 0)), (2, .inl x2)]) (st' := [.inl 6, .inl (m 61 5)]) (m' := m) [((50, .aload_n 0, 1, 0, 0, 0, 0), (0, 0, 0)), ((51, .getfield 53, 3, 9, 7, 2126, 0), (1, 0, 61)), ((54, .getfield 148, 3, 5, 5, 2003, 0), (0, 61, 0)), ((57, .bipush 6, 2, 0, 0, 0, 0), (0, 0, 0))] (by decide +kernel) rfl ?_
    refine hx_cmp .gt 78 (by decide +kernel) (fun c2 => ?_) (fun c2 => ?_)
    · have c2 : 6 < (m 61 5) := c2
      refine hx_blk (npc := 80) (L' := [(0, .inr (.inl 0)), (2, .inl x2)]) (st' := [.inl (-3)]) (m' := m) [((78, .bipush (-3), 2, 0, 0, 0, 0), (0, 0, 0))] (by decide +kernel) rfl ?_
      exact hx_reti (by decide +kernel) (h1 c1 c2)
    · have c2 : (m 61 5) ≤ 6 := by have h : ¬ (6 < (m 61 5)) := c2; omega
      refine hx_blk (npc := 64) (L' := [(0, .inr (.inl 0)), (2, .inl x2)]) (st' := [.inl (-1), .inl x2]) (m' := m) [((62, .iload_n 2, 1, 0, 0, 0, 0), (0, 0, 0)), ((63, .iconst (-1), 1, 0, 0, 0, 0), (0, 0, 0))] (by decide +kernel) rfl ?_
      refine hx_cmp .lt 78 (by decide +kernel) (fun c3 => ?_) (fun c3 => ?_)
      · have c3 : x2 < (-1) := c3
        refine hx_blk (npc := 80) (L' := [(0, .inr (.inl 0)), (2, .inl x2)]) (st' := [.inl (-3)]) (m' := m) [((78, .bipush (-3), 2, 0, 0, 0, 0), (0, 0, 0))] (by decide +kernel) rfl ?_
        exact hx_reti (by decide +kernel) (h2 c1 c2 c3)
      · have c3 : (-1) ≤ x2 := by have h : ¬ (x2 < (-1)) := c3; omega
        refine hx_blk (npc := 75) (L' := [(0, .inr (.inl 0)), (2, .inl x2)]) (st' := [.inl (m 61 5), .inl x2]) (m' := m) [((67, .iload_n 2, 1, 0, 0, 0, 0), (0, 0, 0)), ((68, .aload_n 0, 1, 0, 0, 0, 0), (0, 0, 0)), ((69, .getfield 53, 3, 9, 7, 2126, 0), (1, 0, 61)), ((72, .getfield 148, 3, 5, 5, 2003, 0), (0, 61, 0))] (by decide +kernel) rfl ?_
        refine hx_cmp .lt 81 (by decide +kernel) (fun c4 => ?_) (fun c4 => ?_)
        · have c4 : x2 < (m 61 5) := c4
          refine hx_blk (npc := 89) (L' := [(0, .inr (.inl 0)), (2, .inl x2)]) (st' := [.inr (.inl 5), .inr (.inl 31)]) (m' := m) [((81, .aload_n 0, 1, 0, 0, 0, 0), (0, 0, 0)), ((82, .getfield 33, 3, 9, 4, 2123, 0), (1, 0, 31)), ((85, .aload_n 0, 1, 0, 0, 0, 0), (0, 0, 0)), ((86, .getfield 26, 3, 9, 2, 2121, 0), (1, 0, 5))] (by decide +kernel) rfl ?_
          exact hx_call (E := (89, .invokevirtual 153, 3, 71, 0, 3193, 0)) (M' := yp_m71) [.inr (.inl 31), .inr (.inl 5)] [] rfl (by decide +kernel) rfl ⟨rfl, rfl⟩ rfl rfl (hx_mono (h3 c1 c2 c3 c4) (fun r m' h' => hx_pick [0, 2] h'))
        · have c4 : (m 61 5) ≤ x2 := by have h : ¬ (x2 < (m 61 5)) := c4; omega
          refine hx_blk (npc := 80) (L' := [(0, .inr (.inl 0)), (2, .inl x2)]) (st' := [.inl (-3)]) (m' := m) [((78, .bipush (-3), 2, 0, 0, 0, 0), (0, 0, 0))] (by decide +kernel) rfl ?_
          exact hx_reti (by decide +kernel) (h4 c1 c2 c3 c4)
  · have c1 : s0 = 0 := by have h : ¬ (s0 ≠ 0) := c1; omega
    refine hx_blk (npc := 49) (L' := [(0, .inr (.inl 0)), (2, .inl x2)]) (st' := [.inl (m 3 4)]) (m' := m) [((42, .aload_n 0, 1, 0, 0, 0, 0), (0, 0, 0)), ((43, .getfield 19, 3, 9, 1, 2120, 0), (1, 0, 3)), ((46, .getfield 136, 3, 1, 4, 1058, 0), (0, 3, 0))] (by decide +kernel) rfl ?_
    exact hx_reti (by decide +kernel) (h5 c1)

/-- inOrder from 92 on -/
theorem hv139_92 {xs : List Int32} {n : Nat} {Q : hQ} {m : gx_M} {x2 : Int}
    (h1 : hxn xs n yp_m140 0 [(0, .inr (.inl 61)), (1, .inr (.inl 31)), (2, .inr (.inl 44)), (3, .inl 0), (4, .inl 0)] [] m (fun r m' => hxn xs n yp_m139 109 [(0, .inr (.inl 0)), (2, .inl x2)] (hrs r ++ []) m' Q)) : hxn xs (n + 1) yp_m139 92 [(0, .inr (.inl 0)), (2, .inl x2)] [] m Q := by
  refine hx_blks (npc := 106) (L' := [(0, .inr (.inl 0)), (2, .inl x2)]) (st' := [.inl 0, .inl 0, .inr (.inl 44), .inr (.inl 31), .inr (.inl 61)]) (m' := m) ((92, .aload_n 0, 1, 0, 0, 0, 0), (0, 0, 0)) [((93, .getfield 53, 3, 9, 7, 2126, 0), (1, 0, 61)), ((96, .aload_n 0, 1, 0, 0, 0, 0), (0, 0, 0)), ((97, .getfield 33, 3, 9, 4, 2123, 0), (1, 0, 31)), ((100, .aload_n 0, 1, 0, 0, 0, 0), (0, 0, 0)), ((101, .getfield 39, 3, 9, 5, 2124, 0), (1, 0, 44)), ((104, .iconst 0, 1, 0, 0, 0, 0), (0, 0, 0)), ((105, .iconst 0, 1, 0, 0, 0, 0), (0, 0, 0))] (by decide +kernel) rfl ?_
  exact hx_call (E := (106, .invokevirtual 305, 3, 140, 0, 5022, 0)) (M' := yp_m140) [.inr (.inl 61), .inr (.inl 31), .inr (.inl 44), .inl 0, .inl 0] [] rfl (by decide +kernel) rfl ⟨rfl, rfl⟩ rfl rfl (hx_mono h1 (fun r m' h' => hx_pick [0, 2] h'))

/-- inOrder from 109 on -/
theorem hv139_109 {xs : List Int32} {n : Nat} {Q : hQ} {m : gx_M} {x2 s0 : Int}
    (h1 : (x2 ≠ (-1)) → (s0 = 0) → Q (some (.inl (-2))) m)
    (h2 : (x2 ≠ (-1)) → (s0 ≠ 0) → Q (some (.inl (m 67 (x2).toNat))) m)
    (h3 : (x2 = (-1)) → (s0 = 0) → Q (some (.inl 0)) m)
    (h4 : (x2 = (-1)) → (s0 ≠ 0) → Q (some (.inl 1)) m) : hxn xs (n + 1) yp_m139 109 [(0, .inr (.inl 0)), (2, .inl x2)] [.inl s0] m Q := by
  refine hx_blks (npc := 112) (L' := [(0, .inr (.inl 0)), (2, .inl x2), (3, .inl s0)]) (st' := [.inl (-1), .inl x2]) (m' := m) ((109, .istore_n 3, 1, 0, 0, 0, 0), (0, 0, 0)) [((110, .iload_n 2, 1, 0, 0, 0, 0), (0, 0, 0)), ((111, .iconst (-1), 1, 0, 0, 0, 0), (0, 0, 0))] (by decide +kernel) rfl ?_
  refine hx_cmp .ne 125 (by decide +kernel) (fun c1 => ?_) (fun c1 => ?_)
  · have c1 : x2 ≠ (-1) := c1
    refine hx_blk (npc := 126) (L' := [(0, .inr (.inl 0)), (2, .inl x2), (3, .inl s0)]) (st' := [.inl s0]) (m' := m) [((125, .iload_n 3, 1, 0, 0, 0, 0), (0, 0, 0))] (by decide +kernel) rfl ?_
    refine hx_if .eq 141 (by decide +kernel) (fun c2 => ?_) (fun c2 => ?_)
    · have c2 : s0 = 0 := c2
      refine hx_blk (npc := 143) (L' := [(0, .inr (.inl 0)), (2, .inl x2), (3, .inl s0)]) (st' := [.inl (-2)]) (m' := m) [((141, .bipush (-2), 2, 0, 0, 0, 0), (0, 0, 0))] (by decide +kernel) rfl ?_
      exact hx_reti (by decide +kernel) (h1 c1 c2)
    · have c2 : s0 ≠ 0 := c2
      refine hx_blk (npc := 143) (L' := [(0, .inr (.inl 0)), (2, .inl x2), (3, .inl s0)]) (st' := [.inl (m 67 (x2).toNat)]) (m' := m) [((129, .aload_n 0, 1, 0, 0, 0, 0), (0, 0, 0)), ((130, .getfield 53, 3, 9, 7, 2126, 0), (1, 0, 61)), ((133, .getfield 309, 3, 5, 6, 2005, 0), (1, 61, 67)), ((136, .iload_n 2, 1, 0, 0, 0, 0), (0, 0, 0)), ((137, .iaload, 1, 0, 0, 0, 0), (0, 67, 0)), ((138, .goto 5, 3, 0, 0, 0, 0), (0, 0, 0))] (by decide +kernel) rfl ?_
      exact hx_reti (by decide +kernel) (h2 c1 c2)
  · have c1 : x2 = (-1) := by have h : ¬ (x2 ≠ (-1)) := c1; omega
    refine hx_blk (npc := 116) (L' := [(0, .inr (.inl 0)), (2, .inl x2), (3, .inl s0)]) (st' := [.inl s0]) (m' := m) [((115, .iload_n 3, 1, 0, 0, 0, 0), (0, 0, 0))] (by decide +kernel) rfl ?_
    refine hx_if .eq 123 (by decide +kernel) (fun c2 => ?_) (fun c2 => ?_)
    · have c2 : s0 = 0 := c2
      refine hx_blk (npc := 124) (L' := [(0, .inr (.inl 0)), (2, .inl x2), (3, .inl s0)]) (st' := [.inl 0]) (m' := m) [((123, .iconst 0, 1, 0, 0, 0, 0), (0, 0, 0))] (by decide +kernel) rfl ?_
      exact hx_reti (by decide +kernel) (h3 c1 c2)
    · have c2 : s0 ≠ 0 := c2
      refine hx_blk (npc := 124) (L' := [(0, .inr (.inl 0)), (2, .inl x2), (3, .inl s0)]) (st' := [.inl 1]) (m' := m) [((119, .iconst 1, 1, 0, 0, 0, 0), (0, 0, 0)), ((120, .goto 4, 3, 0, 0, 0, 0), (0, 0, 0))] (by decide +kernel) rfl ?_
      exact hx_reti (by decide +kernel) (h4 c1 c2)

/-- findOrder from 0 on -/
theorem hr140_0 {xs : List Int32} {n : Nat} {Q : hQ} {m : gx_M} {x3 x4 : Int}
    (h1 : (x3 < (m 61 5)) → (x3 < 0) → Q (some (.inl 0)) m)
    (h2 : (x3 < (m 61 5)) → (0 ≤ x3) → (x3 < 6) → hxn xs n yp_m140 25 [(0, .inr (.inl 61)), (1, .inr (.inl 31)), (2, .inr (.inl 44)), (3, .inl x3), (4, .inl x4), (5, .inl 0)] [] m Q)
    (h3 : (x3 < (m 61 5)) → (0 ≤ x3) → (6 ≤ x3) → Q (some (.inl 0)) m)
    (h4 : ((m 61 5) ≤ x3) → Q (some (.inl 1)) m) : hxn xs (n + 1) yp_m140 0 [(0, .inr (.inl 61)), (1, .inr (.inl 31)), (2, .inr (.inl 44)), (3, .inl x3), (4, .inl x4)] [] m Q := by
  refine hx_blks (npc := 5) (L' := [(0, .inr (.inl 61)), (1, .inr (.inl 31)), (2, .inr (.inl 44)), (3, .inl x3), (4, .inl x4)]) (st' := [.inl (m 61 5), .inl x3]) (m' := m) ((0, .iload_n 3, 1, 0, 0, 0, 0), (0, 0, 0)) [((1, .aload_n 0, 1, 0, 0, 0, 0), (0, 0, 0)), ((2, .getfield 33, 3, 5, 5, 2002, 0), (0, 61, 0))] (by decide +kernel) rfl ?_
  refine hx_cmp .lt 10 (by decide +kernel) (fun c1 => ?_) (fun c1 => ?_)
  · have c1 : x3 < (m 61 5) := c1
    refine hx_blk (npc := 11) (L' := [(0, .inr (.inl 61)), (1, .inr (.inl 31)), (2, .inr (.inl 44)), (3, .inl x3), (4, .inl x4)]) (st' := [.inl x3]) (m' := m) [((10, .iload_n 3, 1, 0, 0, 0, 0), (0, 0, 0))] (by decide +kernel) rfl ?_
    refine hx_if .lt 20 (by decide +kernel) (fun c2 => ?_) (fun c2 => ?_)
    · have c2 : x3 < 0 := c2
      refine hx_blk (npc := 21) (L' := [(0, .inr (.inl 61)), (1, .inr (.inl 31)), (2, .inr (.inl 44)), (3, .inl x3), (4, .inl x4)]) (st' := [.inl 0]) (m' := m) [((20, .iconst 0, 1, 0, 0, 0, 0), (0, 0, 0))] (by decide +kernel) rfl ?_
      exact hx_reti (by decide +kernel) (h1 c1 c2)
    · have c2 : 0 ≤ x3 := by have h : ¬ (x3 < 0) := c2; omega
      refine hx_blk (npc := 17) (L' := [(0, .inr (.inl 61)), (1, .inr (.inl 31)), (2, .inr (.inl 44)), (3, .inl x3), (4, .inl x4)]) (st' := [.inl 6, .inl x3]) (m' := m) [((14, .iload_n 3, 1, 0, 0, 0, 0), (0, 0, 0)), ((15, .bipush 6, 2, 0, 0, 0, 0), (0, 0, 0))] (by decide +kernel) rfl ?_
      refine hx_cmp .lt 22 (by decide +kernel) (fun c3 => ?_) (fun c3 => ?_)
      · have c3 : x3 < 6 := c3
        refine hx_blk (npc := 25) (L' := [(0, .inr (.inl 61)), (1, .inr (.inl 31)), (2, .inr (.inl 44)), (3, .inl x3), (4, .inl x4), (5, .inl 0)]) (st' := []) (m' := m) [((22, .iconst 0, 1, 0, 0, 0, 0), (0, 0, 0)), ((23, .istore 5, 2, 0, 0, 0, 0), (0, 0, 0))] (by decide +kernel) rfl ?_
        exact hx_pick [0, 1, 2, 3, 4, 5] (h2 c1 c2 c3)
      · have c3 : 6 ≤ x3 := by have h : ¬ (x3 < 6) := c3; omega
        refine hx_blk (npc := 21) (L' := [(0, .inr (.inl 61)), (1, .inr (.inl 31)), (2, .inr (.inl 44)), (3, .inl x3), (4, .inl x4)]) (st' := [.inl 0]) (m' := m) [((20, .iconst 0, 1, 0, 0, 0, 0), (0, 0, 0))] (by decide +kernel) rfl ?_
        exact hx_reti (by decide +kernel) (h3 c1 c2 c3)
  · have c1 : (m 61 5) ≤ x3 := by have h : ¬ (x3 < (m 61 5)) := c1; omega
    refine hx_blk (npc := 9) (L' := [(0, .inr (.inl 61)), (1, .inr (.inl 31)), (2, .inr (.inl 44)), (3, .inl x3), (4, .inl x4)]) (st' := [.inl 1]) (m' := m) [((8, .iconst 1, 1, 0, 0, 0, 0), (0, 0, 0))] (by decide +kernel) rfl ?_
    exact hx_reti (by decide +kernel) (h4 c1)

/-- findOrder from 25 on -/
theorem hr140_25 {xs : List Int32} {n : Nat} {Q : hQ} {m : gx_M} {x3 x4 x5 : Int}
    (h1 : ((m 61 5) ≤ x5) → Q (some (.inl 0)) m)
    (h2 : (x5 < (m 61 5)) → (16 ≤ x5) → Q (some (.inl 0)) m)
    (h3 : (x5 < (m 61 5)) → (x5 < 16) → ((gx_and (gx_shr x4 x5) 1) ≠ 0) → hxn xs n yp_m140 25 [(0, .inr (.inl 61)), (1, .inr (.inl 31)), (2, .inr (.inl 44)), (3, .inl x3), (4, .inl x4), (5, .inl (gx_w (x5 + 1)))] [] m Q)
    (h4 : (x5 < (m 61 5)) → (x5 < 16) → ((gx_and (gx_shr x4 x5) 1) = 0) → hxn xs n yp_m54 0 [(0, .inr (.inl 61)), (1, .inr (.inl 31)), (2, .inr (.inl 44)), (3, .inl x5)] [] m (fun r m' => hxn xs n yp_m140 59 [(0, .inr (.inl 61)), (1, .inr (.inl 31)), (2, .inr (.inl 44)), (3, .inl x3), (4, .inl x4), (5, .inl x5)] (hrs r ++ []) m' Q)) : hxn xs (n + 1) yp_m140 25 [(0, .inr (.inl 61)), (1, .inr (.inl 31)), (2, .inr (.inl 44)), (3, .inl x3), (4, .inl x4), (5, .inl x5)] [] m Q := by
  refine hx_blks (npc := 31) (L' := [(0, .inr (.inl 61)), (1, .inr (.inl 31)), (2, .inr (.inl 44)), (3, .inl x3), (4, .inl x4), (5, .inl x5)]) (st' := [.inl (m 61 5), .inl x5]) (m' := m) ((25, .iload 5, 2, 0, 0, 0, 0), (0, 0, 0)) [((27, .aload_n 0, 1, 0, 0, 0, 0), (0, 0, 0)), ((28, .getfield 33, 3, 5, 5, 2002, 0), (0, 61, 0))] (by decide +kernel) rfl ?_
  refine hx_cmp .ge 129 (by decide +kernel) (fun c1 => ?_) (fun c1 => ?_)
  · have c1 : (m 61 5) ≤ x5 := c1
    refine hx_blk (npc := 130) (L' := [(0, .inr (.inl 61)), (1, .inr (.inl 31)), (2, .inr (.inl 44)), (3, .inl x3), (4, .inl x4), (5, .inl x5)]) (st' := [.inl 0]) (m' := m) [((129, .iconst 0, 1, 0, 0, 0, 0), (0, 0, 0))] (by decide +kernel) rfl ?_
    exact hx_reti (by decide +kernel) (h1 c1)
  · have c1 : x5 < (m 61 5) := by have h : ¬ ((m 61 5) ≤ x5) := c1; omega
    refine hx_blk (npc := 38) (L' := [(0, .inr (.inl 61)), (1, .inr (.inl 31)), (2, .inr (.inl 44)), (3, .inl x3), (4, .inl x4), (5, .inl x5)]) (st' := [.inl 16, .inl x5]) (m' := m) [((34, .iload 5, 2, 0, 0, 0, 0), (0, 0, 0)), ((36, .bipush 16, 2, 0, 0, 0, 0), (0, 0, 0))] (by decide +kernel) rfl ?_
    refine hx_cmp .ge 129 (by decide +kernel) (fun c2 => ?_) (fun c2 => ?_)
    · have c2 : 16 ≤ x5 := c2
      refine hx_blk (npc := 130) (L' := [(0, .inr (.inl 61)), (1, .inr (.inl 31)), (2, .inr (.inl 44)), (3, .inl x3), (4, .inl x4), (5, .inl x5)]) (st' := [.inl 0]) (m' := m) [((129, .iconst 0, 1, 0, 0, 0, 0), (0, 0, 0))] (by decide +kernel) rfl ?_
      exact hx_reti (by decide +kernel) (h2 c1 c2)
    · have c2 : x5 < 16 := by have h : ¬ (16 ≤ x5) := c2; omega
      have f1 := gx_and_bd (gx_shr x4 x5) 1 (by decide)
      refine hx_blk (npc := 48) (L' := [(0, .inr (.inl 61)), (1, .inr (.inl 31)), (2, .inr (.inl 44)), (3, .inl x3), (4, .inl x4), (5, .inl x5)]) (st' := [.inl (gx_and (gx_shr x4 x5) 1)]) (m' := m) [((41, .iload 4, 2, 0, 0, 0, 0), (0, 0, 0)), ((43, .iload 5, 2, 0, 0, 0, 0), (0, 0, 0)), ((45, .ishr, 1, 0, 0, 0, 0), (0, 0, 0)), ((46, .iconst 1, 1, 0, 0, 0, 0), (0, 0, 0)), ((47, .iand, 1, 0, 0, 0, 0), (0, 0, 0))] (by decide +kernel) rfl ?_
      refine hx_if .ne 123 (by decide +kernel) (fun c3 => ?_) (fun c3 => ?_)
      · have c3 : (gx_and (gx_shr x4 x5) 1) ≠ 0 := c3
        refine hx_blk (npc := 25) (L' := [(0, .inr (.inl 61)), (1, .inr (.inl 31)), (2, .inr (.inl 44)), (3, .inl x3), (4, .inl x4), (5, .inl (gx_w (x5 + 1)))]) (st' := []) (m' := m) [((123, .iinc 5 1, 3, 0, 0, 0, 0), (0, 0, 0)), ((126, .goto (-101), 3, 0, 0, 0, 0), (0, 0, 0))] (by decide +kernel) rfl ?_
        exact hx_pick [0, 1, 2, 3, 4, 5] (h3 c1 c2 c3)
      · have c3 : (gx_and (gx_shr x4 x5) 1) = 0 := by have h : ¬ ((gx_and (gx_shr x4 x5) 1) ≠ 0) := c3; omega
        refine hx_blk (npc := 56) (L' := [(0, .inr (.inl 61)), (1, .inr (.inl 31)), (2, .inr (.inl 44)), (3, .inl x3), (4, .inl x4), (5, .inl x5)]) (st' := [.inl x5, .inr (.inl 44), .inr (.inl 31), .inr (.inl 61)]) (m' := m) [((51, .aload_n 0, 1, 0, 0, 0, 0), (0, 0, 0)), ((52, .aload_n 1, 1, 0, 0, 0, 0), (0, 0, 0)), ((53, .aload_n 2, 1, 0, 0, 0, 0), (0, 0, 0)), ((54, .iload 5, 2, 0, 0, 0, 0), (0, 0, 0))] (by decide +kernel) rfl ?_
        exact hx_call (E := (56, .invokevirtual 105, 3, 54, 0, 3113, 0)) (M' := yp_m54) [.inr (.inl 61), .inr (.inl 31), .inr (.inl 44), .inl x5] [] rfl (by decide +kernel) rfl ⟨rfl, rfl⟩ rfl rfl (hx_mono (h4 c1 c2 c3) (fun r m' h' => hx_pick [0, 1, 2, 3, 4, 5] h'))

/-- findOrder from 59 on -/
theorem hr140_59 {xs : List Int32} {n : Nat} {Q : hQ} {m : gx_M} {x3 x4 x5 s0 : Int}
    (h1 : (s0 ≠ 0) → hxn xs n yp_m141 0 [(0, .inr (.inl 61)), (1, .inr (.inl 31)), (2, .inl x5), (3, .inl (gx_w (x3 * 7)))] [] m (fun r m' => hxn xs n yp_m140 76 [(0, .inr (.inl 61)), (1, .inr (.inl 31)), (2, .inr (.inl 44)), (3, .inl x3), (4, .inl x4), (5, .inl x5)] (hrs r ++ []) m' Q))
    (h2 : (s0 = 0) → hxn xs n yp_m140 25 [(0, .inr (.inl 61)), (1, .inr (.inl 31)), (2, .inr (.inl 44)), (3, .inl x3), (4, .inl x4), (5, .inl (gx_w (x5 + 1)))] [] m Q) : hxn xs (n + 1) yp_m140 59 [(0, .inr (.inl 61)), (1, .inr (.inl 31)), (2, .inr (.inl 44)), (3, .inl x3), (4, .inl x4), (5, .inl x5)] [.inl s0] m Q := by
  refine hx_ifs .ne 65 (by decide +kernel) (fun c1 => ?_) (fun c1 => ?_)
  · have c1 : s0 ≠ 0 := c1
    refine hx_blk (npc := 73) (L' := [(0, .inr (.inl 61)), (1, .inr (.inl 31)), (2, .inr (.inl 44)), (3, .inl x3), (4, .inl x4), (5, .inl x5)]) (st' := [.inl (gx_w (x3 * 7)), .inl x5, .inr (.inl 31), .inr (.inl 61)]) (m' := m) [((65, .aload_n 0, 1, 0, 0, 0, 0), (0, 0, 0)), ((66, .aload_n 1, 1, 0, 0, 0, 0), (0, 0, 0)), ((67, .iload 5, 2, 0, 0, 0, 0), (0, 0, 0)), ((69, .iload_n 3, 1, 0, 0, 0, 0), (0, 0, 0)), ((70, .bipush 7, 2, 0, 0, 0, 0), (0, 0, 0)), ((72, .imul, 1, 0, 0, 0, 0), (0, 0, 0))] (by decide +kernel) rfl ?_
    exact hx_call (E := (73, .invokevirtual 128, 3, 141, 0, 5026, 0)) (M' := yp_m141) [.inr (.inl 61), .inr (.inl 31), .inl x5, .inl (gx_w (x3 * 7))] [] rfl (by decide +kernel) rfl ⟨rfl, rfl⟩ rfl rfl (hx_mono (h1 c1) (fun r m' h' => hx_pick [0, 1, 2, 3, 4, 5] h'))
  · have c1 : s0 = 0 := by have h : ¬ (s0 ≠ 0) := c1; omega
    refine hx_blk (npc := 25) (L' := [(0, .inr (.inl 61)), (1, .inr (.inl 31)), (2, .inr (.inl 44)), (3, .inl x3), (4, .inl x4), (5, .inl (gx_w (x5 + 1)))]) (st' := []) (m' := m) [((62, .goto 61, 3, 0, 0, 0, 0), (0, 0, 0)), ((123, .iinc 5 1, 3, 0, 0, 0, 0), (0, 0, 0)), ((126, .goto (-101), 3, 0, 0, 0, 0), (0, 0, 0))] (by decide +kernel) rfl ?_
    exact hx_pick [0, 1, 2, 3, 4, 5] (h2 c1)

/-- findOrder from 76 on -/
theorem hr140_76 {xs : List Int32} {n : Nat} {Q : hQ} {m : gx_M} {x3 x4 x5 : Int}
    (h1 : hxn xs n yp_m67 0 [(0, .inr (.inl 61)), (1, .inr (.inl 31)), (2, .inl x5)] [] m (fun r m' => hxn xs n yp_m140 83 [(0, .inr (.inl 61)), (1, .inr (.inl 31)), (2, .inr (.inl 44)), (3, .inl x3), (4, .inl x4), (5, .inl x5)] (hrs r ++ []) m' Q)) : hxn xs (n + 1) yp_m140 76 [(0, .inr (.inl 61)), (1, .inr (.inl 31)), (2, .inr (.inl 44)), (3, .inl x3), (4, .inl x4), (5, .inl x5)] [] m Q := by
  refine hx_blks (npc := 80) (L' := [(0, .inr (.inl 61)), (1, .inr (.inl 31)), (2, .inr (.inl 44)), (3, .inl x3), (4, .inl x4), (5, .inl x5)]) (st' := [.inl x5, .inr (.inl 31), .inr (.inl 61)]) (m' := m) ((76, .aload_n 0, 1, 0, 0, 0, 0), (0, 0, 0)) [((77, .aload_n 1, 1, 0, 0, 0, 0), (0, 0, 0)), ((78, .iload 5, 2, 0, 0, 0, 0), (0, 0, 0))] (by decide +kernel) rfl ?_
  exact hx_call (E := (80, .invokevirtual 109, 3, 67, 0, 3171, 0)) (M' := yp_m67) [.inr (.inl 61), .inr (.inl 31), .inl x5] [] rfl (by decide +kernel) rfl ⟨rfl, rfl⟩ rfl rfl (hx_mono h1 (fun r m' h' => hx_pick [0, 1, 2, 3, 4, 5] h'))

/-- findOrder from 83 on -/
theorem hr140_83 {xs : List Int32} {n : Nat} {Q : hQ} {m : gx_M} {x3 x4 x5 : Int}
    (h1 : hxn xs n yp_m140 0 [(0, .inr (.inl 61)), (1, .inr (.inl 31)), (2, .inr (.inl 44)), (3, .inl (gx_w (x3 + 1))), (4, .inl (gx_or x4 (gx_shl 1 x5)))] [] (gx_u m 67 (x3).toNat x5) (fun r m' => hxn xs n yp_m140 107 [(0, .inr (.inl 61)), (1, .inr (.inl 31)), (2, .inr (.inl 44)), (3, .inl x3), (4, .inl x4), (5, .inl x5)] (hrs r ++ []) m' Q)) : hxn xs (n + 1) yp_m140 83 [(0, .inr (.inl 61)), (1, .inr (.inl 31)), (2, .inr (.inl 44)), (3, .inl x3), (4, .inl x4), (5, .inl x5)] [] m Q := by
  refine hx_blks (npc := 104) (L' := [(0, .inr (.inl 61)), (1, .inr (.inl 31)), (2, .inr (.inl 44)), (3, .inl x3), (4, .inl x4), (5, .inl x5)]) (st' := [.inl (gx_or x4 (gx_shl 1 x5)), .inl (gx_w (x3 + 1)), .inr (.inl 44), .inr (.inl 31), .inr (.inl 61)]) (m' := (gx_u m 67 (x3).toNat x5)) ((83, .aload_n 0, 1, 0, 0, 0, 0), (0, 0, 0)) [((84, .getfield 27, 3, 5, 6, 2004, 0), (1, 61, 67)), ((87, .iload_n 3, 1, 0, 0, 0, 0), (0, 0, 0)), ((88, .iload 5, 2, 0, 0, 0, 0), (0, 0, 0)), ((90, .iastore, 1, 0, 0, 0, 0), (0, 67, 0)), ((91, .aload_n 0, 1, 0, 0, 0, 0), (0, 0, 0)), ((92, .aload_n 1, 1, 0, 0, 0, 0), (0, 0, 0)), ((93, .aload_n 2, 1, 0, 0, 0, 0), (0, 0, 0)), ((94, .iload_n 3, 1, 0, 0, 0, 0), (0, 0, 0)), ((95, .iconst 1, 1, 0, 0, 0, 0), (0, 0, 0)), ((96, .iadd, 1, 0, 0, 0, 0), (0, 0, 0)), ((97, .iload 4, 2, 0, 0, 0, 0), (0, 0, 0)), ((99, .iconst 1, 1, 0, 0, 0, 0), (0, 0, 0)), ((100, .iload 5, 2, 0, 0, 0, 0), (0, 0, 0)), ((102, .ishl, 1, 0, 0, 0, 0), (0, 0, 0)), ((103, .ior, 1, 0, 0, 0, 0), (0, 0, 0))] (by decide +kernel) rfl ?_
  exact hx_call (E := (104, .invokevirtual 132, 3, 140, 0, 5031, 0)) (M' := yp_m140) [.inr (.inl 61), .inr (.inl 31), .inr (.inl 44), .inl (gx_w (x3 + 1)), .inl (gx_or x4 (gx_shl 1 x5))] [] rfl (by decide +kernel) rfl ⟨rfl, rfl⟩ rfl rfl (hx_mono h1 (fun r m' h' => hx_pick [0, 1, 2, 3, 4, 5] h'))

/-- findOrder from 107 on -/
theorem hr140_107 {xs : List Int32} {n : Nat} {Q : hQ} {m : gx_M} {x3 x4 x5 s0 : Int}
    (h1 : (s0 = 0) → hxn xs n yp_m142 0 [(0, .inr (.inl 61)), (1, .inr (.inl 31)), (2, .inl x5), (3, .inl (gx_w (x3 * 7)))] [] m (fun r m' => hxn xs n yp_m140 123 [(0, .inr (.inl 61)), (1, .inr (.inl 31)), (2, .inr (.inl 44)), (3, .inl x3), (4, .inl x4), (5, .inl x5)] (hrs r ++ []) m' Q))
    (h2 : (s0 ≠ 0) → Q (some (.inl 1)) m) : hxn xs (n + 1) yp_m140 107 [(0, .inr (.inl 61)), (1, .inr (.inl 31)), (2, .inr (.inl 44)), (3, .inl x3), (4, .inl x4), (5, .inl x5)] [.inl s0] m Q := by
  refine hx_ifs .eq 112 (by decide +kernel) (fun c1 => ?_) (fun c1 => ?_)
  · have c1 : s0 = 0 := c1
    refine hx_blk (npc := 120) (L' := [(0, .inr (.inl 61)), (1, .inr (.inl 31)), (2, .inr (.inl 44)), (3, .inl x3), (4, .inl x4), (5, .inl x5)]) (st' := [.inl (gx_w (x3 * 7)), .inl x5, .inr (.inl 31), .inr (.inl 61)]) (m' := m) [((112, .aload_n 0, 1, 0, 0, 0, 0), (0, 0, 0)), ((113, .aload_n 1, 1, 0, 0, 0, 0), (0, 0, 0)), ((114, .iload 5, 2, 0, 0, 0, 0), (0, 0, 0)), ((116, .iload_n 3, 1, 0, 0, 0, 0), (0, 0, 0)), ((117, .bipush 7, 2, 0, 0, 0, 0), (0, 0, 0)), ((119, .imul, 1, 0, 0, 0, 0), (0, 0, 0))] (by decide +kernel) rfl ?_
    exact hx_call (E := (120, .invokevirtual 136, 3, 142, 0, 5032, 0)) (M' := yp_m142) [.inr (.inl 61), .inr (.inl 31), .inl x5, .inl (gx_w (x3 * 7))] [] rfl (by decide +kernel) rfl ⟨rfl, rfl⟩ rfl rfl (hx_mono (h1 c1) (fun r m' h' => hx_pick [0, 1, 2, 3, 4, 5] h'))
  · have c1 : s0 ≠ 0 := c1
    refine hx_blk (npc := 111) (L' := [(0, .inr (.inl 61)), (1, .inr (.inl 31)), (2, .inr (.inl 44)), (3, .inl x3), (4, .inl x4), (5, .inl x5)]) (st' := [.inl 1]) (m' := m) [((110, .iconst 1, 1, 0, 0, 0, 0), (0, 0, 0))] (by decide +kernel) rfl ?_
    exact hx_reti (by decide +kernel) (h2 c1)

/-- findOrder from 123 on -/
theorem hr140_123 {xs : List Int32} {n : Nat} {Q : hQ} {m : gx_M} {x3 x4 x5 : Int}
    (h1 : hxn xs n yp_m140 25 [(0, .inr (.inl 61)), (1, .inr (.inl 31)), (2, .inr (.inl 44)), (3, .inl x3), (4, .inl x4), (5, .inl (gx_w (x5 + 1)))] [] m Q) : hxn xs (n + 1) yp_m140 123 [(0, .inr (.inl 61)), (1, .inr (.inl 31)), (2, .inr (.inl 44)), (3, .inl x3), (4, .inl x4), (5, .inl x5)] [] m Q := by
  refine hx_blks (npc := 25) (L' := [(0, .inr (.inl 61)), (1, .inr (.inl 31)), (2, .inr (.inl 44)), (3, .inl x3), (4, .inl x4), (5, .inl (gx_w (x5 + 1)))]) (st' := []) (m' := m) ((123, .iinc 5 1, 3, 0, 0, 0, 0), (0, 0, 0)) [((126, .goto (-101), 3, 0, 0, 0, 0), (0, 0, 0))] (by decide +kernel) rfl ?_
  exact hx_pick [0, 1, 2, 3, 4, 5] h1

/-- save from 0 on -/
theorem hr141_0 {xs : List Int32} {n : Nat} {Q : hQ} {m : gx_M} {x2 x3 : Int} (r_x2 : 0 ≤ x2 ∧ x2 ≤ 15) (r_x3 : 0 ≤ x3 ∧ x3 ≤ 1000)
    (h1 : (0 ≤ x2) → (x2 < 16) → (0 ≤ x3) → ((x3 + 7) ≤ 42) → (cYear 31 m (m 62 (x2).toNat)) → hxn xs n yp_m62 0 [(0, .inr (.inl 31)), (1, .inl (m 63 (x2).toNat))] [] m (fun r m' => hxn xs n yp_m141 57 [(0, .inr (.inl 61)), (1, .inr (.inl 31)), (2, .inl x2), (3, .inl x3), (4, .inl (m 62 (x2).toNat))] (hrs r ++ [.inl x3, .inr (.inl 68)]) m' Q))
    (h2 : (0 ≤ x2) → (x2 < 16) → (0 ≤ x3) → ((x3 + 7) ≤ 42) → (¬ (cYear 31 m (m 62 (x2).toNat))) → Q none m)
    (h3 : (0 ≤ x2) → (x2 < 16) → (0 ≤ x3) → (42 < (x3 + 7)) → Q none m) : hxn xs (n + 1) yp_m141 0 [(0, .inr (.inl 61)), (1, .inr (.inl 31)), (2, .inl x2), (3, .inl x3)] [] m Q := by
  refine hx_blks (npc := 1) (L' := [(0, .inr (.inl 61)), (1, .inr (.inl 31)), (2, .inl x2), (3, .inl x3)]) (st' := [.inl x2]) (m' := m) ((0, .iload_n 2, 1, 0, 0, 0, 0), (0, 0, 0)) [] (by decide +kernel) rfl ?_
  refine hx_if .lt 23 (by decide +kernel) (fun c1 => ?_) (fun c1 => ?_)
  · have c1 : x2 < 0 := c1
    exfalso; omega
  · have c1 : 0 ≤ x2 := by have h : ¬ (x2 < 0) := c1; omega
    refine hx_blk (npc := 7) (L' := [(0, .inr (.inl 61)), (1, .inr (.inl 31)), (2, .inl x2), (3, .inl x3)]) (st' := [.inl 16, .inl x2]) (m' := m) [((4, .iload_n 2, 1, 0, 0, 0, 0), (0, 0, 0)), ((5, .bipush 16, 2, 0, 0, 0, 0), (0, 0, 0))] (by decide +kernel) rfl ?_
    refine hx_cmp .ge 23 (by decide +kernel) (fun c2 => ?_) (fun c2 => ?_)
    · have c2 : 16 ≤ x2 := c2
      exfalso; omega
    · have c2 : x2 < 16 := by have h : ¬ (16 ≤ x2) := c2; omega
      refine hx_blk (npc := 11) (L' := [(0, .inr (.inl 61)), (1, .inr (.inl 31)), (2, .inl x2), (3, .inl x3)]) (st' := [.inl x3]) (m' := m) [((10, .iload_n 3, 1, 0, 0, 0, 0), (0, 0, 0))] (by decide +kernel) rfl ?_
      refine hx_if .lt 23 (by decide +kernel) (fun c3 => ?_) (fun c3 => ?_)
      · have c3 : x3 < 0 := c3
        exfalso; omega
      · have c3 : 0 ≤ x3 := by have h : ¬ (x3 < 0) := c3; omega
        have e1 : gx_w (x3 + 7) = x3 + 7 := gx_w_id (by omega) (by omega)
        refine hx_blk (npc := 20) (L' := [(0, .inr (.inl 61)), (1, .inr (.inl 31)), (2, .inl x2), (3, .inl x3)]) (st' := [.inl 42, .inl (gx_w (x3 + 7))]) (m' := m) [((14, .iload_n 3, 1, 0, 0, 0, 0), (0, 0, 0)), ((15, .bipush 7, 2, 0, 0, 0, 0), (0, 0, 0)), ((17, .iadd, 1, 0, 0, 0, 0), (0, 0, 0)), ((18, .bipush 42, 2, 0, 0, 0, 0), (0, 0, 0))] (by decide +kernel) rfl ?_
        rw [e1]
        refine hx_cmp .le 24 (by decide +kernel) (fun c4 => ?_) (fun c4 => ?_)
        · have c4 : (x3 + 7) ≤ 42 := c4
          refine hx_blk (npc := 35) (L' := [(0, .inr (.inl 61)), (1, .inr (.inl 31)), (2, .inl x2), (3, .inl x3), (4, .inl (m 62 (x2).toNat))]) (st' := [.inl (m 62 (x2).toNat), .inr (.inl 31)]) (m' := m) [((24, .aload_n 0, 1, 0, 0, 0, 0), (0, 0, 0)), ((25, .getfield 9, 3, 5, 0, 1237, 0), (1, 61, 62)), ((28, .iload_n 2, 1, 0, 0, 0, 0), (0, 0, 0)), ((29, .iaload, 1, 0, 0, 0, 0), (0, 62, 0)), ((30, .istore 4, 2, 0, 0, 0, 0), (0, 0, 0)), ((32, .aload_n 1, 1, 0, 0, 0, 0), (0, 0, 0)), ((33, .iload 4, 2, 0, 0, 0, 0), (0, 0, 0))] (by decide +kernel) rfl ?_
          refine hx_call (E := (35, .invokevirtual 79, 3, 17, 0, 3117, 0)) (M' := yp_m17) [.inr (.inl 31), .inl (m 62 (x2).toNat)] [] rfl (by decide +kernel) rfl ⟨rfl, rfl⟩ rfl rfl (hs17_31 (fun c5 => ?_) (fun c5 => ?_))
          · have c5 : cYear 31 m (m 62 (x2).toNat) := c5
            show hxn xs n yp_m141 38 [(0, .inr (.inl 61)), (1, .inr (.inl 31)), (2, .inl x2), (3, .inl x3), (4, .inl (m 62 (x2).toNat))] [.inl 1] m Q
            refine hx_if .ne 42 (by decide +kernel) (fun c6 => ?_) (fun c6 => ?_)
            · have c6 : (1 : Int) ≠ 0 := c6
              refine hx_blk (npc := 54) (L' := [(0, .inr (.inl 61)), (1, .inr (.inl 31)), (2, .inl x2), (3, .inl x3), (4, .inl (m 62 (x2).toNat))]) (st' := [.inl (m 63 (x2).toNat), .inr (.inl 31), .inl x3, .inr (.inl 68)]) (m' := m) [((42, .aload_n 0, 1, 0, 0, 0, 0), (0, 0, 0)), ((43, .getfield 30, 3, 5, 7, 2006, 0), (1, 61, 68)), ((46, .iload_n 3, 1, 0, 0, 0, 0), (0, 0, 0)), ((47, .aload_n 1, 1, 0, 0, 0, 0), (0, 0, 0)), ((48, .aload_n 0, 1, 0, 0, 0, 0), (0, 0, 0)), ((49, .getfield 15, 3, 5, 1, 1238, 0), (1, 61, 63)), ((52, .iload_n 2, 1, 0, 0, 0, 0), (0, 0, 0)), ((53, .iaload, 1, 0, 0, 0, 0), (0, 63, 0))] (by decide +kernel) rfl ?_
              exact hx_call (E := (54, .invokevirtual 139, 3, 62, 0, 5030, 0)) (M' := yp_m62) [.inr (.inl 31), .inl (m 63 (x2).toNat)] [.inl x3, .inr (.inl 68)] rfl (by decide +kernel) rfl ⟨rfl, rfl⟩ rfl rfl (hx_mono (h1 c1 c2 c3 c4 c5) (fun r m' h' => hx_pick [0, 1, 2, 3, 4] h'))
            · have c6 : (1 : Int) = 0 := by have h : ¬ ((1 : Int) ≠ 0) := c6; omega
              exfalso; omega
          · have c5 : ¬ (cYear 31 m (m 62 (x2).toNat)) := c5
            show hxn xs n yp_m141 38 [(0, .inr (.inl 61)), (1, .inr (.inl 31)), (2, .inl x2), (3, .inl x3), (4, .inl (m 62 (x2).toNat))] [.inl 0] m Q
            refine hx_if .ne 42 (by decide +kernel) (fun c6 => ?_) (fun c6 => ?_)
            · have c6 : (0 : Int) ≠ 0 := c6
              exfalso; omega
            · have c6 : (0 : Int) = 0 := by have h : ¬ ((0 : Int) ≠ 0) := c6; omega
              exact hx_ret0 (by decide +kernel) (h2 c1 c2 c3 c4 c5)
        · have c4 : 42 < (x3 + 7) := by have h : ¬ ((x3 + 7) ≤ 42) := c4; omega
          exact hx_ret0 (by decide +kernel) (h3 c1 c2 c3 c4)

/-- save from 57 on -/
theorem hr141_57 {xs : List Int32} {n : Nat} {Q : hQ} {m : gx_M} {x2 x3 x4 s1 s2 : Int} (r_x2 : 0 ≤ x2 ∧ x2 ≤ 15) (r_x3 : 0 ≤ x3 ∧ x3 ≤ 1000)
    (h1 : hxn xs n yp_m62 0 [(0, .inr (.inl 31)), (1, .inl (m 65 (x2).toNat))] [] (gx_u m 68 (s1).toNat s2) (fun r m' => hxn xs n yp_m141 75 [(0, .inr (.inl 61)), (1, .inr (.inl 31)), (3, .inl x3), (4, .inl x4)] (hrs r ++ [.inl (x3 + 1), .inr (.inl 68)]) m' Q)) : hxn xs (n + 1) yp_m141 57 [(0, .inr (.inl 61)), (1, .inr (.inl 31)), (2, .inl x2), (3, .inl x3), (4, .inl x4)] [.inl s2, .inl s1, .inr (.inl 68)] m Q := by
  have e1 : gx_w (x3 + 1) = x3 + 1 := gx_w_id (by omega) (by omega)
  refine hx_blks (npc := 72) (L' := [(0, .inr (.inl 61)), (1, .inr (.inl 31)), (2, .inl x2), (3, .inl x3), (4, .inl x4)]) (st' := [.inl (m 65 (x2).toNat), .inr (.inl 31), .inl (gx_w (x3 + 1)), .inr (.inl 68)]) (m' := (gx_u m 68 (s1).toNat s2)) ((57, .iastore, 1, 0, 0, 0, 0), (0, 68, 0)) [((58, .aload_n 0, 1, 0, 0, 0, 0), (0, 0, 0)), ((59, .getfield 30, 3, 5, 7, 2006, 0), (1, 61, 68)), ((62, .iload_n 3, 1, 0, 0, 0, 0), (0, 0, 0)), ((63, .iconst 1, 1, 0, 0, 0, 0), (0, 0, 0)), ((64, .iadd, 1, 0, 0, 0, 0), (0, 0, 0)), ((65, .aload_n 1, 1, 0, 0, 0, 0), (0, 0, 0)), ((66, .aload_n 0, 1, 0, 0, 0, 0), (0, 0, 0)), ((67, .getfield 21, 3, 5, 3, 2000, 0), (1, 61, 65)), ((70, .iload_n 2, 1, 0, 0, 0, 0), (0, 0, 0)), ((71, .iaload, 1, 0, 0, 0, 0), (0, 65, 0))] (by decide +kernel) rfl ?_
  rw [e1]
  exact hx_call (E := (72, .invokevirtual 139, 3, 62, 0, 5030, 0)) (M' := yp_m62) [.inr (.inl 31), .inl (m 65 (x2).toNat)] [.inl (x3 + 1), .inr (.inl 68)] rfl (by decide +kernel) rfl ⟨rfl, rfl⟩ rfl rfl (hx_mono h1 (fun r m' h' => hx_pick [0, 1, 3, 4] h'))

/-- save from 75 on -/
theorem hr141_75 {xs : List Int32} {n : Nat} {Q : hQ} {m : gx_M} {x3 x4 s1 s2 : Int} (r_x3 : 0 ≤ x3 ∧ x3 ≤ 1000)
    (h1 : Q none (gx_u (gx_u (gx_u (gx_u (gx_u (gx_u m 68 (s1).toNat s2) 68 (x3 + 2).toNat (m 38 (x4).toNat)) 68 (x3 + 3).toNat (m 39 (x4).toNat)) 68 (x3 + 4).toNat (m 40 (x4).toNat)) 68 (x3 + 5).toNat (m 41 (x4).toNat)) 68 (x3 + 6).toNat (m 42 (x4).toNat))) : hxn xs (n + 1) yp_m141 75 [(0, .inr (.inl 61)), (1, .inr (.inl 31)), (3, .inl x3), (4, .inl x4)] [.inl s2, .inl s1, .inr (.inl 68)] m Q := by
  have e1 : gx_w (x3 + 2) = x3 + 2 := gx_w_id (by omega) (by omega)
  have e2 : gx_w (x3 + 3) = x3 + 3 := gx_w_id (by omega) (by omega)
  have e3 : gx_w (x3 + 4) = x3 + 4 := gx_w_id (by omega) (by omega)
  have e4 : gx_w (x3 + 5) = x3 + 5 := gx_w_id (by omega) (by omega)
  have e5 : gx_w (x3 + 6) = x3 + 6 := gx_w_id (by omega) (by omega)
  refine hx_blks (npc := 152) (L' := [(0, .inr (.inl 61)), (1, .inr (.inl 31)), (3, .inl x3), (4, .inl x4)]) (st' := []) (m' := (gx_u (gx_u (gx_u (gx_u (gx_u (gx_u m 68 (s1).toNat s2) 68 (gx_w (x3 + 2)).toNat (m 38 (x4).toNat)) 68 (gx_w (x3 + 3)).toNat (m 39 (x4).toNat)) 68 (gx_w (x3 + 4)).toNat (m 40 (x4).toNat)) 68 (gx_w (x3 + 5)).toNat (m 41 (x4).toNat)) 68 (gx_w (x3 + 6)).toNat (m 42 (x4).toNat))) ((75, .iastore, 1, 0, 0, 0, 0), (0, 68, 0)) [((76, .aload_n 0, 1, 0, 0, 0, 0), (0, 0, 0)), ((77, .getfield 30, 3, 5, 7, 2006, 0), (1, 61, 68)), ((80, .iload_n 3, 1, 0, 0, 0, 0), (0, 0, 0)), ((81, .iconst 2, 1, 0, 0, 0, 0), (0, 0, 0)), ((82, .iadd, 1, 0, 0, 0, 0), (0, 0, 0)), ((83, .aload_n 1, 1, 0, 0, 0, 0), (0, 0, 0)), ((84, .getfield 87, 3, 2, 11, 1115, 0), (1, 31, 38)), ((87, .iload 4, 2, 0, 0, 0, 0), (0, 0, 0)), ((89, .iaload, 1, 0, 0, 0, 0), (0, 38, 0)), ((90, .iastore, 1, 0, 0, 0, 0), (0, 68, 0)), ((91, .aload_n 0, 1, 0, 0, 0, 0), (0, 0, 0)), ((92, .getfield 30, 3, 5, 7, 2006, 0), (1, 61, 68)), ((95, .iload_n 3, 1, 0, 0, 0, 0), (0, 0, 0)), ((96, .iconst 3, 1, 0, 0, 0, 0), (0, 0, 0)), ((97, .iadd, 1, 0, 0, 0, 0), (0, 0, 0)), ((98, .aload_n 1, 1, 0, 0, 0, 0), (0, 0, 0)), ((99, .getfield 90, 3, 2, 12, 1121, 0), (1, 31, 39)), ((102, .iload 4, 2, 0, 0, 0, 0), (0, 0, 0)), ((104, .iaload, 1, 0, 0, 0, 0), (0, 39, 0)), ((105, .iastore, 1, 0, 0, 0, 0), (0, 68, 0)), ((106, .aload_n 0, 1, 0, 0, 0, 0), (0, 0, 0)), ((107, .getfield 30, 3, 5, 7, 2006, 0), (1, 61, 68)), ((110, .iload_n 3, 1, 0, 0, 0, 0), (0, 0, 0)), ((111, .iconst 4, 1, 0, 0, 0, 0), (0, 0, 0)), ((112, .iadd, 1, 0, 0, 0, 0), (0, 0, 0)), ((113, .aload_n 1, 1, 0, 0, 0, 0), (0, 0, 0)), ((114, .getfield 142, 3, 2, 13, 1126, 0), (1, 31, 40)), ((117, .iload 4, 2, 0, 0, 0, 0), (0, 0, 0)), ((119, .iaload, 1, 0, 0, 0, 0), (0, 40, 0)), ((120, .iastore, 1, 0, 0, 0, 0), (0, 68, 0)), ((121, .aload_n 0, 1, 0, 0, 0, 0), (0, 0, 0)), ((122, .getfield 30, 3, 5, 7, 2006, 0), (1, 61, 68)), ((125, .iload_n 3, 1, 0, 0, 0, 0), (0, 0, 0)), ((126, .iconst 5, 1, 0, 0, 0, 0), (0, 0, 0)), ((127, .iadd, 1, 0, 0, 0, 0), (0, 0, 0)), ((128, .aload_n 1, 1, 0, 0, 0, 0), (0, 0, 0)), ((129, .getfield 96, 3, 2, 14, 1129, 0), (1, 31, 41)), ((132, .iload 4, 2, 0, 0, 0, 0), (0, 0, 0)), ((134, .iaload, 1, 0, 0, 0, 0), (0, 41, 0)), ((135, .iastore, 1, 0, 0, 0, 0), (0, 68, 0)), ((136, .aload_n 0, 1, 0, 0, 0, 0), (0, 0, 0)), ((137, .getfield 30, 3, 5, 7, 2006, 0), (1, 61, 68)), ((140, .iload_n 3, 1, 0, 0, 0, 0), (0, 0, 0)), ((141, .bipush 6, 2, 0, 0, 0, 0), (0, 0, 0)), ((143, .iadd, 1, 0, 0, 0, 0), (0, 0, 0)), ((144, .aload_n 1, 1, 0, 0, 0, 0), (0, 0, 0)), ((145, .getfield 145, 3, 2, 15, 1133, 0), (1, 31, 42)), ((148, .iload 4, 2, 0, 0, 0, 0), (0, 0, 0)), ((150, .iaload, 1, 0, 0, 0, 0), (0, 42, 0)), ((151, .iastore, 1, 0, 0, 0, 0), (0, 68, 0))] (by decide +kernel) rfl ?_
  rw [e1, e2, e3, e4, e5]
  exact hx_ret0 (by decide +kernel) h1

/-- restore from 0 on -/
theorem hr142_0 {xs : List Int32} {n : Nat} {Q : hQ} {m : gx_M} {x2 x3 : Int} (r_x2 : 0 ≤ x2 ∧ x2 ≤ 15) (r_x3 : 0 ≤ x3 ∧ x3 ≤ 1000)
    (h1 : (0 ≤ x2) → (x2 < 16) → (0 ≤ x3) → ((x3 + 7) ≤ 42) → (cYear 31 m (m 62 (x2).toNat)) → (cPers 31 m (m 63 (x2).toNat)) → (cPers 31 m (m 65 (x2).toNat)) → Q none (gx_u (gx_u (gx_u (gx_u (gx_u (gx_u (gx_u m 32 (m 63 (x2).toNat).toNat (m 68 (x3).toNat)) 32 (m 65 (x2).toNat).toNat (m 68 (x3 + 1).toNat)) 38 (m 62 (x2).toNat).toNat (m 68 (x3 + 2).toNat)) 39 (m 62 (x2).toNat).toNat (m 68 (x3 + 3).toNat)) 40 (m 62 (x2).toNat).toNat (m 68 (x3 + 4).toNat)) 41 (m 62 (x2).toNat).toNat (m 68 (x3 + 5).toNat)) 42 (m 62 (x2).toNat).toNat (m 68 (x3 + 6).toNat)))
    (h2 : (0 ≤ x2) → (x2 < 16) → (0 ≤ x3) → ((x3 + 7) ≤ 42) → (cYear 31 m (m 62 (x2).toNat)) → (cPers 31 m (m 63 (x2).toNat)) → (¬ (cPers 31 m (m 65 (x2).toNat))) → Q none m)
    (h3 : (0 ≤ x2) → (x2 < 16) → (0 ≤ x3) → ((x3 + 7) ≤ 42) → (cYear 31 m (m 62 (x2).toNat)) → (¬ (cPers 31 m (m 63 (x2).toNat))) → Q none m)
    (h4 : (0 ≤ x2) → (x2 < 16) → (0 ≤ x3) → ((x3 + 7) ≤ 42) → (¬ (cYear 31 m (m 62 (x2).toNat))) → Q none m)
    (h5 : (0 ≤ x2) → (x2 < 16) → (0 ≤ x3) → (42 < (x3 + 7)) → Q none m) : hxn xs (n + 1) yp_m142 0 [(0, .inr (.inl 61)), (1, .inr (.inl 31)), (2, .inl x2), (3, .inl x3)] [] m Q := by
  refine hx_blks (npc := 1) (L' := [(0, .inr (.inl 61)), (1, .inr (.inl 31)), (2, .inl x2), (3, .inl x3)]) (st' := [.inl x2]) (m' := m) ((0, .iload_n 2, 1, 0, 0, 0, 0), (0, 0, 0)) [] (by decide +kernel) rfl ?_
  refine hx_if .lt 23 (by decide +kernel) (fun c1 => ?_) (fun c1 => ?_)
  · have c1 : x2 < 0 := c1
    exfalso; omega
  · have c1 : 0 ≤ x2 := by have h : ¬ (x2 < 0) := c1; omega
    refine hx_blk (npc := 7) (L' := [(0, .inr (.inl 61)), (1, .inr (.inl 31)), (2, .inl x2), (3, .inl x3)]) (st' := [.inl 16, .inl x2]) (m' := m) [((4, .iload_n 2, 1, 0, 0, 0, 0), (0, 0, 0)), ((5, .bipush 16, 2, 0, 0, 0, 0), (0, 0, 0))] (by decide +kernel) rfl ?_
    refine hx_cmp .ge 23 (by decide +kernel) (fun c2 => ?_) (fun c2 => ?_)
    · have c2 : 16 ≤ x2 := c2
      exfalso; omega
    · have c2 : x2 < 16 := by have h : ¬ (16 ≤ x2) := c2; omega
      refine hx_blk (npc := 11) (L' := [(0, .inr (.inl 61)), (1, .inr (.inl 31)), (2, .inl x2), (3, .inl x3)]) (st' := [.inl x3]) (m' := m) [((10, .iload_n 3, 1, 0, 0, 0, 0), (0, 0, 0))] (by decide +kernel) rfl ?_
      refine hx_if .lt 23 (by decide +kernel) (fun c3 => ?_) (fun c3 => ?_)
      · have c3 : x3 < 0 := c3
        exfalso; omega
      · have c3 : 0 ≤ x3 := by have h : ¬ (x3 < 0) := c3; omega
        have e1 : gx_w (x3 + 7) = x3 + 7 := gx_w_id (by omega) (by omega)
        refine hx_blk (npc := 20) (L' := [(0, .inr (.inl 61)), (1, .inr (.inl 31)), (2, .inl x2), (3, .inl x3)]) (st' := [.inl 42, .inl (gx_w (x3 + 7))]) (m' := m) [((14, .iload_n 3, 1, 0, 0, 0, 0), (0, 0, 0)), ((15, .bipush 7, 2, 0, 0, 0, 0), (0, 0, 0)), ((17, .iadd, 1, 0, 0, 0, 0), (0, 0, 0)), ((18, .bipush 42, 2, 0, 0, 0, 0), (0, 0, 0))] (by decide +kernel) rfl ?_
        rw [e1]
        refine hx_cmp .le 24 (by decide +kernel) (fun c4 => ?_) (fun c4 => ?_)
        · have c4 : (x3 + 7) ≤ 42 := c4
          refine hx_blk (npc := 35) (L' := [(0, .inr (.inl 61)), (1, .inr (.inl 31)), (2, .inl x2), (3, .inl x3), (4, .inl (m 62 (x2).toNat))]) (st' := [.inl (m 62 (x2).toNat), .inr (.inl 31)]) (m' := m) [((24, .aload_n 0, 1, 0, 0, 0, 0), (0, 0, 0)), ((25, .getfield 9, 3, 5, 0, 1237, 0), (1, 61, 62)), ((28, .iload_n 2, 1, 0, 0, 0, 0), (0, 0, 0)), ((29, .iaload, 1, 0, 0, 0, 0), (0, 62, 0)), ((30, .istore 4, 2, 0, 0, 0, 0), (0, 0, 0)), ((32, .aload_n 1, 1, 0, 0, 0, 0), (0, 0, 0)), ((33, .iload 4, 2, 0, 0, 0, 0), (0, 0, 0))] (by decide +kernel) rfl ?_
          refine hx_call (E := (35, .invokevirtual 79, 3, 17, 0, 3117, 0)) (M' := yp_m17) [.inr (.inl 31), .inl (m 62 (x2).toNat)] [] rfl (by decide +kernel) rfl ⟨rfl, rfl⟩ rfl rfl (hs17_31 (fun c5 => ?_) (fun c5 => ?_))
          · have c5 : cYear 31 m (m 62 (x2).toNat) := c5
            show hxn xs n yp_m142 38 [(0, .inr (.inl 61)), (1, .inr (.inl 31)), (2, .inl x2), (3, .inl x3), (4, .inl (m 62 (x2).toNat))] [.inl 1] m Q
            refine hx_if .eq 67 (by decide +kernel) (fun c6 => ?_) (fun c6 => ?_)
            · have c6 : (1 : Int) = 0 := c6
              exfalso; omega
            · have c6 : (1 : Int) ≠ 0 := c6
              refine hx_blk (npc := 48) (L' := [(0, .inr (.inl 61)), (1, .inr (.inl 31)), (2, .inl x2), (3, .inl x3), (4, .inl (m 62 (x2).toNat))]) (st' := [.inl (m 63 (x2).toNat), .inr (.inl 31)]) (m' := m) [((41, .aload_n 1, 1, 0, 0, 0, 0), (0, 0, 0)), ((42, .aload_n 0, 1, 0, 0, 0, 0), (0, 0, 0)), ((43, .getfield 15, 3, 5, 1, 1238, 0), (1, 61, 63)), ((46, .iload_n 2, 1, 0, 0, 0, 0), (0, 0, 0)), ((47, .iaload, 1, 0, 0, 0, 0), (0, 63, 0))] (by decide +kernel) rfl ?_
              refine hx_call (E := (48, .invokevirtual 84, 3, 13, 0, 3118, 0)) (M' := yp_m13) [.inr (.inl 31), .inl (m 63 (x2).toNat)] [] rfl (by decide +kernel) rfl ⟨rfl, rfl⟩ rfl rfl (hs13_31 (fun c6 => ?_) (fun c6 => ?_))
              · have c6 : cPers 31 m (m 63 (x2).toNat) := c6
                show hxn xs n yp_m142 51 [(0, .inr (.inl 61)), (1, .inr (.inl 31)), (2, .inl x2), (3, .inl x3), (4, .inl (m 62 (x2).toNat))] [.inl 1] m Q
                refine hx_if .eq 67 (by decide +kernel) (fun c7 => ?_) (fun c7 => ?_)
                · have c7 : (1 : Int) = 0 := c7
                  exfalso; omega
                · have c7 : (1 : Int) ≠ 0 := c7
                  refine hx_blk (npc := 61) (L' := [(0, .inr (.inl 61)), (1, .inr (.inl 31)), (2, .inl x2), (3, .inl x3), (4, .inl (m 62 (x2).toNat))]) (st' := [.inl (m 65 (x2).toNat), .inr (.inl 31)]) (m' := m) [((54, .aload_n 1, 1, 0, 0, 0, 0), (0, 0, 0)), ((55, .aload_n 0, 1, 0, 0, 0, 0), (0, 0, 0)), ((56, .getfield 21, 3, 5, 3, 2000, 0), (1, 61, 65)), ((59, .iload_n 2, 1, 0, 0, 0, 0), (0, 0, 0)), ((60, .iaload, 1, 0, 0, 0, 0), (0, 65, 0))] (by decide +kernel) rfl ?_
                  refine hx_call (E := (61, .invokevirtual 84, 3, 13, 0, 3118, 0)) (M' := yp_m13) [.inr (.inl 31), .inl (m 65 (x2).toNat)] [] rfl (by decide +kernel) rfl ⟨rfl, rfl⟩ rfl rfl (hs13_31 (fun c7 => ?_) (fun c7 => ?_))
                  · have c7 : cPers 31 m (m 65 (x2).toNat) := c7
                    show hxn xs n yp_m142 64 [(0, .inr (.inl 61)), (1, .inr (.inl 31)), (2, .inl x2), (3, .inl x3), (4, .inl (m 62 (x2).toNat))] [.inl 1] m Q
                    refine hx_if .ne 68 (by decide +kernel) (fun c8 => ?_) (fun c8 => ?_)
                    · have c8 : (1 : Int) ≠ 0 := c8
                      have e2 : gx_w (x3 + 1) = x3 + 1 := gx_w_id (by omega) (by omega)
                      have e3 : gx_w (x3 + 2) = x3 + 2 := gx_w_id (by omega) (by omega)
                      have e4 : gx_w (x3 + 3) = x3 + 3 := gx_w_id (by omega) (by omega)
                      have e5 : gx_w (x3 + 4) = x3 + 4 := gx_w_id (by omega) (by omega)
                      have e6 : gx_w (x3 + 5) = x3 + 5 := gx_w_id (by omega) (by omega)
                      have e7 : gx_w (x3 + 6) = x3 + 6 := gx_w_id (by omega) (by omega)
                      refine hx_blk (npc := 180) (L' := [(0, .inr (.inl 61)), (1, .inr (.inl 31)), (2, .inl x2), (3, .inl x3), (4, .inl (m 62 (x2).toNat))]) (st' := []) (m' := (gx_u (gx_u (gx_u (gx_u (gx_u (gx_u (gx_u m 32 (m 63 (x2).toNat).toNat (m 68 (x3).toNat)) 32 (m 65 (x2).toNat).toNat (m 68 (gx_w (x3 + 1)).toNat)) 38 (m 62 (x2).toNat).toNat (m 68 (gx_w (x3 + 2)).toNat)) 39 (m 62 (x2).toNat).toNat (m 68 (gx_w (x3 + 3)).toNat)) 40 (m 62 (x2).toNat).toNat (m 68 (gx_w (x3 + 4)).toNat)) 41 (m 62 (x2).toNat).toNat (m 68 (gx_w (x3 + 5)).toNat)) 42 (m 62 (x2).toNat).toNat (m 68 (gx_w (x3 + 6)).toNat))) [((68, .aload_n 1, 1, 0, 0, 0, 0), (0, 0, 0)), ((69, .getfield 93, 3, 2, 5, 1091, 0), (1, 31, 32)), ((72, .aload_n 0, 1, 0, 0, 0, 0), (0, 0, 0)), ((73, .getfield 15, 3, 5, 1, 1238, 0), (1, 61, 63)), ((76, .iload_n 2, 1, 0, 0, 0, 0), (0, 0, 0)), ((77, .iaload, 1, 0, 0, 0, 0), (0, 63, 0)), ((78, .aload_n 0, 1, 0, 0, 0, 0), (0, 0, 0)), ((79, .getfield 30, 3, 5, 7, 2006, 0), (1, 61, 68)), ((82, .iload_n 3, 1, 0, 0, 0, 0), (0, 0, 0)), ((83, .iaload, 1, 0, 0, 0, 0), (0, 68, 0)), ((84, .iastore, 1, 0, 0, 0, 0), (0, 32, 0)), ((85, .aload_n 1, 1, 0, 0, 0, 0), (0, 0, 0)), ((86, .getfield 93, 3, 2, 5, 1091, 0), (1, 31, 32)), ((89, .aload_n 0, 1, 0, 0, 0, 0), (0, 0, 0)), ((90, .getfield 21, 3, 5, 3, 2000, 0), (1, 61, 65)), ((93, .iload_n 2, 1, 0, 0, 0, 0), (0, 0, 0)), ((94, .iaload, 1, 0, 0, 0, 0), (0, 65, 0)), ((95, .aload_n 0, 1, 0, 0, 0, 0), (0, 0, 0)), ((96, .getfield 30, 3, 5, 7, 2006, 0), (1, 61, 68)), ((99, .iload_n 3, 1, 0, 0, 0, 0), (0, 0, 0)), ((100, .iconst 1, 1, 0, 0, 0, 0), (0, 0, 0)), ((101, .iadd, 1, 0, 0, 0, 0), (0, 0, 0)), ((102, .iaload, 1, 0, 0, 0, 0), (0, 68, 0)), ((103, .iastore, 1, 0, 0, 0, 0), (0, 32, 0)), ((104, .aload_n 1, 1, 0, 0, 0, 0), (0, 0, 0)), ((105, .getfield 87, 3, 2, 11, 1115, 0), (1, 31, 38)), ((108, .iload 4, 2, 0, 0, 0, 0), (0, 0, 0)), ((110, .aload_n 0, 1, 0, 0, 0, 0), (0, 0, 0)), ((111, .getfield 30, 3, 5, 7, 2006, 0), (1, 61, 68)), ((114, .iload_n 3, 1, 0, 0, 0, 0), (0, 0, 0)), ((115, .iconst 2, 1, 0, 0, 0, 0), (0, 0, 0)), ((116, .iadd, 1, 0, 0, 0, 0), (0, 0, 0)), ((117, .iaload, 1, 0, 0, 0, 0), (0, 68, 0)), ((118, .iastore, 1, 0, 0, 0, 0), (0, 38, 0)), ((119, .aload_n 1, 1, 0, 0, 0, 0), (0, 0, 0)), ((120, .getfield 90, 3, 2, 12, 1121, 0), (1, 31, 39)), ((123, .iload 4, 2, 0, 0, 0, 0), (0, 0, 0)), ((125, .aload_n 0, 1, 0, 0, 0, 0), (0, 0, 0)), ((126, .getfield 30, 3, 5, 7, 2006, 0), (1, 61, 68)), ((129, .iload_n 3, 1, 0, 0, 0, 0), (0, 0, 0)), ((130, .iconst 3, 1, 0, 0, 0, 0), (0, 0, 0)), ((131, .iadd, 1, 0, 0, 0, 0), (0, 0, 0)), ((132, .iaload, 1, 0, 0, 0, 0), (0, 68, 0)), ((133, .iastore, 1, 0, 0, 0, 0), (0, 39, 0)), ((134, .aload_n 1, 1, 0, 0, 0, 0), (0, 0, 0)), ((135, .getfield 142, 3, 2, 13, 1126, 0), (1, 31, 40)), ((138, .iload 4, 2, 0, 0, 0, 0), (0, 0, 0)), ((140, .aload_n 0, 1, 0, 0, 0, 0), (0, 0, 0)), ((141, .getfield 30, 3, 5, 7, 2006, 0), (1, 61, 68)), ((144, .iload_n 3, 1, 0, 0, 0, 0), (0, 0, 0)), ((145, .iconst 4, 1, 0, 0, 0, 0), (0, 0, 0)), ((146, .iadd, 1, 0, 0, 0, 0), (0, 0, 0)), ((147, .iaload, 1, 0, 0, 0, 0), (0, 68, 0)), ((148, .iastore, 1, 0, 0, 0, 0), (0, 40, 0)), ((149, .aload_n 1, 1, 0, 0, 0, 0), (0, 0, 0)), ((150, .getfield 96, 3, 2, 14, 1129, 0), (1, 31, 41)), ((153, .iload 4, 2, 0, 0, 0, 0), (0, 0, 0)), ((155, .aload_n 0, 1, 0, 0, 0, 0), (0, 0, 0)), ((156, .getfield 30, 3, 5, 7, 2006, 0), (1, 61, 68)), ((159, .iload_n 3, 1, 0, 0, 0, 0), (0, 0, 0)), ((160, .iconst 5, 1, 0, 0, 0, 0), (0, 0, 0)), ((161, .iadd, 1, 0, 0, 0, 0), (0, 0, 0)), ((162, .iaload, 1, 0, 0, 0, 0), (0, 68, 0)), ((163, .iastore, 1, 0, 0, 0, 0), (0, 41, 0)), ((164, .aload_n 1, 1, 0, 0, 0, 0), (0, 0, 0)), ((165, .getfield 145, 3, 2, 15, 1133, 0), (1, 31, 42)), ((168, .iload 4, 2, 0, 0, 0, 0), (0, 0, 0)), ((170, .aload_n 0, 1, 0, 0, 0, 0), (0, 0, 0)), ((171, .getfield 30, 3, 5, 7, 2006, 0), (1, 61, 68)), ((174, .iload_n 3, 1, 0, 0, 0, 0), (0, 0, 0)), ((175, .bipush 6, 2, 0, 0, 0, 0), (0, 0, 0)), ((177, .iadd, 1, 0, 0, 0, 0), (0, 0, 0)), ((178, .iaload, 1, 0, 0, 0, 0), (0, 68, 0)), ((179, .iastore, 1, 0, 0, 0, 0), (0, 42, 0))] (by decide +kernel) rfl ?_
                      rw [e2, e3, e4, e5, e6, e7]
                      exact hx_ret0 (by decide +kernel) (h1 c1 c2 c3 c4 c5 c6 c7)
                    · have c8 : (1 : Int) = 0 := by have h : ¬ ((1 : Int) ≠ 0) := c8; omega
                      exfalso; omega
                  · have c7 : ¬ (cPers 31 m (m 65 (x2).toNat)) := c7
                    show hxn xs n yp_m142 64 [(0, .inr (.inl 61)), (1, .inr (.inl 31)), (2, .inl x2), (3, .inl x3), (4, .inl (m 62 (x2).toNat))] [.inl 0] m Q
                    refine hx_if .ne 68 (by decide +kernel) (fun c8 => ?_) (fun c8 => ?_)
                    · have c8 : (0 : Int) ≠ 0 := c8
                      exfalso; omega
                    · have c8 : (0 : Int) = 0 := by have h : ¬ ((0 : Int) ≠ 0) := c8; omega
                      exact hx_ret0 (by decide +kernel) (h2 c1 c2 c3 c4 c5 c6 c7)
              · have c6 : ¬ (cPers 31 m (m 63 (x2).toNat)) := c6
                show hxn xs n yp_m142 51 [(0, .inr (.inl 61)), (1, .inr (.inl 31)), (2, .inl x2), (3, .inl x3), (4, .inl (m 62 (x2).toNat))] [.inl 0] m Q
                refine hx_if .eq 67 (by decide +kernel) (fun c7 => ?_) (fun c7 => ?_)
                · have c7 : (0 : Int) = 0 := c7
                  exact hx_ret0 (by decide +kernel) (h3 c1 c2 c3 c4 c5 c6)
                · have c7 : (0 : Int) ≠ 0 := c7
                  exfalso; omega
          · have c5 : ¬ (cYear 31 m (m 62 (x2).toNat)) := c5
            show hxn xs n yp_m142 38 [(0, .inr (.inl 61)), (1, .inr (.inl 31)), (2, .inl x2), (3, .inl x3), (4, .inl (m 62 (x2).toNat))] [.inl 0] m Q
            refine hx_if .eq 67 (by decide +kernel) (fun c6 => ?_) (fun c6 => ?_)
            · have c6 : (0 : Int) = 0 := c6
              exact hx_ret0 (by decide +kernel) (h4 c1 c2 c3 c4 c5)
            · have c6 : (0 : Int) ≠ 0 := c6
              exfalso; omega
        · have c4 : 42 < (x3 + 7) := by have h : ¬ ((x3 + 7) ≤ 42) := c4; omega
          exact hx_ret0 (by decide +kernel) (h5 c1 c2 c3 c4)

/-- inOrder from 0 on -/
theorem hw213_0 {xs : List Int32} {n : Nat} {Q : hQ} {m : gx_M} {x1 x2 : Int}
    (h1 : (1 ≤ x1 ∧ x1 ≤ 160) → (x1 ≤ (m 86 4)) → hxn xs n yp_m191 0 [(0, .inr (.inl 86)), (1, .inl x1)] [] m (fun r m' => hxn xs n yp_m213 26 [(0, .inr (.inl 86)), (2, .inl x2)] (hrs r ++ []) m' Q))
    (h2 : (1 ≤ x1 ∧ x1 ≤ 160) → ((m 86 4) < x1) → Q (some (.inl (-1))) m)
    (h3 : (¬ (1 ≤ x1 ∧ x1 ≤ 160)) → Q (some (.inl (-1))) m) : hxn xs (n + 1) yp_m213 0 [(0, .inr (.inl 86)), (1, .inl x1), (2, .inl x2)] [] m Q := by
  refine hx_blks (npc := 5) (L' := [(0, .inr (.inl 86)), (1, .inl x1), (2, .inl x2)]) (st' := [.inl 160, .inl 1, .inl x1]) (m' := m) ((0, .iload_n 1, 1, 0, 0, 0, 0), (0, 0, 0)) [((1, .iconst 1, 1, 0, 0, 0, 0), (0, 0, 0)), ((2, .sipush 160, 3, 0, 0, 0, 0), (0, 0, 0))] (by decide +kernel) rfl ?_
  refine hx_call (E := (5, .invokestatic 108, 3, 162, 0, 6023, 0)) (M' := yp_m162) [.inl x1, .inl 1, .inl 160] [] rfl (by decide +kernel) rfl ⟨rfl, rfl⟩ rfl rfl (hs162 (fun c1 => ?_) (fun c1 => ?_))
  · have c1 : 1 ≤ x1 ∧ x1 ≤ 160 := c1
    show hxn xs n yp_m213 8 [(0, .inr (.inl 86)), (1, .inl x1), (2, .inl x2)] [.inl 1] m Q
    refine hx_if .eq 19 (by decide +kernel) (fun c2 => ?_) (fun c2 => ?_)
    · have c2 : (1 : Int) = 0 := c2
      exfalso; omega
    · have c2 : (1 : Int) ≠ 0 := c2
      refine hx_blk (npc := 16) (L' := [(0, .inr (.inl 86)), (1, .inl x1), (2, .inl x2)]) (st' := [.inl (m 86 4), .inl x1]) (m' := m) [((11, .iload_n 1, 1, 0, 0, 0, 0), (0, 0, 0)), ((12, .aload_n 0, 1, 0, 0, 0, 0), (0, 0, 0)), ((13, .getfield 124, 3, 10, 4, 5117, 0), (0, 86, 0))] (by decide +kernel) rfl ?_
      refine hx_cmp .le 21 (by decide +kernel) (fun c2 => ?_) (fun c2 => ?_)
      · have c2 : x1 ≤ (m 86 4) := c2
        refine hx_blk (npc := 23) (L' := [(0, .inr (.inl 86)), (1, .inl x1), (2, .inl x2)]) (st' := [.inl x1, .inr (.inl 86)]) (m' := m) [((21, .aload_n 0, 1, 0, 0, 0, 0), (0, 0, 0)), ((22, .iload_n 1, 1, 0, 0, 0, 0), (0, 0, 0))] (by decide +kernel) rfl ?_
        exact hx_call (E := (23, .invokevirtual 284, 3, 191, 0, 6136, 0)) (M' := yp_m191) [.inr (.inl 86), .inl x1] [] rfl (by decide +kernel) rfl ⟨rfl, rfl⟩ rfl rfl (hx_mono (h1 c1 c2) (fun r m' h' => hx_pick [0, 2] h'))
      · have c2 : (m 86 4) < x1 := by have h : ¬ (x1 ≤ (m 86 4)) := c2; omega
        refine hx_blk (npc := 20) (L' := [(0, .inr (.inl 86)), (1, .inl x1), (2, .inl x2)]) (st' := [.inl (-1)]) (m' := m) [((19, .iconst (-1), 1, 0, 0, 0, 0), (0, 0, 0))] (by decide +kernel) rfl ?_
        exact hx_reti (by decide +kernel) (h2 c1 c2)
  · have c1 : ¬ (1 ≤ x1 ∧ x1 ≤ 160) := c1
    show hxn xs n yp_m213 8 [(0, .inr (.inl 86)), (1, .inl x1), (2, .inl x2)] [.inl 0] m Q
    refine hx_if .eq 19 (by decide +kernel) (fun c2 => ?_) (fun c2 => ?_)
    · have c2 : (0 : Int) = 0 := c2
      refine hx_blk (npc := 20) (L' := [(0, .inr (.inl 86)), (1, .inl x1), (2, .inl x2)]) (st' := [.inl (-1)]) (m' := m) [((19, .iconst (-1), 1, 0, 0, 0, 0), (0, 0, 0))] (by decide +kernel) rfl ?_
      exact hx_reti (by decide +kernel) (h3 c1)
    · have c2 : (0 : Int) ≠ 0 := c2
      exfalso; omega

/-- inOrder from 26 on -/
theorem hw213_26 {xs : List Int32} {n : Nat} {Q : hQ} {m : gx_M} {x2 s0 : Int}
    (h1 : (s0 ≠ 0) → (6 < (m 86 32)) → Q (some (.inl (-3))) m)
    (h2 : (s0 ≠ 0) → ((m 86 32) ≤ 6) → ((-1) ≤ x2 ∧ x2 ≤ (gx_w ((m 86 32) - 1))) → hxn xs n yp_m212 0 [(0, .inr (.inl 87)), (1, .inr (.inl 88))] [] m (fun r m' => hxn xs n yp_m213 71 [(0, .inr (.inl 86)), (2, .inl x2)] (hrs r ++ []) m' Q))
    (h3 : (s0 ≠ 0) → ((m 86 32) ≤ 6) → (¬ ((-1) ≤ x2 ∧ x2 ≤ (gx_w ((m 86 32) - 1)))) → Q (some (.inl (-3))) m)
    (h4 : (s0 = 0) → Q (some (.inl (m 86 7))) m) : hxn xs (n + 1) yp_m213 26 [(0, .inr (.inl 86)), (2, .inl x2)] [.inl s0] m Q := by
  refine hx_ifs .ne 34 (by decide +kernel) (fun c1 => ?_) (fun c1 => ?_)
  · have c1 : s0 ≠ 0 := c1
    refine hx_blk (npc := 40) (L' := [(0, .inr (.inl 86)), (2, .inl x2)]) (st' := [.inl 6, .inl (m 86 32)]) (m' := m) [((34, .aload_n 0, 1, 0, 0, 0, 0), (0, 0, 0)), ((35, .getfield 254, 3, 10, 32, 5145, 0), (0, 86, 0)), ((38, .bipush 6, 2, 0, 0, 0, 0), (0, 0, 0))] (by decide +kernel) rfl ?_
    refine hx_cmp .gt 57 (by decide +kernel) (fun c2 => ?_) (fun c2 => ?_)
    · have c2 : 6 < (m 86 32) := c2
      refine hx_blk (npc := 59) (L' := [(0, .inr (.inl 86)), (2, .inl x2)]) (st' := [.inl (-3)]) (m' := m) [((57, .bipush (-3), 2, 0, 0, 0, 0), (0, 0, 0))] (by decide +kernel) rfl ?_
      exact hx_reti (by decide +kernel) (h1 c1 c2)
    · have c2 : (m 86 32) ≤ 6 := by have h : ¬ (6 < (m 86 32)) := c2; omega
      refine hx_blk (npc := 51) (L' := [(0, .inr (.inl 86)), (2, .inl x2)]) (st' := [.inl (gx_w ((m 86 32) - 1)), .inl (-1), .inl x2]) (m' := m) [((43, .iload_n 2, 1, 0, 0, 0, 0), (0, 0, 0)), ((44, .iconst (-1), 1, 0, 0, 0, 0), (0, 0, 0)), ((45, .aload_n 0, 1, 0, 0, 0, 0), (0, 0, 0)), ((46, .getfield 254, 3, 10, 32, 5145, 0), (0, 86, 0)), ((49, .iconst 1, 1, 0, 0, 0, 0), (0, 0, 0)), ((50, .isub, 1, 0, 0, 0, 0), (0, 0, 0))] (by decide +kernel) rfl ?_
      refine hx_call (E := (51, .invokestatic 108, 3, 162, 0, 6023, 0)) (M' := yp_m162) [.inl x2, .inl (-1), .inl (gx_w ((m 86 32) - 1))] [] rfl (by decide +kernel) rfl ⟨rfl, rfl⟩ rfl rfl (hs162 (fun c3 => ?_) (fun c3 => ?_))
      · have c3 : (-1) ≤ x2 ∧ x2 ≤ (gx_w ((m 86 32) - 1)) := c3
        show hxn xs n yp_m213 54 [(0, .inr (.inl 86)), (2, .inl x2)] [.inl 1] m Q
        refine hx_if .ne 60 (by decide +kernel) (fun c4 => ?_) (fun c4 => ?_)
        · have c4 : (1 : Int) ≠ 0 := c4
          refine hx_blk (npc := 68) (L' := [(0, .inr (.inl 86)), (2, .inl x2)]) (st' := [.inr (.inl 88), .inr (.inl 87)]) (m' := m) [((60, .aload_n 0, 1, 0, 0, 0, 0), (0, 0, 0)), ((61, .getfield 7, 3, 10, 0, 5113, 0), (1, 86, 87)), ((64, .aload_n 0, 1, 0, 0, 0, 0), (0, 0, 0)), ((65, .getfield 13, 3, 10, 1, 5114, 0), (1, 86, 88))] (by decide +kernel) rfl ?_
          exact hx_call (E := (68, .invokestatic 290, 3, 212, 0, 6217, 0)) (M' := yp_m212) [.inr (.inl 87), .inr (.inl 88)] [] rfl (by decide +kernel) rfl ⟨rfl, rfl⟩ rfl rfl (hx_mono (h2 c1 c2 c3) (fun r m' h' => hx_pick [0, 2] h'))
        · have c4 : (1 : Int) = 0 := by have h : ¬ ((1 : Int) ≠ 0) := c4; omega
          exfalso; omega
      · have c3 : ¬ ((-1) ≤ x2 ∧ x2 ≤ (gx_w ((m 86 32) - 1))) := c3
        show hxn xs n yp_m213 54 [(0, .inr (.inl 86)), (2, .inl x2)] [.inl 0] m Q
        refine hx_if .ne 60 (by decide +kernel) (fun c4 => ?_) (fun c4 => ?_)
        · have c4 : (0 : Int) ≠ 0 := c4
          exfalso; omega
        · have c4 : (0 : Int) = 0 := by have h : ¬ ((0 : Int) ≠ 0) := c4; omega
          refine hx_blk (npc := 59) (L' := [(0, .inr (.inl 86)), (2, .inl x2)]) (st' := [.inl (-3)]) (m' := m) [((57, .bipush (-3), 2, 0, 0, 0, 0), (0, 0, 0))] (by decide +kernel) rfl ?_
          exact hx_reti (by decide +kernel) (h3 c1 c2 c3)
  · have c1 : s0 = 0 := by have h : ¬ (s0 ≠ 0) := c1; omega
    refine hx_blk (npc := 33) (L' := [(0, .inr (.inl 86)), (2, .inl x2)]) (st' := [.inl (m 86 7)]) (m' := m) [((29, .aload_n 0, 1, 0, 0, 0, 0), (0, 0, 0)), ((30, .getfield 142, 3, 10, 7, 5120, 0), (0, 86, 0))] (by decide +kernel) rfl ?_
    exact hx_reti (by decide +kernel) (h4 c1)

/-- inOrder from 71 on -/
theorem hw213_71 {xs : List Int32} {n : Nat} {Q : hQ} {m : gx_M} {x2 : Int}
    (h1 : hxn xs n yp_m213 73 [(0, .inr (.inl 86)), (2, .inl x2), (3, .inl 0)] [] m Q) : hxn xs (n + 1) yp_m213 71 [(0, .inr (.inl 86)), (2, .inl x2)] [] m Q := by
  refine hx_blks (npc := 73) (L' := [(0, .inr (.inl 86)), (2, .inl x2), (3, .inl 0)]) (st' := []) (m' := m) ((71, .iconst 0, 1, 0, 0, 0, 0), (0, 0, 0)) [((72, .istore_n 3, 1, 0, 0, 0, 0), (0, 0, 0))] (by decide +kernel) rfl ?_
  exact hx_pick [0, 2, 3] h1

/-- inOrder from 73 on -/
theorem hw213_73 {xs : List Int32} {n : Nat} {Q : hQ} {m : gx_M} {x2 x3 : Int}
    (h1 : ((m 86 32) ≤ x3) → hxn xs n yp_m214 0 [(0, .inr (.inl 86))] [] m (fun r m' => hxn xs n yp_m213 98 [(0, .inr (.inl 86)), (2, .inl x2)] (hrs r ++ []) m' Q))
    (h2 : (x3 < (m 86 32)) → hxn xs n yp_m213 73 [(0, .inr (.inl 86)), (2, .inl x2), (3, .inl (gx_w (x3 + 1)))] [] (gx_u m 109 (x3).toNat x3) Q) : hxn xs (n + 1) yp_m213 73 [(0, .inr (.inl 86)), (2, .inl x2), (3, .inl x3)] [] m Q := by
  refine hx_blks (npc := 78) (L' := [(0, .inr (.inl 86)), (2, .inl x2), (3, .inl x3)]) (st' := [.inl (m 86 32), .inl x3]) (m' := m) ((73, .iload_n 3, 1, 0, 0, 0, 0), (0, 0, 0)) [((74, .aload_n 0, 1, 0, 0, 0, 0), (0, 0, 0)), ((75, .getfield 254, 3, 10, 32, 5145, 0), (0, 86, 0))] (by decide +kernel) rfl ?_
  refine hx_cmp .ge 94 (by decide +kernel) (fun c1 => ?_) (fun c1 => ?_)
  · have c1 : (m 86 32) ≤ x3 := c1
    refine hx_blk (npc := 95) (L' := [(0, .inr (.inl 86)), (2, .inl x2), (3, .inl x3)]) (st' := [.inr (.inl 86)]) (m' := m) [((94, .aload_n 0, 1, 0, 0, 0, 0), (0, 0, 0))] (by decide +kernel) rfl ?_
    exact hx_call (E := (95, .invokevirtual 297, 3, 214, 0, 6224, 0)) (M' := yp_m214) [.inr (.inl 86)] [] rfl (by decide +kernel) rfl ⟨rfl, rfl⟩ rfl rfl (hx_mono (h1 c1) (fun r m' h' => hx_pick [0, 2] h'))
  · have c1 : x3 < (m 86 32) := by have h : ¬ ((m 86 32) ≤ x3) := c1; omega
    refine hx_blk (npc := 73) (L' := [(0, .inr (.inl 86)), (2, .inl x2), (3, .inl (gx_w (x3 + 1)))]) (st' := []) (m' := (gx_u m 109 (x3).toNat x3)) [((81, .aload_n 0, 1, 0, 0, 0, 0), (0, 0, 0)), ((82, .getfield 77, 3, 10, 33, 5146, 0), (1, 86, 109)), ((85, .iload_n 3, 1, 0, 0, 0, 0), (0, 0, 0)), ((86, .iload_n 3, 1, 0, 0, 0, 0), (0, 0, 0)), ((87, .iastore, 1, 0, 0, 0, 0), (0, 109, 0)), ((88, .iinc 3 1, 3, 0, 0, 0, 0), (0, 0, 0)), ((91, .goto (-18), 3, 0, 0, 0, 0), (0, 0, 0))] (by decide +kernel) rfl ?_
    exact hx_pick [0, 2, 3] (h2 c1)

/-- inOrder from 98 on -/
theorem hw213_98 {xs : List Int32} {n : Nat} {Q : hQ} {m : gx_M} {x2 s0 : Int}
    (h1 : hxn xs n yp_m213 99 [(0, .inr (.inl 86)), (2, .inl x2), (3, .inl s0)] [] m Q) : hxn xs (n + 1) yp_m213 98 [(0, .inr (.inl 86)), (2, .inl x2)] [.inl s0] m Q := by
  refine hx_blks (npc := 99) (L' := [(0, .inr (.inl 86)), (2, .inl x2), (3, .inl s0)]) (st' := []) (m' := m) ((98, .istore_n 3, 1, 0, 0, 0, 0), (0, 0, 0)) [] (by decide +kernel) rfl ?_
  exact hx_pick [0, 2, 3] h1

/-- inOrder from 99 on -/
theorem hw213_99 {xs : List Int32} {n : Nat} {Q : hQ} {m : gx_M} {x2 x3 : Int}
    (h1 : (x3 ≠ 0) → (x2 ≠ (-1)) → (x3 = 0) → Q (some (.inl (-2))) m)
    (h2 : (x3 ≠ 0) → (x2 ≠ (-1)) → (x3 ≠ 0) → Q (some (.inl (m 109 (x2).toNat))) m)
    (h3 : (x3 ≠ 0) → (x2 = (-1)) → (x3 = 0) → Q (some (.inl 0)) m)
    (h4 : (x3 ≠ 0) → (x2 = (-1)) → (x3 ≠ 0) → Q (some (.inl 1)) m)
    (h5 : (x3 = 0) → hxn xs n yp_m215 0 [(0, .inr (.inl 86))] [] m (fun r m' => hxn xs n yp_m213 107 [(0, .inr (.inl 86)), (2, .inl x2), (3, .inl x3)] (hrs r ++ []) m' Q)) : hxn xs (n + 1) yp_m213 99 [(0, .inr (.inl 86)), (2, .inl x2), (3, .inl x3)] [] m Q := by
  refine hx_blks (npc := 100) (L' := [(0, .inr (.inl 86)), (2, .inl x2), (3, .inl x3)]) (st' := [.inl x3]) (m' := m) ((99, .iload_n 3, 1, 0, 0, 0, 0), (0, 0, 0)) [] (by decide +kernel) rfl ?_
  refine hx_if .ne 118 (by decide +kernel) (fun c1 => ?_) (fun c1 => ?_)
  · have c1 : x3 ≠ 0 := c1
    refine hx_blk (npc := 120) (L' := [(0, .inr (.inl 86)), (2, .inl x2), (3, .inl x3)]) (st' := [.inl (-1), .inl x2]) (m' := m) [((118, .iload_n 2, 1, 0, 0, 0, 0), (0, 0, 0)), ((119, .iconst (-1), 1, 0, 0, 0, 0), (0, 0, 0))] (by decide +kernel) rfl ?_
    refine hx_cmp .ne 133 (by decide +kernel) (fun c2 => ?_) (fun c2 => ?_)
    · have c2 : x2 ≠ (-1) := c2
      refine hx_blk (npc := 134) (L' := [(0, .inr (.inl 86)), (2, .inl x2), (3, .inl x3)]) (st' := [.inl x3]) (m' := m) [((133, .iload_n 3, 1, 0, 0, 0, 0), (0, 0, 0))] (by decide +kernel) rfl ?_
      refine hx_if .eq 146 (by decide +kernel) (fun c3 => ?_) (fun c3 => ?_)
      · have c3 : x3 = 0 := c3
        refine hx_blk (npc := 148) (L' := [(0, .inr (.inl 86)), (2, .inl x2), (3, .inl x3)]) (st' := [.inl (-2)]) (m' := m) [((146, .bipush (-2), 2, 0, 0, 0, 0), (0, 0, 0))] (by decide +kernel) rfl ?_
        exact hx_reti (by decide +kernel) (h1 c1 c2 c3)
      · have c3 : x3 ≠ 0 := c3
        refine hx_blk (npc := 148) (L' := [(0, .inr (.inl 86)), (2, .inl x2), (3, .inl x3)]) (st' := [.inl (m 109 (x2).toNat)]) (m' := m) [((137, .aload_n 0, 1, 0, 0, 0, 0), (0, 0, 0)), ((138, .getfield 77, 3, 10, 33, 5146, 0), (1, 86, 109)), ((141, .iload_n 2, 1, 0, 0, 0, 0), (0, 0, 0)), ((142, .iaload, 1, 0, 0, 0, 0), (0, 109, 0)), ((143, .goto 5, 3, 0, 0, 0, 0), (0, 0, 0))] (by decide +kernel) rfl ?_
        exact hx_reti (by decide +kernel) (h2 c1 c2 c3)
    · have c2 : x2 = (-1) := by have h : ¬ (x2 ≠ (-1)) := c2; omega
      refine hx_blk (npc := 124) (L' := [(0, .inr (.inl 86)), (2, .inl x2), (3, .inl x3)]) (st' := [.inl x3]) (m' := m) [((123, .iload_n 3, 1, 0, 0, 0, 0), (0, 0, 0))] (by decide +kernel) rfl ?_
      refine hx_if .eq 131 (by decide +kernel) (fun c3 => ?_) (fun c3 => ?_)
      · have c3 : x3 = 0 := c3
        refine hx_blk (npc := 132) (L' := [(0, .inr (.inl 86)), (2, .inl x2), (3, .inl x3)]) (st' := [.inl 0]) (m' := m) [((131, .iconst 0, 1, 0, 0, 0, 0), (0, 0, 0))] (by decide +kernel) rfl ?_
        exact hx_reti (by decide +kernel) (h3 c1 c2 c3)
      · have c3 : x3 ≠ 0 := c3
        refine hx_blk (npc := 132) (L' := [(0, .inr (.inl 86)), (2, .inl x2), (3, .inl x3)]) (st' := [.inl 1]) (m' := m) [((127, .iconst 1, 1, 0, 0, 0, 0), (0, 0, 0)), ((128, .goto 4, 3, 0, 0, 0, 0), (0, 0, 0))] (by decide +kernel) rfl ?_
        exact hx_reti (by decide +kernel) (h4 c1 c2 c3)
  · have c1 : x3 = 0 := by have h : ¬ (x3 ≠ 0) := c1; omega
    refine hx_blk (npc := 104) (L' := [(0, .inr (.inl 86)), (2, .inl x2), (3, .inl x3)]) (st' := [.inr (.inl 86)]) (m' := m) [((103, .aload_n 0, 1, 0, 0, 0, 0), (0, 0, 0))] (by decide +kernel) rfl ?_
    exact hx_call (E := (104, .invokevirtual 300, 3, 215, 0, 6228, 0)) (M' := yp_m215) [.inr (.inl 86)] [] rfl (by decide +kernel) rfl ⟨rfl, rfl⟩ rfl rfl (hx_mono (h5 c1) (fun r m' h' => hx_pick [0, 2, 3] h'))

/-- inOrder from 107 on -/
theorem hw213_107 {xs : List Int32} {n : Nat} {Q : hQ} {m : gx_M} {x2 x3 s0 : Int}
    (h1 : (s0 = 0) → (x2 ≠ (-1)) → (x3 = 0) → Q (some (.inl (-2))) m)
    (h2 : (s0 = 0) → (x2 ≠ (-1)) → (x3 ≠ 0) → Q (some (.inl (m 109 (x2).toNat))) m)
    (h3 : (s0 = 0) → (x2 = (-1)) → (x3 = 0) → Q (some (.inl 0)) m)
    (h4 : (s0 = 0) → (x2 = (-1)) → (x3 ≠ 0) → Q (some (.inl 1)) m)
    (h5 : (s0 ≠ 0) → hxn xs n yp_m214 0 [(0, .inr (.inl 86))] [] m (fun r m' => hxn xs n yp_m213 114 [(0, .inr (.inl 86)), (2, .inl x2)] (hrs r ++ []) m' Q)) : hxn xs (n + 1) yp_m213 107 [(0, .inr (.inl 86)), (2, .inl x2), (3, .inl x3)] [.inl s0] m Q := by
  refine hx_ifs .eq 118 (by decide +kernel) (fun c1 => ?_) (fun c1 => ?_)
  · have c1 : s0 = 0 := c1
    refine hx_blk (npc := 120) (L' := [(0, .inr (.inl 86)), (2, .inl x2), (3, .inl x3)]) (st' := [.inl (-1), .inl x2]) (m' := m) [((118, .iload_n 2, 1, 0, 0, 0, 0), (0, 0, 0)), ((119, .iconst (-1), 1, 0, 0, 0, 0), (0, 0, 0))] (by decide +kernel) rfl ?_
    refine hx_cmp .ne 133 (by decide +kernel) (fun c2 => ?_) (fun c2 => ?_)
    · have c2 : x2 ≠ (-1) := c2
      refine hx_blk (npc := 134) (L' := [(0, .inr (.inl 86)), (2, .inl x2), (3, .inl x3)]) (st' := [.inl x3]) (m' := m) [((133, .iload_n 3, 1, 0, 0, 0, 0), (0, 0, 0))] (by decide +kernel) rfl ?_
      refine hx_if .eq 146 (by decide +kernel) (fun c3 => ?_) (fun c3 => ?_)
      · have c3 : x3 = 0 := c3
        refine hx_blk (npc := 148) (L' := [(0, .inr (.inl 86)), (2, .inl x2), (3, .inl x3)]) (st' := [.inl (-2)]) (m' := m) [((146, .bipush (-2), 2, 0, 0, 0, 0), (0, 0, 0))] (by decide +kernel) rfl ?_
        exact hx_reti (by decide +kernel) (h1 c1 c2 c3)
      · have c3 : x3 ≠ 0 := c3
        refine hx_blk (npc := 148) (L' := [(0, .inr (.inl 86)), (2, .inl x2), (3, .inl x3)]) (st' := [.inl (m 109 (x2).toNat)]) (m' := m) [((137, .aload_n 0, 1, 0, 0, 0, 0), (0, 0, 0)), ((138, .getfield 77, 3, 10, 33, 5146, 0), (1, 86, 109)), ((141, .iload_n 2, 1, 0, 0, 0, 0), (0, 0, 0)), ((142, .iaload, 1, 0, 0, 0, 0), (0, 109, 0)), ((143, .goto 5, 3, 0, 0, 0, 0), (0, 0, 0))] (by decide +kernel) rfl ?_
        exact hx_reti (by decide +kernel) (h2 c1 c2 c3)
    · have c2 : x2 = (-1) := by have h : ¬ (x2 ≠ (-1)) := c2; omega
      refine hx_blk (npc := 124) (L' := [(0, .inr (.inl 86)), (2, .inl x2), (3, .inl x3)]) (st' := [.inl x3]) (m' := m) [((123, .iload_n 3, 1, 0, 0, 0, 0), (0, 0, 0))] (by decide +kernel) rfl ?_
      refine hx_if .eq 131 (by decide +kernel) (fun c3 => ?_) (fun c3 => ?_)
      · have c3 : x3 = 0 := c3
        refine hx_blk (npc := 132) (L' := [(0, .inr (.inl 86)), (2, .inl x2), (3, .inl x3)]) (st' := [.inl 0]) (m' := m) [((131, .iconst 0, 1, 0, 0, 0, 0), (0, 0, 0))] (by decide +kernel) rfl ?_
        exact hx_reti (by decide +kernel) (h3 c1 c2 c3)
      · have c3 : x3 ≠ 0 := c3
        refine hx_blk (npc := 132) (L' := [(0, .inr (.inl 86)), (2, .inl x2), (3, .inl x3)]) (st' := [.inl 1]) (m' := m) [((127, .iconst 1, 1, 0, 0, 0, 0), (0, 0, 0)), ((128, .goto 4, 3, 0, 0, 0, 0), (0, 0, 0))] (by decide +kernel) rfl ?_
        exact hx_reti (by decide +kernel) (h4 c1 c2 c3)
  · have c1 : s0 ≠ 0 := c1
    refine hx_blk (npc := 111) (L' := [(0, .inr (.inl 86)), (2, .inl x2), (3, .inl x3)]) (st' := [.inr (.inl 86)]) (m' := m) [((110, .aload_n 0, 1, 0, 0, 0, 0), (0, 0, 0))] (by decide +kernel) rfl ?_
    exact hx_call (E := (111, .invokevirtual 297, 3, 214, 0, 6224, 0)) (M' := yp_m214) [.inr (.inl 86)] [] rfl (by decide +kernel) rfl ⟨rfl, rfl⟩ rfl rfl (hx_mono (h5 c1) (fun r m' h' => hx_pick [0, 2] h'))

/-- inOrder from 114 on -/
theorem hw213_114 {xs : List Int32} {n : Nat} {Q : hQ} {m : gx_M} {x2 s0 : Int}
    (h1 : hxn xs n yp_m213 99 [(0, .inr (.inl 86)), (2, .inl x2), (3, .inl s0)] [] m Q) : hxn xs (n + 1) yp_m213 114 [(0, .inr (.inl 86)), (2, .inl x2)] [.inl s0] m Q := by
  refine hx_blks (npc := 99) (L' := [(0, .inr (.inl 86)), (2, .inl x2), (3, .inl s0)]) (st' := []) (m' := m) ((114, .istore_n 3, 1, 0, 0, 0, 0), (0, 0, 0)) [((115, .goto (-16), 3, 0, 0, 0, 0), (0, 0, 0))] (by decide +kernel) rfl ?_
  exact hx_pick [0, 2, 3] h1

/-- areDone from 0 on -/
theorem hw214_0 {xs : List Int32} {n : Nat} {Q : hQ} {m : gx_M}
    (h1 : hxn xs n yp_m214 4 [(0, .inr (.inl 86)), (1, .inl 1), (2, .inl 0)] [] m Q) : hxn xs (n + 1) yp_m214 0 [(0, .inr (.inl 86))] [] m Q := by
  refine hx_blks (npc := 4) (L' := [(0, .inr (.inl 86)), (1, .inl 1), (2, .inl 0)]) (st' := []) (m' := m) ((0, .iconst 1, 1, 0, 0, 0, 0), (0, 0, 0)) [((1, .istore_n 1, 1, 0, 0, 0, 0), (0, 0, 0)), ((2, .iconst 0, 1, 0, 0, 0, 0), (0, 0, 0)), ((3, .istore_n 2, 1, 0, 0, 0, 0), (0, 0, 0))] (by decide +kernel) rfl ?_
  exact hx_pick [0, 1, 2] h1

/-- areDone from 4 on -/
theorem hw214_4 {xs : List Int32} {n : Nat} {Q : hQ} {m : gx_M} {x1 x2 : Int}
    (h1 : ((m 86 32) ≤ x2) → hxn xs n yp_m212 0 [(0, .inr (.inl 88)), (1, .inr (.inl 87))] [] m (fun r m' => hxn xs n yp_m214 44 [(1, .inl x1)] (hrs r ++ []) m' Q))
    (h2 : (x2 < (m 86 32)) → (x1 = 0) → hxn xs n yp_m212 0 [(0, .inr (.inl 88)), (1, .inr (.inl 87))] [] m (fun r m' => hxn xs n yp_m214 44 [(1, .inl x1)] (hrs r ++ []) m' Q))
    (h3 : (x2 < (m 86 32)) → (x1 ≠ 0) → hxn xs n yp_m195 0 [(0, .inr (.inl 86)), (1, .inl (m 109 (x2).toNat))] [] m (fun r m' => hxn xs n yp_m214 26 [(0, .inr (.inl 86)), (2, .inl x2)] (hrs r ++ []) m' Q)) : hxn xs (n + 1) yp_m214 4 [(0, .inr (.inl 86)), (1, .inl x1), (2, .inl x2)] [] m Q := by
  refine hx_blks (npc := 9) (L' := [(0, .inr (.inl 86)), (1, .inl x1), (2, .inl x2)]) (st' := [.inl (m 86 32), .inl x2]) (m' := m) ((4, .iload_n 2, 1, 0, 0, 0, 0), (0, 0, 0)) [((5, .aload_n 0, 1, 0, 0, 0, 0), (0, 0, 0)), ((6, .getfield 254, 3, 10, 32, 5145, 0), (0, 86, 0))] (by decide +kernel) rfl ?_
  refine hx_cmp .ge 33 (by decide +kernel) (fun c1 => ?_) (fun c1 => ?_)
  · have c1 : (m 86 32) ≤ x2 := c1
    refine hx_blk (npc := 41) (L' := [(0, .inr (.inl 86)), (1, .inl x1), (2, .inl x2)]) (st' := [.inr (.inl 87), .inr (.inl 88)]) (m' := m) [((33, .aload_n 0, 1, 0, 0, 0, 0), (0, 0, 0)), ((34, .getfield 13, 3, 10, 1, 5114, 0), (1, 86, 88)), ((37, .aload_n 0, 1, 0, 0, 0, 0), (0, 0, 0)), ((38, .getfield 7, 3, 10, 0, 5113, 0), (1, 86, 87))] (by decide +kernel) rfl ?_
    exact hx_call (E := (41, .invokestatic 290, 3, 212, 0, 6217, 0)) (M' := yp_m212) [.inr (.inl 88), .inr (.inl 87)] [] rfl (by decide +kernel) rfl ⟨rfl, rfl⟩ rfl rfl (hx_mono (h1 c1) (fun r m' h' => hx_pick [1] h'))
  · have c1 : x2 < (m 86 32) := by have h : ¬ ((m 86 32) ≤ x2) := c1; omega
    refine hx_blk (npc := 13) (L' := [(0, .inr (.inl 86)), (1, .inl x1), (2, .inl x2)]) (st' := [.inl x1]) (m' := m) [((12, .iload_n 1, 1, 0, 0, 0, 0), (0, 0, 0))] (by decide +kernel) rfl ?_
    refine hx_if .eq 33 (by decide +kernel) (fun c2 => ?_) (fun c2 => ?_)
    · have c2 : x1 = 0 := c2
      refine hx_blk (npc := 41) (L' := [(0, .inr (.inl 86)), (1, .inl x1), (2, .inl x2)]) (st' := [.inr (.inl 87), .inr (.inl 88)]) (m' := m) [((33, .aload_n 0, 1, 0, 0, 0, 0), (0, 0, 0)), ((34, .getfield 13, 3, 10, 1, 5114, 0), (1, 86, 88)), ((37, .aload_n 0, 1, 0, 0, 0, 0), (0, 0, 0)), ((38, .getfield 7, 3, 10, 0, 5113, 0), (1, 86, 87))] (by decide +kernel) rfl ?_
      exact hx_call (E := (41, .invokestatic 290, 3, 212, 0, 6217, 0)) (M' := yp_m212) [.inr (.inl 88), .inr (.inl 87)] [] rfl (by decide +kernel) rfl ⟨rfl, rfl⟩ rfl rfl (hx_mono (h2 c1 c2) (fun r m' h' => hx_pick [1] h'))
    · have c2 : x1 ≠ 0 := c2
      refine hx_blk (npc := 23) (L' := [(0, .inr (.inl 86)), (1, .inl x1), (2, .inl x2)]) (st' := [.inl (m 109 (x2).toNat), .inr (.inl 86)]) (m' := m) [((16, .aload_n 0, 1, 0, 0, 0, 0), (0, 0, 0)), ((17, .aload_n 0, 1, 0, 0, 0, 0), (0, 0, 0)), ((18, .getfield 77, 3, 10, 33, 5146, 0), (1, 86, 109)), ((21, .iload_n 2, 1, 0, 0, 0, 0), (0, 0, 0)), ((22, .iaload, 1, 0, 0, 0, 0), (0, 109, 0))] (by decide +kernel) rfl ?_
      exact hx_call (E := (23, .invokevirtual 287, 3, 195, 0, 6152, 0)) (M' := yp_m195) [.inr (.inl 86), .inl (m 109 (x2).toNat)] [] rfl (by decide +kernel) rfl ⟨rfl, rfl⟩ rfl rfl (hx_mono (h3 c1 c2) (fun r m' h' => hx_pick [0, 2] h'))

/-- areDone from 26 on -/
theorem hw214_26 {xs : List Int32} {n : Nat} {Q : hQ} {m : gx_M} {x2 s0 : Int}
    (h1 : hxn xs n yp_m214 4 [(0, .inr (.inl 86)), (1, .inl s0), (2, .inl (gx_w (x2 + 1)))] [] m Q) : hxn xs (n + 1) yp_m214 26 [(0, .inr (.inl 86)), (2, .inl x2)] [.inl s0] m Q := by
  refine hx_blks (npc := 4) (L' := [(0, .inr (.inl 86)), (2, .inl (gx_w (x2 + 1))), (1, .inl s0)]) (st' := []) (m' := m) ((26, .istore_n 1, 1, 0, 0, 0, 0), (0, 0, 0)) [((27, .iinc 2 1, 3, 0, 0, 0, 0), (0, 0, 0)), ((30, .goto (-26), 3, 0, 0, 0, 0), (0, 0, 0))] (by decide +kernel) rfl ?_
  exact hx_pick [0, 1, 2] h1

/-- areDone from 44 on -/
theorem hw214_44 {xs : List Int32} {n : Nat} {Q : hQ} {m : gx_M} {x1 : Int}
    (h1 : Q (some (.inl x1)) m) : hxn xs (n + 1) yp_m214 44 [(1, .inl x1)] [] m Q := by
  refine hx_blks (npc := 45) (L' := [(1, .inl x1)]) (st' := [.inl x1]) (m' := m) ((44, .iload_n 1, 1, 0, 0, 0, 0), (0, 0, 0)) [] (by decide +kernel) rfl ?_
  exact hx_reti (by decide +kernel) h1

/-- goesToNext from 0 on -/
theorem hw215_0 {xs : List Int32} {n : Nat} {Q : hQ} {m : gx_M}
    (h1 : hxn xs n yp_m215 7 [(0, .inr (.inl 86)), (1, .inl (gx_w ((m 86 32) - 2)))] [] m Q) : hxn xs (n + 1) yp_m215 0 [(0, .inr (.inl 86))] [] m Q := by
  refine hx_blks (npc := 7) (L' := [(0, .inr (.inl 86)), (1, .inl (gx_w ((m 86 32) - 2)))]) (st' := []) (m' := m) ((0, .aload_n 0, 1, 0, 0, 0, 0), (0, 0, 0)) [((1, .getfield 254, 3, 10, 32, 5145, 0), (0, 86, 0)), ((4, .iconst 2, 1, 0, 0, 0, 0), (0, 0, 0)), ((5, .isub, 1, 0, 0, 0, 0), (0, 0, 0)), ((6, .istore_n 1, 1, 0, 0, 0, 0), (0, 0, 0))] (by decide +kernel) rfl ?_
  exact hx_pick [0, 1] h1

/-- goesToNext from 7 on -/
theorem hw215_7 {xs : List Int32} {n : Nat} {Q : hQ} {m : gx_M} {x1 : Int}
    (h1 : (x1 < 0) → (x1 < 0) → Q (some (.inl 0)) m)
    (h2 : (0 ≤ x1) → ((m 109 (x1).toNat) ≤ (m 109 (gx_w (x1 + 1)).toNat)) → (0 ≤ x1) → hxn xs n yp_m215 48 [(0, .inr (.inl 86)), (1, .inl x1), (2, .inl (gx_w ((m 86 32) - 1)))] [] m Q)
    (h3 : (0 ≤ x1) → ((m 109 (gx_w (x1 + 1)).toNat) < (m 109 (x1).toNat)) → hxn xs n yp_m215 7 [(0, .inr (.inl 86)), (1, .inl (gx_w (x1 - 1)))] [] m Q) : hxn xs (n + 1) yp_m215 7 [(0, .inr (.inl 86)), (1, .inl x1)] [] m Q := by
  refine hx_blks (npc := 8) (L' := [(0, .inr (.inl 86)), (1, .inl x1)]) (st' := [.inl x1]) (m' := m) ((7, .iload_n 1, 1, 0, 0, 0, 0), (0, 0, 0)) [] (by decide +kernel) rfl ?_
  refine hx_if .lt 35 (by decide +kernel) (fun c1 => ?_) (fun c1 => ?_)
  · have c1 : x1 < 0 := c1
    refine hx_blk (npc := 36) (L' := [(0, .inr (.inl 86)), (1, .inl x1)]) (st' := [.inl x1]) (m' := m) [((35, .iload_n 1, 1, 0, 0, 0, 0), (0, 0, 0))] (by decide +kernel) rfl ?_
    refine hx_if .ge 41 (by decide +kernel) (fun c2 => ?_) (fun c2 => ?_)
    · have c2 : 0 ≤ x1 := c2
      exfalso; omega
    · have c2 : x1 < 0 := by have h : ¬ (0 ≤ x1) := c2; omega
      refine hx_blk (npc := 40) (L' := [(0, .inr (.inl 86)), (1, .inl x1)]) (st' := [.inl 0]) (m' := m) [((39, .iconst 0, 1, 0, 0, 0, 0), (0, 0, 0))] (by decide +kernel) rfl ?_
      exact hx_reti (by decide +kernel) (h1 c1 c2)
  · have c1 : 0 ≤ x1 := by have h : ¬ (x1 < 0) := c1; omega
    refine hx_blk (npc := 25) (L' := [(0, .inr (.inl 86)), (1, .inl x1)]) (st' := [.inl (m 109 (gx_w (x1 + 1)).toNat), .inl (m 109 (x1).toNat)]) (m' := m) [((11, .aload_n 0, 1, 0, 0, 0, 0), (0, 0, 0)), ((12, .getfield 77, 3, 10, 33, 5146, 0), (1, 86, 109)), ((15, .iload_n 1, 1, 0, 0, 0, 0), (0, 0, 0)), ((16, .iaload, 1, 0, 0, 0, 0), (0, 109, 0)), ((17, .aload_n 0, 1, 0, 0, 0, 0), (0, 0, 0)), ((18, .getfield 77, 3, 10, 33, 5146, 0), (1, 86, 109)), ((21, .iload_n 1, 1, 0, 0, 0, 0), (0, 0, 0)), ((22, .iconst 1, 1, 0, 0, 0, 0), (0, 0, 0)), ((23, .iadd, 1, 0, 0, 0, 0), (0, 0, 0)), ((24, .iaload, 1, 0, 0, 0, 0), (0, 109, 0))] (by decide +kernel) rfl ?_
    refine hx_cmp .le 35 (by decide +kernel) (fun c2 => ?_) (fun c2 => ?_)
    · have c2 : (m 109 (x1).toNat) ≤ (m 109 (gx_w (x1 + 1)).toNat) := c2
      refine hx_blk (npc := 36) (L' := [(0, .inr (.inl 86)), (1, .inl x1)]) (st' := [.inl x1]) (m' := m) [((35, .iload_n 1, 1, 0, 0, 0, 0), (0, 0, 0))] (by decide +kernel) rfl ?_
      refine hx_if .ge 41 (by decide +kernel) (fun c3 => ?_) (fun c3 => ?_)
      · have c3 : 0 ≤ x1 := c3
        refine hx_blk (npc := 48) (L' := [(0, .inr (.inl 86)), (1, .inl x1), (2, .inl (gx_w ((m 86 32) - 1)))]) (st' := []) (m' := m) [((41, .aload_n 0, 1, 0, 0, 0, 0), (0, 0, 0)), ((42, .getfield 254, 3, 10, 32, 5145, 0), (0, 86, 0)), ((45, .iconst 1, 1, 0, 0, 0, 0), (0, 0, 0)), ((46, .isub, 1, 0, 0, 0, 0), (0, 0, 0)), ((47, .istore_n 2, 1, 0, 0, 0, 0), (0, 0, 0))] (by decide +kernel) rfl ?_
        exact hx_pick [0, 1, 2] (h2 c1 c2 c3)
      · have c3 : x1 < 0 := by have h : ¬ (0 ≤ x1) := c3; omega
        exfalso; omega
    · have c2 : (m 109 (gx_w (x1 + 1)).toNat) < (m 109 (x1).toNat) := by have h : ¬ ((m 109 (x1).toNat) ≤ (m 109 (gx_w (x1 + 1)).toNat)) := c2; omega
      refine hx_blk (npc := 7) (L' := [(0, .inr (.inl 86)), (1, .inl (gx_w (x1 - 1)))]) (st' := []) (m' := m) [((28, .iload_n 1, 1, 0, 0, 0, 0), (0, 0, 0)), ((29, .iconst 1, 1, 0, 0, 0, 0), (0, 0, 0)), ((30, .isub, 1, 0, 0, 0, 0), (0, 0, 0)), ((31, .istore_n 1, 1, 0, 0, 0, 0), (0, 0, 0)), ((32, .goto (-25), 3, 0, 0, 0, 0), (0, 0, 0))] (by decide +kernel) rfl ?_
      exact hx_pick [0, 1] (h3 c1 c2)

/-- goesToNext from 48 on -/
theorem hw215_48 {xs : List Int32} {n : Nat} {Q : hQ} {m : gx_M} {x1 x2 : Int}
    (h1 : ((m 109 (x1).toNat) ≤ (m 109 (x2).toNat)) → hxn xs n yp_m216 0 [(0, .inr (.inl 86)), (1, .inl x1), (2, .inl x2)] [] m (fun r m' => hxn xs n yp_m215 76 [(0, .inr (.inl 86)), (1, .inl x1)] (hrs r ++ []) m' Q))
    (h2 : ((m 109 (x2).toNat) < (m 109 (x1).toNat)) → hxn xs n yp_m215 48 [(0, .inr (.inl 86)), (1, .inl x1), (2, .inl (gx_w (x2 - 1)))] [] m Q) : hxn xs (n + 1) yp_m215 48 [(0, .inr (.inl 86)), (1, .inl x1), (2, .inl x2)] [] m Q := by
  refine hx_blks (npc := 60) (L' := [(0, .inr (.inl 86)), (1, .inl x1), (2, .inl x2)]) (st' := [.inl (m 109 (x1).toNat), .inl (m 109 (x2).toNat)]) (m' := m) ((48, .aload_n 0, 1, 0, 0, 0, 0), (0, 0, 0)) [((49, .getfield 77, 3, 10, 33, 5146, 0), (1, 86, 109)), ((52, .iload_n 2, 1, 0, 0, 0, 0), (0, 0, 0)), ((53, .iaload, 1, 0, 0, 0, 0), (0, 109, 0)), ((54, .aload_n 0, 1, 0, 0, 0, 0), (0, 0, 0)), ((55, .getfield 77, 3, 10, 33, 5146, 0), (1, 86, 109)), ((58, .iload_n 1, 1, 0, 0, 0, 0), (0, 0, 0)), ((59, .iaload, 1, 0, 0, 0, 0), (0, 109, 0))] (by decide +kernel) rfl ?_
  refine hx_cmp .ge 70 (by decide +kernel) (fun c1 => ?_) (fun c1 => ?_)
  · have c1 : (m 109 (x1).toNat) ≤ (m 109 (x2).toNat) := c1
    refine hx_blk (npc := 73) (L' := [(0, .inr (.inl 86)), (1, .inl x1), (2, .inl x2)]) (st' := [.inl x2, .inl x1, .inr (.inl 86)]) (m' := m) [((70, .aload_n 0, 1, 0, 0, 0, 0), (0, 0, 0)), ((71, .iload_n 1, 1, 0, 0, 0, 0), (0, 0, 0)), ((72, .iload_n 2, 1, 0, 0, 0, 0), (0, 0, 0))] (by decide +kernel) rfl ?_
    exact hx_call (E := (73, .invokevirtual 294, 3, 216, 0, 6232, 0)) (M' := yp_m216) [.inr (.inl 86), .inl x1, .inl x2] [] rfl (by decide +kernel) rfl ⟨rfl, rfl⟩ rfl rfl (hx_mono (h1 c1) (fun r m' h' => hx_pick [0, 1] h'))
  · have c1 : (m 109 (x2).toNat) < (m 109 (x1).toNat) := by have h : ¬ ((m 109 (x1).toNat) ≤ (m 109 (x2).toNat)) := c1; omega
    refine hx_blk (npc := 48) (L' := [(0, .inr (.inl 86)), (1, .inl x1), (2, .inl (gx_w (x2 - 1)))]) (st' := []) (m' := m) [((63, .iload_n 2, 1, 0, 0, 0, 0), (0, 0, 0)), ((64, .iconst 1, 1, 0, 0, 0, 0), (0, 0, 0)), ((65, .isub, 1, 0, 0, 0, 0), (0, 0, 0)), ((66, .istore_n 2, 1, 0, 0, 0, 0), (0, 0, 0)), ((67, .goto (-19), 3, 0, 0, 0, 0), (0, 0, 0))] (by decide +kernel) rfl ?_
    exact hx_pick [0, 1, 2] (h2 c1)

/-- goesToNext from 76 on -/
theorem hw215_76 {xs : List Int32} {n : Nat} {Q : hQ} {m : gx_M} {x1 : Int}
    (h1 : hxn xs n yp_m215 88 [(0, .inr (.inl 86)), (3, .inl (gx_w (x1 + 1))), (4, .inl (gx_w ((m 86 32) - 1)))] [] m Q) : hxn xs (n + 1) yp_m215 76 [(0, .inr (.inl 86)), (1, .inl x1)] [] m Q := by
  refine hx_blks (npc := 88) (L' := [(0, .inr (.inl 86)), (1, .inl x1), (3, .inl (gx_w (x1 + 1))), (4, .inl (gx_w ((m 86 32) - 1)))]) (st' := []) (m' := m) ((76, .iload_n 1, 1, 0, 0, 0, 0), (0, 0, 0)) [((77, .iconst 1, 1, 0, 0, 0, 0), (0, 0, 0)), ((78, .iadd, 1, 0, 0, 0, 0), (0, 0, 0)), ((79, .istore_n 3, 1, 0, 0, 0, 0), (0, 0, 0)), ((80, .aload_n 0, 1, 0, 0, 0, 0), (0, 0, 0)), ((81, .getfield 254, 3, 10, 32, 5145, 0), (0, 86, 0)), ((84, .iconst 1, 1, 0, 0, 0, 0), (0, 0, 0)), ((85, .isub, 1, 0, 0, 0, 0), (0, 0, 0)), ((86, .istore 4, 2, 0, 0, 0, 0), (0, 0, 0))] (by decide +kernel) rfl ?_
  exact hx_pick [0, 3, 4] h1

/-- goesToNext from 88 on -/
theorem hw215_88 {xs : List Int32} {n : Nat} {Q : hQ} {m : gx_M} {x3 x4 : Int}
    (h1 : (x4 ≤ x3) → Q (some (.inl 1)) m)
    (h2 : (x3 < x4) → hxn xs n yp_m216 0 [(0, .inr (.inl 86)), (1, .inl x3), (2, .inl x4)] [] m (fun r m' => hxn xs n yp_m215 101 [(0, .inr (.inl 86)), (3, .inl x3), (4, .inl x4)] (hrs r ++ []) m' Q)) : hxn xs (n + 1) yp_m215 88 [(0, .inr (.inl 86)), (3, .inl x3), (4, .inl x4)] [] m Q := by
  refine hx_blks (npc := 91) (L' := [(0, .inr (.inl 86)), (3, .inl x3), (4, .inl x4)]) (st' := [.inl x4, .inl x3]) (m' := m) ((88, .iload_n 3, 1, 0, 0, 0, 0), (0, 0, 0)) [((89, .iload 4, 2, 0, 0, 0, 0), (0, 0, 0))] (by decide +kernel) rfl ?_
  refine hx_cmp .ge 114 (by decide +kernel) (fun c1 => ?_) (fun c1 => ?_)
  · have c1 : x4 ≤ x3 := c1
    refine hx_blk (npc := 115) (L' := [(0, .inr (.inl 86)), (3, .inl x3), (4, .inl x4)]) (st' := [.inl 1]) (m' := m) [((114, .iconst 1, 1, 0, 0, 0, 0), (0, 0, 0))] (by decide +kernel) rfl ?_
    exact hx_reti (by decide +kernel) (h1 c1)
  · have c1 : x3 < x4 := by have h : ¬ (x4 ≤ x3) := c1; omega
    refine hx_blk (npc := 98) (L' := [(0, .inr (.inl 86)), (3, .inl x3), (4, .inl x4)]) (st' := [.inl x4, .inl x3, .inr (.inl 86)]) (m' := m) [((94, .aload_n 0, 1, 0, 0, 0, 0), (0, 0, 0)), ((95, .iload_n 3, 1, 0, 0, 0, 0), (0, 0, 0)), ((96, .iload 4, 2, 0, 0, 0, 0), (0, 0, 0))] (by decide +kernel) rfl ?_
    exact hx_call (E := (98, .invokevirtual 294, 3, 216, 0, 6232, 0)) (M' := yp_m216) [.inr (.inl 86), .inl x3, .inl x4] [] rfl (by decide +kernel) rfl ⟨rfl, rfl⟩ rfl rfl (hx_mono (h2 c1) (fun r m' h' => hx_pick [0, 3, 4] h'))

/-- goesToNext from 101 on -/
theorem hw215_101 {xs : List Int32} {n : Nat} {Q : hQ} {m : gx_M} {x3 x4 : Int}
    (h1 : hxn xs n yp_m215 88 [(0, .inr (.inl 86)), (3, .inl (gx_w (x3 + 1))), (4, .inl (gx_w (x4 - 1)))] [] m Q) : hxn xs (n + 1) yp_m215 101 [(0, .inr (.inl 86)), (3, .inl x3), (4, .inl x4)] [] m Q := by
  refine hx_blks (npc := 88) (L' := [(0, .inr (.inl 86)), (3, .inl (gx_w (x3 + 1))), (4, .inl (gx_w (x4 - 1)))]) (st' := []) (m' := m) ((101, .iload_n 3, 1, 0, 0, 0, 0), (0, 0, 0)) [((102, .iconst 1, 1, 0, 0, 0, 0), (0, 0, 0)), ((103, .iadd, 1, 0, 0, 0, 0), (0, 0, 0)), ((104, .istore_n 3, 1, 0, 0, 0, 0), (0, 0, 0)), ((105, .iload 4, 2, 0, 0, 0, 0), (0, 0, 0)), ((107, .iconst 1, 1, 0, 0, 0, 0), (0, 0, 0)), ((108, .isub, 1, 0, 0, 0, 0), (0, 0, 0)), ((109, .istore 4, 2, 0, 0, 0, 0), (0, 0, 0)), ((111, .goto (-23), 3, 0, 0, 0, 0), (0, 0, 0))] (by decide +kernel) rfl ?_
  exact hx_pick [0, 3, 4] h1

/-- swaps from 0 on -/
theorem hw216_0 {xs : List Int32} {n : Nat} {Q : hQ} {m : gx_M} {x1 x2 : Int}
    (h1 : Q none (gx_u (gx_u m 109 (x1).toNat (m 109 (x2).toNat)) 109 (x2).toNat (m 109 (x1).toNat))) : hxn xs (n + 1) yp_m216 0 [(0, .inr (.inl 86)), (1, .inl x1), (2, .inl x2)] [] m Q := by
  refine hx_blks (npc := 26) (L' := [(0, .inr (.inl 86)), (1, .inl x1), (2, .inl x2), (3, .inl (m 109 (x1).toNat))]) (st' := []) (m' := (gx_u (gx_u m 109 (x1).toNat (m 109 (x2).toNat)) 109 (x2).toNat (m 109 (x1).toNat))) ((0, .aload_n 0, 1, 0, 0, 0, 0), (0, 0, 0)) [((1, .getfield 77, 3, 10, 33, 5146, 0), (1, 86, 109)), ((4, .iload_n 1, 1, 0, 0, 0, 0), (0, 0, 0)), ((5, .iaload, 1, 0, 0, 0, 0), (0, 109, 0)), ((6, .istore_n 3, 1, 0, 0, 0, 0), (0, 0, 0)), ((7, .aload_n 0, 1, 0, 0, 0, 0), (0, 0, 0)), ((8, .getfield 77, 3, 10, 33, 5146, 0), (1, 86, 109)), ((11, .iload_n 1, 1, 0, 0, 0, 0), (0, 0, 0)), ((12, .aload_n 0, 1, 0, 0, 0, 0), (0, 0, 0)), ((13, .getfield 77, 3, 10, 33, 5146, 0), (1, 86, 109)), ((16, .iload_n 2, 1, 0, 0, 0, 0), (0, 0, 0)), ((17, .iaload, 1, 0, 0, 0, 0), (0, 109, 0)), ((18, .iastore, 1, 0, 0, 0, 0), (0, 109, 0)), ((19, .aload_n 0, 1, 0, 0, 0, 0), (0, 0, 0)), ((20, .getfield 77, 3, 10, 33, 5146, 0), (1, 86, 109)), ((23, .iload_n 2, 1, 0, 0, 0, 0), (0, 0, 0)), ((24, .iload_n 3, 1, 0, 0, 0, 0), (0, 0, 0)), ((25, .iastore, 1, 0, 0, 0, 0), (0, 109, 0))] (by decide +kernel) rfl ?_
  exact hx_ret0 (by decide +kernel) h1
end
section
/-! in order: rows of acts, the least first; how the reference goes to the next one -/
def gN : List Nat → Nat → Nat
  | [], _ => 0
  | v :: _, 0 => v
  | _ :: t, k + 1 => gN t k
def pFr (g : Nat → List (List Nat)) : Nat → Nat → List (List Nat)
  | _, 0 => []
  | i, k + 1 => g i ++ pFr g (i + 1) k
/-- all rows of d numbers below n that u does not hold, none twice, the least first -/
def pE (n : Nat) : Nat → Nat → List (List Nat)
  | 0, _ => [[]]
  | d + 1, u => pFr (fun i => if u.testBit i = true then [] else (pE n d (u ||| 2 ^ i)).map (fun l => i :: l)) 0 n
def pG (n d u i : Nat) : List (List Nat) := if u.testBit i = true then [] else (pE n d (u ||| 2 ^ i)).map (fun l => i :: l)
theorem pE_s {n d u : Nat} : pE n (d + 1) u = pFr (pG n d u) 0 n := rfl
def sk (p : List Nat → Bool) : List (List Nat) → Option (List Nat)
  | [] => none
  | l :: t => if p l = true then some l else sk p t
theorem sk_app_n {p : List Nat → Bool} {b : List (List Nat)} : ∀ {a : List (List Nat)}, sk p a = none → sk p (a ++ b) = sk p b
  | [], _ => rfl
  | l :: t, h => by
    unfold sk at h
    by_cases c : p l = true
    · rw [if_pos c] at h
      cases h
    · rw [if_neg c] at h
      show (if p l = true then some l else sk p (t ++ b)) = _
      rw [if_neg c]
      exact sk_app_n h
theorem sk_app_s {p : List Nat → Bool} {b : List (List Nat)} {q : List Nat} : ∀ {a : List (List Nat)}, sk p a = some q → sk p (a ++ b) = some q
  | [], h => by cases h
  | l :: t, h => by
    unfold sk at h
    show (if p l = true then some l else sk p (t ++ b)) = _
    by_cases c : p l = true
    · rw [if_pos c] at h ⊢
      exact h
    · rw [if_neg c] at h ⊢
      exact sk_app_s h
theorem sk_no {p : List Nat → Bool} : ∀ {a : List (List Nat)}, (∀ l ∈ a, p l = false) → sk p a = none
  | [], _ => rfl
  | l :: t, h => by
    unfold sk
    rw [if_neg (by rw [h l (List.mem_cons_self ..)]; decide)]
    exact sk_no (fun q hq => h q (List.mem_cons_of_mem _ hq))
theorem sk_map {p q : List Nat → Bool} {i : Nat} (h : ∀ l, p (i :: l) = q l) : ∀ a : List (List Nat), sk p (a.map (fun l => i :: l)) = (sk q a).map (fun l => i :: l)
  | [] => rfl
  | l :: t => by
    show (if p (i :: l) = true then some (i :: l) else sk p (t.map (fun l => i :: l))) = (if q l = true then some l else sk q t).map (fun l => i :: l)
    rw [h l]
    by_cases c : q l = true
    · rw [if_pos c, if_pos c]
      rfl
    · rw [if_neg c, if_neg c]
      exact sk_map h t
theorem sk_mem {p : List Nat → Bool} {q : List Nat} : ∀ {a : List (List Nat)}, sk p a = some q → q ∈ a
  | [], h => by cases h
  | l :: t, h => by
    unfold sk at h
    by_cases c : p l = true
    · rw [if_pos c] at h
      cases h
      exact List.mem_cons_self ..
    · rw [if_neg c] at h
      exact List.mem_cons_of_mem _ (sk_mem h)
theorem sk_ext {p q : List Nat → Bool} (h : ∀ l, p l = q l) : ∀ a : List (List Nat), sk p a = sk q a
  | [] => rfl
  | l :: t => by
    unfold sk
    rw [h l, sk_ext h t]
/-! how the reference goes on -/
def nDn (r : Nat → Nat) : Nat → Option Nat
  | 0 => none
  | k + 1 => if r (k + 1) < r k then nDn r k else some k
def nUp (r : Nat → Nat) (v : Nat) : Nat → Nat
  | 0 => 0
  | q + 1 => if r (q + 1) < v then nUp r v q else q + 1
def nSw (r : Nat → Nat) (a b : Nat) : Nat → Nat := fun j => if j = b then r a else if j = a then r b else r j
def nRv : Nat → (Nat → Nat) → Nat → Nat → Nat → Nat
  | 0, r, _, _ => r
  | f + 1, r, a, b => if a < b then nRv f (nSw r a b) (a + 1) (b - 1) else r
def nNx (n : Nat) (r : Nat → Nat) : Option (Nat → Nat) := match nDn r (n - 1) with
  | none => none
  | some k => some (nRv 6 (nSw r k (nUp r (r k) (n - 1))) (k + 1) (n - 1))
def nEq (n : Nat) (r : Nat → Nat) (l : List Nat) : Bool := (List.range n).all (fun k => decide (r k = gN l k))
def nCk (n : Nat) : List Nat → List (List Nat) → Bool
  | l, [] => match nNx n (gN l) with
    | none => true
    | some _ => false
  | l, l' :: t => (match nNx n (gN l) with
    | none => false
    | some r => nEq n r l') && nCk n l' t
def nVl (n : Nat) (l : List Nat) : Bool := decide (l.length = n) && l.all (fun v => decide (v < n))
def pCk (n : Nat) : Bool := match pE n n 0 with
  | [] => false
  | l :: L => nEq n (fun k => k) l && nCk n l L && (l :: L).all (nVl n)
theorem pCk_1 : pCk 1 = true := by decide +kernel
theorem pCk_2 : pCk 2 = true := by decide +kernel
theorem pCk_3 : pCk 3 = true := by decide +kernel
theorem pCk_4 : pCk 4 = true := by decide +kernel
theorem pCk_5 : pCk 5 = true := by decide +kernel
theorem pCk_6 : pCk 6 = true := by decide +kernel
theorem pCk_n : ∀ n, 0 < n → n ≤ 6 → pCk n = true
  | 0, h, _ => absurd h (by decide)
  | 1, _, _ => pCk_1
  | 2, _, _ => pCk_2
  | 3, _, _ => pCk_3
  | 4, _, _ => pCk_4
  | 5, _, _ => pCk_5
  | 6, _, _ => pCk_6
  | n + 7, _, h => absurd h (by omega)
theorem nEq_k {n : Nat} {r : Nat → Nat} {l : List Nat} (h : nEq n r l = true) {k : Nat} (hk : k < n) : r k = gN l k := of_decide_eq_true (List.all_eq_true.mp h k (List.mem_range.mpr hk))
theorem pE_ck {n : Nat} (h0 : 0 < n) (h6 : n ≤ 6) : ∃ l L, pE n n 0 = l :: L ∧ (∀ k, k < n → gN l k = k) ∧ nCk n l L = true ∧ ∀ t ∈ l :: L, t.length = n ∧ ∀ v ∈ t, v < n := by
  have h := pCk_n n h0 h6
  unfold pCk at h
  split at h
  · cases h
  · rename_i l L e
    rw [Bool.and_eq_true, Bool.and_eq_true] at h
    refine ⟨l, L, e, fun k hk => (nEq_k h.1.1 hk).symm, h.1.2, fun t ht => ?_⟩
    have h2 := List.all_eq_true.mp h.2 t ht
    unfold nVl at h2
    rw [Bool.and_eq_true] at h2
    exact ⟨of_decide_eq_true h2.1, fun v hv => of_decide_eq_true (List.all_eq_true.mp h2.2 v hv)⟩
theorem ob_t : ∀ u, u < 64 → ∀ i, i < 6 → gx_and (gx_shr ((u : Nat) : Int) ((i : Nat) : Int)) 1 = (if u.testBit i = true then 1 else 0) ∧ gx_or ((u : Nat) : Int) (gx_shl 1 ((i : Nat) : Int)) = ((u ||| 2 ^ i : Nat) : Int) ∧ u ||| 2 ^ i < 64 := by decide +kernel
/-! rows of the state that are alike but for the hands -/
def sAl (s s' : Nat → Int) : Prop := ∀ k, k < 1131 → (k < 480 ∨ 1120 ≤ k) → s' k = s k
theorem sAl_r {s : Nat → Int} : sAl s s := fun _ _ _ => rfl
theorem sAl_t {s s1 s2 : Nat → Int} (h : sAl s s1) (h' : sAl s1 s2) : sAl s s2 := fun k a b => (h' k a b).trans (h k a b)
theorem su_al {s s' : Nat → Int} {i : Nat} {v v' : Int} (h : sAl s s') (e : v' = v) : sAl (su s i v) (su s' i v') := fun k a b => by
  unfold su
  rw [e, h k a b]
theorem sPwn_al {s s' : Nat → Int} {y : Nat} {p z : Int} (h : sAl s s') : sAl (sPwn s y p z) (sPwn s' y p z) := su_al (su_al (su_al h rfl) rfl) rfl
theorem sPay_al {s s' : Nat → Int} {p q : Nat} {z z' : Int} (hp : p < 8) (hq : q < 8) (e : z' = z) (h : sAl s s') : sAl (sPay s p q z) (sPay s' p q z') := by
  unfold sPay
  rw [e, h (1120 + p) (by omega) (by omega), h (1120 + q) (by omega) (by omega)]
  exact su_al (su_al h rfl) rfl
theorem sGo_al {s s' : Nat → Int} {y : Nat} {p : Int} (hy : y < 40) (h : sAl s s') : sAl (sGo s y p) (sGo s' y p) := by
  unfold sGo
  rw [h (400 + y) (by omega) (by omega)]
  split
  · exact sPwn_al (su_al h rfl)
  · exact su_al (su_al (sPwn_al (su_al h rfl)) rfl) rfl
theorem env_al {s s' : Nat → Int} {y : Nat} {p z : Int} (hy : y < 40) (hp : 0 ≤ p ∧ p < 8) (h : sAl s s') : env1 s' y p z = env1 s y p z := by
  have o : ∀ j, j < 40 → aOwn s' p j = aOwn s p j := fun j hj => by
    unfold aOwn
    rw [h (440 + j) (by omega) (by omega), h (240 + j) (by omega) (by omega)]
  funext c
  unfold env1 fct
  rw [h 1129 (by omega) (by omega), h y (by omega) (by omega), h (40 + y) (by omega) (by omega), h (80 + y) (by omega) (by omega), h (120 + y) (by omega) (by omega), h (160 + y) (by omega) (by omega), h (240 + y) (by omega) (by omega), h (400 + y) (by omega) (by omega), h (1120 + p.toNat) (by omega) (by omega), hcnt_ext 40 o, hOr_ext (f := aKn s' p y) (g := aKn s p y) (v := fun j => s' (80 + j)) (w := fun j => s (80 + j)) 40 (fun j hj => by unfold aKn; rw [o j hj]) (fun j hj => h (80 + j) (by omega) (by omega))]
theorem dCan_al {W : (Int → Int) → Int → Option Int} {s s' : Nat → Int} {a : hAct} (ha : aOK a) (h : sAl s s') : dCan W s' a ↔ dCan W s a := by
  obtain ⟨a1, a2, a3, a4, a5, a6⟩ := ha
  unfold dCan aPers
  rw [h (440 + a.1) (by omega) (by omega), h 1128 (by omega) (by omega), h (240 + a.1) (by omega) (by omega), h (280 + a.1) (by omega) (by omega), h (360 + a.1) (by omega) (by omega), h (1120 + a.2.1) (by omega) (by omega), h (1120 + a.2.2.2.1) (by omega) (by omega), env_al a1 (by omega) h]
theorem dDo_al {s s' : Nat → Int} {a : hAct} (ha : aOK a) (h : sAl s s') : sAl (dDo s a) (dDo s' a) := by
  obtain ⟨a1, a2, a3, a4, a5, a6⟩ := ha
  unfold dDo
  split
  · exact sPwn_al (sPay_al a2 a3 (h (360 + a.1) (by omega) (by omega)) h)
  · split
    · exact sPwn_al (sPay_al a3 a2 rfl h)
    · exact sGo_al a1 (sPay_al a3 a2 rfl h)
theorem dDo_off {s : Nat → Int} {a : hAct} {k : Nat} (hk : k < 480 ∨ 1120 ≤ k) (hm : 0 ≤ s (400 + a.1) ∧ s (400 + a.1) ≤ 16) (ha : aOK a) (e1 : k ≠ 1120 + a.2.1) (e2 : k ≠ 1120 + a.2.2.2.1) (e3 : k ≠ 240 + a.1) (e4 : k ≠ 280 + a.1) (e5 : k ≠ 320 + a.1) (e6 : k ≠ 360 + a.1) (e7 : k ≠ 400 + a.1) : dDo s a k = s k := by
  have a1 := ha.1
  unfold dDo
  split
  · unfold sPwn sPay
    rw [su_ne e6, su_ne e5, su_ne e4, su_ne e2, su_ne e1]
  · split
    · unfold sPwn sPay
      rw [su_ne e6, su_ne e5, su_ne e4, su_ne e1, su_ne e2]
    · unfold sGo
      have em : sPay s a.2.2.2.1 a.2.1 (a.2.2.2.2 : Int) (400 + a.1) = s (400 + a.1) := sPay_y (by omega)
      rw [em]
      split
      · unfold sPwn sPay
        rw [su_ne e6, su_ne e5, su_ne e4, su_ne e3, su_ne e1, su_ne e2]
      · unfold sPwn sPay
        rw [su_ne e7, su_ne (by omega), su_ne e6, su_ne e5, su_ne e4, su_ne e3, su_ne e1, su_ne e2]
/-- an act taken back (the hands stay) -/
def sRst (s1 s2 : Nat → Int) (a : hAct) : Nat → Int := su (su (su (su (su (su (su s2 (1120 + a.2.1) (s1 (1120 + a.2.1))) (1120 + a.2.2.2.1) (s1 (1120 + a.2.2.2.1))) (240 + a.1) (s1 (240 + a.1))) (280 + a.1) (s1 (280 + a.1))) (320 + a.1) (s1 (320 + a.1))) (360 + a.1) (s1 (360 + a.1))) (400 + a.1) (s1 (400 + a.1))
theorem sRst_al {s s1 s2 : Nat → Int} {a : hAct} (ha : aOK a) (hs : sOK s1) (h : sAl s s1) (h2 : sAl (dDo s1 a) s2) : sAl s (sRst s1 s2 a) := by
  intro k hk hc
  rw [← h k hk hc]
  unfold sRst
  by_cases e7 : k = 400 + a.1
  · rw [e7, su_self]
  rw [su_ne e7]
  by_cases e6 : k = 360 + a.1
  · rw [e6, su_self]
  rw [su_ne e6]
  by_cases e5 : k = 320 + a.1
  · rw [e5, su_self]
  rw [su_ne e5]
  by_cases e4 : k = 280 + a.1
  · rw [e4, su_self]
  rw [su_ne e4]
  by_cases e3 : k = 240 + a.1
  · rw [e3, su_self]
  rw [su_ne e3]
  by_cases e2 : k = 1120 + a.2.2.2.1
  · rw [e2, su_self]
  rw [su_ne e2]
  by_cases e1 : k = 1120 + a.2.1
  · rw [e1, su_self]
  rw [su_ne e1, h2 k hk hc]
  exact dDo_off hc (hs.many a.1 ha.1) ha e1 e2 e3 e4 e5 e6 e7
theorem sRst_ok {s1 s2 : Nat → Int} {a : hAct} (ha : aOK a) (h1 : sOK s1) (h2 : sOK s2) (e : s2 1128 = s1 1128) : sOK (sRst s1 s2 a) := by
  obtain ⟨a1, a2, a3, a4, a5, a6⟩ := ha
  refine sK_many a1 (h1.many a.1 a1) (sK_due a1 (h1.due a.1 a1) (sK_lent a1 (h1.lent a.1 a1) (sK_hold a1 (h1.hold a.1 a1) (sK_own a1 (h1.own a.1 a1) (sK_coin a3 (h1.coin _ a3) (fun c => ?_) (sK_coin a2 (h1.coin _ a2) (fun c => ?_) h2))))))
  · rw [su_ne (by omega), e] at c
    exact (h1.2.2.1 _ a3).2 c
  · rw [e] at c
    exact (h1.2.2.1 _ a2).2 c
/-- whether all acts of a row can be done, one behind the other -/
noncomputable def oK (W : (Int → Int) → Int → Option Int) (A : List hAct) : List Nat → (Nat → Int) → Bool
  | [], _ => true
  | i :: l, s => match A[i]? with
    | some a => if (aSt W s a).2 = 1 then oK W A l (aSt W s a).1 else false
    | none => false
section OK
variable {W : (Int → Int) → Int → Option Int} {A : List hAct} {i : Nat} {a : hAct}
theorem oK_s {l : List Nat} {s : Nat → Int} (h : A[i]? = some a) : oK W A (i :: l) s = if (aSt W s a).2 = 1 then oK W A l (aSt W s a).1 else false := by
  show (match A[i]? with
    | some a => if (aSt W s a).2 = 1 then oK W A l (aSt W s a).1 else false
    | none => false) = _
  rw [h]
theorem oK_t {l : List Nat} {s : Nat → Int} (h : A[i]? = some a) (c : dCan W s a) : oK W A (i :: l) s = oK W A l (dDo s a) := by
  rw [oK_s h, aSt_t c]
  exact if_pos rfl
theorem oK_f {l : List Nat} {s : Nat → Int} (h : A[i]? = some a) (c : ¬ dCan W s a) : oK W A (i :: l) s = false := by
  rw [oK_s h, aSt_f c]
  exact if_neg (show ¬ ((0 : Int) = 1) by decide)
theorem oK_al (ha : ∀ a ∈ A, aOK a) : ∀ (l : List Nat) (s s' : Nat → Int), sAl s s' → oK W A l s' = oK W A l s
  | [], _, _, _ => rfl
  | i :: l, s, s', h => by
    cases e : A[i]? with
    | none =>
      have : ∀ s : Nat → Int, oK W A (i :: l) s = false := fun s => by
        show (match A[i]? with
          | some a => if (aSt W s a).2 = 1 then oK W A l (aSt W s a).1 else false
          | none => false) = _
        rw [e]
      rw [this, this]
    | some a =>
      have hk := la_ok e ha
      by_cases c : dCan W s a
      · rw [oK_t e c, oK_t e ((dCan_al hk h).mpr c)]
        exact oK_al ha l _ _ (dDo_al hk h)
      · rw [oK_f e c, oK_f e (fun q => c ((dCan_al hk h).mp q))]
end OK
/-- what is answered -/
def oV (o : Option (List Nat)) (w : Int) : Int := match o with
  | some l => if w = -1 then 1 else ((gN l w.toNat : Nat) : Int)
  | none => if w = -1 then 0 else -2
theorem pFr_mem {g : Nat → List (List Nat)} {l : List Nat} : ∀ {k i : Nat}, l ∈ pFr g i k → ∃ j, l ∈ g j
  | 0, _, h => by cases h
  | k + 1, i, h => by
    rcases List.mem_append.mp h with h | h
    · exact ⟨i, h⟩
    · exact pFr_mem h
theorem pE_len {n : Nat} : ∀ {d u : Nat} {l : List Nat}, l ∈ pE n d u → l.length = d
  | 0, u, l, h => by
    have e : l = [] := List.mem_singleton.mp h
    rw [e]
    rfl
  | d + 1, u, l, h => by
    rw [pE_s] at h
    obtain ⟨j, h⟩ := pFr_mem h
    unfold pG at h
    split at h
    · cases h
    · obtain ⟨t, ht, rfl⟩ := List.mem_map.mp h
      rw [List.length_cons, pE_len ht]
end
section
/-! in order: the class looks for the least row -/
def cOg (d : Nat) (m m' : gx_M) : Prop := (∀ c k, (c < 31 ∨ 43 < c) → c ≠ 51 → c ≠ 67 → c ≠ 68 → ¬ (c = 44 ∧ 9 ≤ k ∧ k ≤ 11) → m' c k = m c k) ∧ (∀ k, k < d → m' 67 k = m 67 k) ∧ ∀ k, k < 7 * d → m' 68 k = m 68 k
theorem cOg_r {d : Nat} {m : gx_M} : cOg d m m := ⟨fun _ _ _ _ _ _ _ => rfl, fun _ _ => rfl, fun _ _ => rfl⟩
theorem cOg_t {d e : Nat} {m m1 m2 : gx_M} (hd : d ≤ e) (h : cOg d m m1) (h' : cOg e m1 m2) : cOg d m m2 := ⟨fun c k a b x y z => (h'.1 c k a b x y z).trans (h.1 c k a b x y z), fun k hk => (h'.2.1 k (by omega)).trans (h.2.1 k hk), fun k hk => (h'.2.2 k (by omega)).trans (h.2.2 k hk)⟩
theorem cOg_D {d : Nat} {m m' : gx_M} (h : cDf 31 m m') : cOg d m m' := ⟨fun c k a b _ _ z => h c k (by omega) b z, fun k _ => h 67 k (by decide) (by decide) (by omega), fun k _ => h 68 k (by decide) (by decide) (by omega)⟩
theorem cOg_A {d : Nat} {A : List hAct} {m m' : gx_M} (h : cOg d m m') (hA : cAc A m) : cAc A m' := by
  refine ⟨by rw [h.1 61 5 (by decide) (by decide) (by decide) (by decide) (by omega)]; exact hA.1, fun i a hi => ?_⟩
  rw [h.1 62 i (by decide) (by decide) (by decide) (by decide) (by omega), h.1 63 i (by decide) (by decide) (by decide) (by decide) (by omega), h.1 64 i (by decide) (by decide) (by decide) (by decide) (by omega), h.1 65 i (by decide) (by decide) (by decide) (by decide) (by omega), h.1 66 i (by decide) (by decide) (by decide) (by decide) (by omega)]
  exact hA.2 i a hi
theorem cOg_L {d : Nat} {xs : List Int32} {W : (Int → Int) → Int → Option Int} {m m' : gx_M} (h : cOg d m m') (hL : lawR xs W m) : lawR xs W m' := lawR_c (hPL_of (fun c k hc => h.1 c k (by omega) (by omega) (by omega) (by omega) (by omega))) hL
section FO
variable {xs : List Int32} {n : Nat} {m m0 : gx_M} {W : (Int → Int) → Int → Option Int} {A : List hAct} {i : Nat} {a : hAct} {d : Nat}
def svd (s : Nat → Int) (a : hAct) (d : Nat) (m : gx_M) : Prop := m 68 (7 * d) = s (1120 + a.2.1) ∧ m 68 (7 * d + 1) = s (1120 + a.2.2.2.1) ∧ m 68 (7 * d + 2) = s (240 + a.1) ∧ m 68 (7 * d + 3) = s (280 + a.1) ∧ m 68 (7 * d + 4) = s (320 + a.1) ∧ m 68 (7 * d + 5) = s (360 + a.1) ∧ m 68 (7 * d + 6) = s (400 + a.1)
theorem c141 {Q : hQ} {s : Nat → Int} (hA : cAc A m) (hi : A[i]? = some a) (h16 : A.length ≤ 16) (ha : aOK a) (hs : sOK s) (hB : sBk 31 s m) (ht : s (440 + a.1) = 1) (hd : d < 6) (h : ∀ m', (∀ c k, c ≠ 68 → m' c k = m c k) → (∀ k, k < 7 * d → m' 68 k = m 68 k) → svd s a d m' → Q none m') : hxn xs n yp_m141 0 [(0, .inr (.inl 61)), (1, .inr (.inl 31)), (2, .inl (i : Int)), (3, .inl ((7 * d : Nat) : Int))] [] m Q := by
  have hlt := lg_lt hi
  obtain ⟨v1, v2, v3, v4, v5⟩ := hA.2 i a hi
  obtain ⟨a1, a2, a3, a4, a5, a6⟩ := ha
  have k0 : (((7 * d : Nat) : Int)).toNat = 7 * d := by omega
  have k1 : (((7 * d : Nat) : Int) + 1).toNat = 7 * d + 1 := by omega
  have k2 : (((7 * d : Nat) : Int) + 2).toNat = 7 * d + 2 := by omega
  have k3 : (((7 * d : Nat) : Int) + 3).toNat = 7 * d + 3 := by omega
  have k4 : (((7 * d : Nat) : Int) + 4).toNat = 7 * d + 4 := by omega
  have k5 : (((7 * d : Nat) : Int) + 5).toNat = 7 * d + 5 := by omega
  have k6 : (((7 * d : Nat) : Int) + 6).toNat = 7 * d + 6 := by omega
  have ei : (((i : Nat) : Int)).toNat = i := by omega
  refine hx_dn (hr141_0 (by omega) (by omega) (fun _ _ _ _ _ => ?_) (fun _ _ _ _ c => ?_) (fun _ _ _ c => absurd c (by omega)))
  · rw [ei, v1, v2]
    refine hs31_62 hs hB (by omega) ?_
    rw [Int.toNat_natCast]
    refine hx_dn (hr141_57 (s1 := ((7 * d : Nat) : Int)) (s2 := s (1120 + a.2.1)) (by omega) (by omega) ?_)
    rw [ei, v4, k0]
    have hB1 : sBk 31 s (gx_u m 68 (7 * d) (s (1120 + a.2.1))) := sBk_c (fun c h1 h2 => gx_u_off (by omega)) hB
    refine hs31_62 hs hB1 (by omega) ?_
    rw [Int.toNat_natCast]
    refine hx_dn (hr141_75 (s1 := ((7 * d : Nat) : Int) + 1) (s2 := s (1120 + a.2.2.2.1)) (by omega) ?_)
    rw [Int.toNat_natCast, k1, k2, k3, k4, k5, k6, gx_u_off (by decide), gx_u_off (by decide), gx_u_off (by decide), gx_u_off (by decide), gx_u_off (by decide), sB31_own hB a.1 a1, sB31_hold hB a.1 a1 ht, sB31_lent hB a.1 a1, sB31_due hB a.1 a1, sB31_many hB a.1 a1]
    refine h _ (fun c k hc => ?_) (fun k hk => ?_) ⟨?_, ?_, ?_, ?_, ?_, ?_, ?_⟩
    · rw [gx_u_off hc, gx_u_off hc, gx_u_off hc, gx_u_off hc, gx_u_off hc, gx_u_off hc, gx_u_off hc]
    · rw [gx_u_ne (by omega), gx_u_ne (by omega), gx_u_ne (by omega), gx_u_ne (by omega), gx_u_ne (by omega), gx_u_ne (by omega), gx_u_ne (by omega)]
    · rw [gx_u_ne (by omega), gx_u_ne (by omega), gx_u_ne (by omega), gx_u_ne (by omega), gx_u_ne (by omega), gx_u_ne (by omega), gx_u_self]
    · rw [gx_u_ne (by omega), gx_u_ne (by omega), gx_u_ne (by omega), gx_u_ne (by omega), gx_u_ne (by omega), gx_u_self]
    · rw [gx_u_ne (by omega), gx_u_ne (by omega), gx_u_ne (by omega), gx_u_ne (by omega), gx_u_self]
    · rw [gx_u_ne (by omega), gx_u_ne (by omega), gx_u_ne (by omega), gx_u_self]
    · rw [gx_u_ne (by omega), gx_u_ne (by omega), gx_u_self]
    · rw [gx_u_ne (by omega), gx_u_self]
    · rw [gx_u_self]
  · rw [ei, v1] at c
    exact absurd ((cY_iff hB a1).mpr ht) c
theorem c142 {Q : hQ} {s1 s2 : Nat → Int} (hA : cAc A m) (hi : A[i]? = some a) (h16 : A.length ≤ 16) (ha : aOK a) (hB : sBk 31 s2 m) (ht : s2 (440 + a.1) = 1) (hp : aPers s2 (a.2.1 : Int)) (hq : aPers s2 (a.2.2.2.1 : Int)) (hd : d < 6) (hv : svd s1 a d m) (h : ∀ m', sBk 31 (sRst s1 s2 a) m' → bFr 31 m m' → Q none m') : hxn xs n yp_m142 0 [(0, .inr (.inl 61)), (1, .inr (.inl 31)), (2, .inl (i : Int)), (3, .inl ((7 * d : Nat) : Int))] [] m Q := by
  have hlt := lg_lt hi
  obtain ⟨v1, v2, v3, v4, v5⟩ := hA.2 i a hi
  obtain ⟨a1, a2, a3, a4, a5, a6⟩ := ha
  obtain ⟨w0, w1, w2, w3, w4, w5, w6⟩ := hv
  have k0 : (((7 * d : Nat) : Int)).toNat = 7 * d := by omega
  have k1 : (((7 * d : Nat) : Int) + 1).toNat = 7 * d + 1 := by omega
  have k2 : (((7 * d : Nat) : Int) + 2).toNat = 7 * d + 2 := by omega
  have k3 : (((7 * d : Nat) : Int) + 3).toNat = 7 * d + 3 := by omega
  have k4 : (((7 * d : Nat) : Int) + 4).toNat = 7 * d + 4 := by omega
  have k5 : (((7 * d : Nat) : Int) + 5).toNat = 7 * d + 5 := by omega
  have k6 : (((7 * d : Nat) : Int) + 6).toNat = 7 * d + 6 := by omega
  have ei : (((i : Nat) : Int)).toNat = i := by omega
  refine hx_dn (hr142_0 (by omega) (by omega) (fun _ _ _ _ _ _ _ => ?_) (fun _ _ _ _ _ _ c => ?_) (fun _ _ _ _ _ c => ?_) (fun _ _ _ _ c => ?_) (fun _ _ _ c => absurd c (by omega)))
  · rw [ei, v1, v2, v4, k0, k1, k2, k3, k4, k5, k6, w0, w1, w2, w3, w4, w5, w6, Int.toNat_natCast, Int.toNat_natCast, Int.toNat_natCast]
    exact h _ (sU_many (b := 31) a1 (sU_due (b := 31) a1 (sU_lent (b := 31) a1 (sU_hold (b := 31) a1 (sU_own (b := 31) a1 (sU_coin (b := 31) a3 (sU_coin (b := 31) a2 hB))))))) (bFr_t (bFr_t (bFr_t (bFr_t (bFr_t (bFr_t (bFr_u (by decide)) (bFr_u (by decide))) (bFr_u (by decide))) (bFr_u (by decide))) (bFr_u (by decide))) (bFr_u (by decide))) (bFr_u (by decide)))
  · rw [ei, v4] at c
    exact absurd ((cP_iff hB).mpr hq) c
  · rw [ei, v2] at c
    exact absurd ((cP_iff hB).mpr hp) c
  · rw [ei, v1] at c
    exact absurd ((cY_iff hB a1).mpr ht) c
theorem c140 (hL : lawR xs W m0) (hA : cAc A m0) (ha : ∀ a ∈ A, aOK a) (h6 : A.length ≤ 6) : ∀ (d e u : Nat) (s s1 : Nat → Int) (m : gx_M) (Q : hQ), e + d = A.length → u < 64 → sAl s s1 → sOK s1 → sBk 31 s1 m → cOg 0 m0 m → (∀ l m', sk (fun l => oK W A l s) (pE A.length d u) = some l → cOg e m m' → (∀ j, j < d → m' 67 (e + j) = ((gN l j : Nat) : Int)) → Q (some (.inl 1)) m') → (∀ m' s2, sk (fun l => oK W A l s) (pE A.length d u) = none → cOg e m m' → sAl s s2 → sOK s2 → sBk 31 s2 m' → Q (some (.inl 0)) m') → hxn xs n yp_m140 0 [(0, .inr (.inl 61)), (1, .inr (.inl 31)), (2, .inr (.inl 44)), (3, .inl (e : Int)), (4, .inl (u : Int))] [] m Q := by
  intro d
  induction d with
  | zero =>
    intro e u s s1 m Q he hu hs ho hB hf h1 h0
    have hn := (cOg_A hf hA).1
    refine hx_dn (hr140_0 (fun c => absurd c (by omega)) (fun c => absurd c (by omega)) (fun c => absurd c (by omega)) (fun _ => ?_))
    exact h1 [] m rfl cOg_r (fun j hj => absurd hj (by omega))
  | succ d ih =>
    intro e u s s1 m Q he hu hs ho hB hf h1 h0
    have hn := (cOg_A hf hA).1
    rw [pE_s] at h1 h0
    have loop : ∀ (k i : Nat) (s1 : Nat → Int) (mi : gx_M), i + k = A.length → sAl s s1 → sOK s1 → sBk 31 s1 mi → cOg e m mi → sk (fun l => oK W A l s) (pFr (pG A.length d u) 0 A.length) = sk (fun l => oK W A l s) (pFr (pG A.length d u) i k) → hxn xs n yp_m140 25 [(0, .inr (.inl 61)), (1, .inr (.inl 31)), (2, .inr (.inl 44)), (3, .inl (e : Int)), (4, .inl (u : Int)), (5, .inl (i : Int))] [] mi Q := by
      intro k
      induction k with
      | zero =>
        intro i s1 mi hi hs ho hB hfi hE
        have hni := (cOg_A (cOg_t (Nat.zero_le e) hf hfi) hA).1
        refine hx_dn (hr140_25 (fun _ => ?_) (fun c => absurd c (by omega)) (fun c => absurd c (by omega)) (fun c => absurd c (by omega)))
        exact h0 mi s1 (by rw [hE]; rfl) hfi hs ho hB
      | succ k ihk =>
        intro i s1 mi hi hs ho hB hfi hE
        have hf0 := cOg_t (Nat.zero_le e) hf hfi
        have hAi := cOg_A hf0 hA
        have hni := hAi.1
        obtain ⟨a, hia⟩ := la_some (A := A) (i := i) (by omega)
        have hak := la_ok hia ha
        obtain ⟨t1, t2, t3⟩ := ob_t u hu i (by omega)
        have hE' : sk (fun l => oK W A l s) (pG A.length d u i) = none → sk (fun l => oK W A l s) (pFr (pG A.length d u) 0 A.length) = sk (fun l => oK W A l s) (pFr (pG A.length d u) (i + 1) k) := fun q => hE.trans (sk_app_n q)
        refine hx_dn (hr140_25 (fun c => absurd c (by omega)) (fun _ c => absurd c (by omega)) (fun _ _ c => ?_) (fun _ _ c => ?_))
        · have tb : u.testBit i = true := by
            by_cases q : u.testBit i = true
            · exact q
            · rw [t1, if_neg q] at c
              exact absurd rfl c
          rw [ew_u (by omega)]
          refine ihk (i + 1) s1 mi (by omega) hs ho hB hfi (hE' ?_)
          unfold pG
          rw [if_pos tb]
          rfl
        · have tb : ¬ u.testBit i = true := by
            intro q
            rw [t1, if_pos q] at c
            exact absurd c (by decide)
          have eG : pG A.length d u i = (pE A.length d (u ||| 2 ^ i)).map (fun l => i :: l) := if_neg tb
          refine cd31_54 (cOg_L hf0 hL) hAi hia (by omega) hak ho hB (fun hc m1 f1 => ?_) (fun hc m1 f1 => ?_)
          · have hc' : dCan W s a := (dCan_al hak hs).mp hc
            have hB1 : sBk 31 s1 m1 := cLf_b (.inr rfl) f1 hB
            have hf1 : cOg e m m1 := cOg_t (Nat.le_refl e) hfi (cOg_D (cDf_f f1))
            have hA1 := cOg_A (cOg_t (Nat.zero_le e) hf hf1) hA
            refine hx_dn (hr140_59 (s0 := 1) (fun _ => ?_) (fun c => absurd c (by decide)))
            have e7 : gx_w ((e : Int) * 7) = ((7 * e : Nat) : Int) := by
              rw [gx_w_id (by omega) (by omega)]
              omega
            rw [e7]
            refine c141 hA1 hia (by omega) hak ho hB1 hc.1 (by omega) (fun m2 f2 g2 v2 => ?_)
            have hB2 : sBk 31 s1 m2 := sBk_c (fun c b1 b2 => funext (fun k => f2 c k (by omega))) hB1
            have hf2 : cOg e m m2 := cOg_t (Nat.le_refl e) hf1 ⟨fun c k _ _ _ x _ => f2 c k x, fun k _ => f2 67 k (by decide), g2⟩
            have hA2 := cOg_A (cOg_t (Nat.zero_le e) hf hf2) hA
            refine hx_dn (hr140_76 ?_)
            refine cd31_67 hA2 hia (by omega) hak ho hB2 hc (fun m3 hB3 f3 => ?_)
            have hf3 : cOg e m m3 := cOg_t (Nat.le_refl e) hf2 (cOg_D (cDf_b f3))
            have v3 : svd s1 a e m3 := by
              unfold svd
              rw [f3 68 (by decide)]
              exact v2
            refine hx_dn (hr140_83 ?_)
            rw [ew_u (by omega), t2, Int.toNat_natCast]
            have g4 : ∀ c k, c ≠ 67 → gx_u m3 67 e (i : Int) c k = m3 c k := fun c k x => congrFun (gx_u_off x) k
            have g5 : gx_u m3 67 e (i : Int) 67 e = (i : Int) := gx_u_self
            have hf4 : cOg e m (gx_u m3 67 e (i : Int)) := cOg_t (Nat.le_refl e) hf3 ⟨fun c k _ _ x _ _ => g4 c k x, fun k hk => gx_u_ne (by omega), fun k _ => g4 68 k (by decide)⟩
            have hB4 : sBk 31 (dDo s1 a) (gx_u m3 67 e (i : Int)) := sBk_c (fun c b1 b2 => gx_u_off (by omega)) hB3
            have v4 : svd s1 a e (gx_u m3 67 e (i : Int)) := by
              unfold svd
              rw [gx_u_off (c' := 68) (by decide)]
              exact v3
            have hsd : sAl (dDo s a) (dDo s1 a) := dDo_al hak hs
            have hod : sOK (dDo s1 a) := dDo_ok hak ho hc
            generalize gx_u m3 67 e (i : Int) = m4 at g5 hf4 hB4 v4 ⊢
            have eM : ∀ q, sk (fun l => oK W A l (dDo s a)) (pE A.length d (u ||| 2 ^ i)) = q → sk (fun l => oK W A l s) (pG A.length d u i) = q.map (fun l => i :: l) := fun q hq => by
              rw [eG, ← hq]
              exact sk_map (fun l => oK_t hia hc') _
            refine ih (e + 1) (u ||| 2 ^ i) (dDo s a) (dDo s1 a) m4 _ (by omega) t3 hsd hod hB4 (cOg_t (Nat.zero_le e) hf hf4) (fun l m5 hl f5 r5 => ?_) (fun m5 s2 hl f5 hs5 ho5 hB5 => ?_)
            · refine hx_dn (hr140_107 (s0 := 1) (fun c => absurd c (by decide)) (fun _ => ?_))
              refine h1 (i :: l) m5 (hE.trans (sk_app_s (eM _ hl))) (cOg_t (Nat.le_refl e) hf4 ⟨f5.1, fun k hk => f5.2.1 k (by omega), fun k hk => f5.2.2 k (by omega)⟩) (fun j hj => ?_)
              cases j with
              | zero => exact (f5.2.1 e (by omega)).trans g5
              | succ j =>
                have := r5 j (by omega)
                rw [show e + (j + 1) = e + 1 + j by omega]
                exact this
            · have f5' : cOg e m4 m5 := ⟨f5.1, fun k hk => f5.2.1 k (by omega), fun k hk => f5.2.2 k (by omega)⟩
              have hf5 : cOg e m m5 := cOg_t (Nat.le_refl e) hf4 f5'
              have hA5 := cOg_A (cOg_t (Nat.zero_le e) hf hf5) hA
              have v5 : svd s1 a e m5 := by
                unfold svd
                rw [f5.2.2 _ (by omega), f5.2.2 _ (by omega), f5.2.2 _ (by omega), f5.2.2 _ (by omega), f5.2.2 _ (by omega), f5.2.2 _ (by omega), f5.2.2 _ (by omega)]
                exact v4
              have hm1 := ho.many a.1 hak.1
              have k1 := hak.1
              have k2 := hak.2.1
              have k3 := hak.2.2.1
              have off : ∀ k, k = 1128 ∨ (440 ≤ k ∧ k < 480) → s2 k = s1 k := fun k hk => by
                have b := hs5 k (by omega) (by omega)
                have b2 := dDo_off (s := s) (a := a) (k := k) (by omega) (by have := hs (400 + a.1) (by omega) (by omega); omega) hak (by omega) (by omega) (by omega) (by omega) (by omega) (by omega) (by omega)
                rw [b, b2, hs k (by omega) (by omega)]
              have p1 := hc.2.1
              have p2 := hc.2.2.1
              unfold aPers at p1 p2
              refine hx_dn (hr140_107 (s0 := 0) (fun _ => ?_) (fun c => absurd rfl c))
              rw [e7]
              refine c142 hA5 hia (by omega) hak hB5 (by rw [off _ (by omega)]; exact hc.1) (by unfold aPers; rw [off 1128 (.inl rfl)]; exact p1) (by unfold aPers; rw [off 1128 (.inl rfl)]; exact p2) (by omega) v5 (fun m6 hB6 f6 => ?_)
              refine hx_dn (hr140_123 ?_)
              rw [ew_u (by omega)]
              refine ihk (i + 1) (sRst s1 s2 a) m6 (by omega) (sRst_al hak ho hs (fun k x y => (hs5 k x y).trans (hsd k x y).symm)) (sRst_ok hak ho ho5 (off 1128 (.inl rfl))) hB6 (cOg_t (Nat.le_refl e) hf5 (cOg_D (cDf_b f6))) (hE' (eM _ hl))
          · have hc' : ¬ dCan W s a := fun q => hc ((dCan_al hak hs).mpr q)
            refine hx_dn (hr140_59 (s0 := 0) (fun c => absurd rfl c) (fun _ => ?_))
            rw [ew_u (by omega)]
            refine ihk (i + 1) s1 m1 (by omega) hs ho (cLf_b (.inr rfl) f1 hB) (cOg_t (Nat.le_refl e) hfi (cOg_D (cDf_f f1))) (hE' ?_)
            rw [eG]
            refine sk_no (fun l hl => ?_)
            obtain ⟨t, -, rfl⟩ := List.mem_map.mp hl
            exact oK_f hia hc'
    refine hx_dn (hr140_0 (fun _ c => absurd c (by omega)) (fun _ _ _ => ?_) (fun _ _ c => absurd c (by omega)) (fun c => absurd c (by omega)))
    exact loop A.length 0 s1 m (Nat.zero_add _) hs ho hB cOg_r rfl
end FO
end
section
/-! in order: the reference goes through all rows -/
section NX
variable {xs : List Int32} {n : Nat} {Q : hQ} {m m0 : gx_M} {W : (Int → Int) → Int → Option Int} {A : List hAct}
theorem r214l (hL : lawR xs W m0) (hA : rAc A m0) (ha : ∀ a ∈ A, aOK a) (h16 : A.length ≤ 16) : ∀ (t : List Nat) (k : Nat) (m : gx_M), k + t.length = A.length → (∀ v ∈ t, v < A.length) → (∀ j, j < t.length → m0 109 (k + j) = ((gN t j : Nat) : Int)) → sOK (m 87) → rDf m0 m → (∀ m', rDf m0 m' → Q (some (.inl (if oK W A t (m 87) = true then 1 else 0))) (hcopy m' 88 0 87 0 1131)) → hxn xs n yp_m214 4 [(0, .inr (.inl 86)), (1, .inl 1), (2, .inl (k : Int))] [] m Q
  | [], k, m, hk, hv, hr, hs, hf, h => by
    have hn := (rAc_f hf hA).1
    have hk' : k = A.length := hk
    refine hx_dn (hw214_4 (fun _ => ?_) (fun c => absurd c (by omega)) (fun c => absurd c (by omega)))
    exact hs212_88_87 (hx_dn (hw214_44 (h m hf)))
  | v :: t, k, m, hk, hv, hr, hs, hf, h => by
    have hA' := rAc_f hf hA
    have hn := hA'.1
    have hk' : k + (t.length + 1) = A.length := hk
    have hv0 := hv v (List.mem_cons_self ..)
    obtain ⟨a, hi⟩ := la_some (A := A) (i := v) hv0
    have e0 : m 109 k = (v : Int) := by
      rw [hf 109 (by decide) (by decide) (by decide)]
      exact hr 0 (Nat.succ_pos _)
    refine hx_dn (hw214_4 (fun c => absurd c (by omega)) (fun _ c => absurd c (by decide)) (fun _ _ => ?_))
    rw [Int.toNat_natCast, e0]
    refine r195 (lawR_c (rDf_L hf) hL) hA' hi h16 (la_ok hi ha) hs (fun c m1 f1 h1 => ?_) (fun c m1 f1 h1 => ?_)
    · rw [oK_t hi c] at h
      refine hx_dn (hw214_26 (s0 := 1) ?_)
      rw [ew_u (by omega)]
      exact r214l hL hA ha h16 t (k + 1) m1 (by omega) (fun q hq => hv q (List.mem_cons_of_mem _ hq)) (fun j hj => by
        have := hr (j + 1) (Nat.succ_lt_succ hj)
        rw [show k + 1 + j = k + (j + 1) by omega]
        exact this) (by rw [h1]; exact dDo_ok (la_ok hi ha) hs c) (rDf_t hf f1) (by rw [h1]; exact h)
    · rw [oK_f hi c] at h
      have fin : hxn xs n yp_m212 0 [(0, .inr (.inl 88)), (1, .inr (.inl 87))] [] m1 (fun r m' => hxn xs n yp_m214 44 [(1, .inl 0)] (hrs r ++ []) m' Q) := hs212_88_87 (hx_dn (hw214_44 (h m1 (rDf_t hf f1))))
      refine hx_dn (hw214_26 (s0 := 0) ?_)
      exact hx_dn (hw214_4 (fun _ => fin) (fun _ _ => fin) (fun _ c => absurd rfl c))
/-! the next row -/
theorem r216 {a b : Nat} (h : Q none (gx_u (gx_u m 109 a (m 109 b)) 109 b (m 109 a))) : hxn xs n yp_m216 0 [(0, .inr (.inl 86)), (1, .inl (a : Int)), (2, .inl (b : Int))] [] m Q := by
  refine hx_dn (hw216_0 ?_)
  rw [Int.toNat_natCast, Int.toNat_natCast]
  exact h
def rRow (N : Nat) (r : Nat → Nat) (m : gx_M) : Prop := ∀ k, k < N → m 109 k = ((r k : Nat) : Int)
theorem rRow_sw {N a b : Nat} {r : Nat → Nat} (ha : a < N) (hb : b < N) (h : rRow N r m) : rRow N (nSw r a b) (gx_u (gx_u m 109 a (m 109 b)) 109 b (m 109 a)) := by
  intro k hk
  unfold nSw
  by_cases e1 : k = b
  · rw [if_pos e1, e1, gx_u_self]
    exact h a ha
  · rw [if_neg e1, gx_u_ne (by omega)]
    by_cases e2 : k = a
    · rw [if_pos e2, e2, gx_u_self]
      exact h b hb
    · rw [if_neg e2, gx_u_ne (by omega)]
      exact h k hk
theorem r215c {N : Nat} (hN : N ≤ 6) : ∀ (f : Nat) (r : Nat → Nat) (a b : Nat) (m : gx_M), a ≤ N → b < N → b ≤ a + f → rRow N r m → (∀ m', rRow N (nRv f r a b) m' → (∀ c, c ≠ 109 → m' c = m c) → Q (some (.inl 1)) m') → hxn xs n yp_m215 88 [(0, .inr (.inl 86)), (3, .inl (a : Int)), (4, .inl (b : Int))] [] m Q := by
  intro f
  induction f with
  | zero =>
    intro r a b m ha hb hf hr h
    exact hx_dn (hw215_88 (fun _ => h m hr (fun _ _ => rfl)) (fun c => absurd c (by omega)))
  | succ f ih =>
    intro r a b m ha hb hf hr h
    unfold nRv at h
    refine hx_dn (hw215_88 (fun c => ?_) (fun c => ?_))
    · rw [if_neg (by omega)] at h
      exact h m hr (fun _ _ => rfl)
    · rw [if_pos (by omega)] at h
      refine r216 (hx_dn (hw215_101 ?_))
      rw [ew_u (by omega), gx_w_id (x := (b : Int) - 1) (by omega) (by omega), show (b : Int) - 1 = ((b - 1 : Nat) : Int) by omega]
      exact ih (nSw r a b) (a + 1) (b - 1) _ (by omega) (by omega) (by omega) (rRow_sw (by omega) hb hr) (fun m' h1 h2 => h m' h1 (fun c hc => by rw [h2 c hc, gx_u_off hc, gx_u_off hc]))
theorem r215b {N k : Nat} {r : Nat → Nat} (hN : N ≤ 6) (h32 : m 86 32 = (N : Int)) (hk : k + 1 < N) (hr : rRow N r m) (hle : r k ≤ r (k + 1)) (h : ∀ m', rRow N (nRv 6 (nSw r k (nUp r (r k) (N - 1))) (k + 1) (N - 1)) m' → (∀ c, c ≠ 109 → m' c = m c) → Q (some (.inl 1)) m') : ∀ j q : Nat, q = k + 1 + j → q < N → nUp r (r k) (N - 1) = nUp r (r k) q → hxn xs n yp_m215 48 [(0, .inr (.inl 86)), (1, .inl (k : Int)), (2, .inl (q : Int))] [] m Q := by
  have go : ∀ q, k < q → q < N → r k ≤ r q → nUp r (r k) (N - 1) = nUp r (r k) q → hxn xs n yp_m216 0 [(0, .inr (.inl 86)), (1, .inl (k : Int)), (2, .inl (q : Int))] [] m (fun rr m' => hxn xs n yp_m215 76 [(0, .inr (.inl 86)), (1, .inl (k : Int))] (hrs rr ++ []) m' Q) := fun q hq hqN hrq hU => by
    obtain ⟨p, rfl⟩ : ∃ p, q = p + 1 := ⟨q - 1, by omega⟩
    have e : nUp r (r k) (p + 1) = p + 1 := by
      unfold nUp
      rw [if_neg (by omega)]
    rw [hU, e] at h
    refine r216 (hx_dn (hw215_76 ?_))
    rw [gx_u_off (c' := 86) (by decide), gx_u_off (c' := 86) (by decide), h32, ew_u (by omega), gx_w_id (x := (N : Int) - 1) (by omega) (by omega), show (N : Int) - 1 = ((N - 1 : Nat) : Int) by omega]
    exact r215c hN 6 _ (k + 1) (N - 1) _ (by omega) (by omega) (by omega) (rRow_sw (by omega) hqN hr) (fun m' h1 h2 => h m' h1 (fun c hc => by rw [h2 c hc, gx_u_off hc, gx_u_off hc]))
  intro j
  induction j with
  | zero =>
    intro q hq hqN hU
    have e1 := hr k (by omega)
    have e2 := hr q hqN
    subst hq
    refine hx_dn (hw215_48 (fun _ => go _ (by omega) hqN hle hU) (fun c => ?_))
    rw [Int.toNat_natCast, Int.toNat_natCast, e1, e2] at c
    have hle' : r k ≤ r (k + 1 + 0) := hle
    exact absurd c (by omega)
  | succ j ih =>
    intro q hq hqN hU
    have e1 := hr k (by omega)
    have e2 := hr q hqN
    refine hx_dn (hw215_48 (fun c => ?_) (fun c => ?_))
    · rw [Int.toNat_natCast, Int.toNat_natCast, e1, e2] at c
      exact go q (by omega) hqN (by omega) hU
    · rw [Int.toNat_natCast, Int.toNat_natCast, e1, e2] at c
      obtain ⟨p, rfl⟩ : ∃ p, q = p + 1 := ⟨q - 1, by omega⟩
      rw [gx_w_id (by omega) (by omega), show ((p + 1 : Nat) : Int) - 1 = (p : Int) by omega]
      refine ih p (by omega) (by omega) (hU.trans ?_)
      show (if r (p + 1) < r k then nUp r (r k) p else p + 1) = _
      rw [if_pos (by omega)]
theorem r215a {N : Nat} {r : Nat → Nat} (hN : N ≤ 6) (h32 : m 86 32 = (N : Int)) (hr : rRow N r m) (h0 : nNx N r = none → Q (some (.inl 0)) m) (h1 : ∀ r' m', nNx N r = some r' → rRow N r' m' → (∀ c, c ≠ 109 → m' c = m c) → Q (some (.inl 1)) m') : ∀ k : Nat, k < N → nDn r (N - 1) = nDn r k → ∀ x : Int, x = (k : Int) - 1 → hxn xs n yp_m215 7 [(0, .inr (.inl 86)), (1, .inl x)] [] m Q := by
  intro k
  induction k with
  | zero =>
    intro hk hD x hx
    refine hx_dn (hw215_7 (fun _ _ => h0 ?_) (fun c => absurd c (by omega)) (fun c => absurd c (by omega)))
    unfold nNx
    rw [hD]
    rfl
  | succ k ih =>
    intro hk hD x hx
    obtain rfl : x = (k : Int) := by omega
    have e1 := hr k (by omega)
    have e2 := hr (k + 1) (by omega)
    refine hx_dn (hw215_7 (fun c => absurd c (by omega)) (fun _ c _ => ?_) (fun _ c => ?_))
    · rw [ew_u (by omega), Int.toNat_natCast, Int.toNat_natCast, e1, e2] at c
      have hD2 : nDn r (k + 1) = some k := by
        unfold nDn
        rw [if_neg (by omega)]
      rw [h32, gx_w_id (x := (N : Int) - 1) (by omega) (by omega), show (N : Int) - 1 = ((N - 1 : Nat) : Int) by omega]
      refine r215b hN h32 hk hr (by omega) (fun m' q1 q2 => h1 _ m' ?_ q1 q2) (N - 1 - (k + 1)) (N - 1) (by omega) (by omega) rfl
      unfold nNx
      rw [hD, hD2]
    · rw [ew_u (by omega), Int.toNat_natCast, Int.toNat_natCast, e1, e2] at c
      rw [gx_w_id (x := (k : Int) - 1) (by omega) (by omega)]
      refine ih (by omega) (hD.trans ?_) _ rfl
      show (if r (k + 1) < r k then nDn r k else some k) = _
      rw [if_pos (by omega)]
theorem r215 {N : Nat} {r : Nat → Nat} (h1N : 1 ≤ N) (hN : N ≤ 6) (h32 : m 86 32 = (N : Int)) (hr : rRow N r m) (h0 : nNx N r = none → Q (some (.inl 0)) m) (h1 : ∀ r' m', nNx N r = some r' → rRow N r' m' → (∀ c, c ≠ 109 → m' c = m c) → Q (some (.inl 1)) m') : hxn xs n yp_m215 0 [(0, .inr (.inl 86))] [] m Q := by
  refine hx_dn (hw215_0 ?_)
  rw [h32]
  exact r215a hN h32 hr h0 h1 (N - 1) (by omega) rfl _ (by rw [gx_w_id (by omega) (by omega)]; omega)
/-! all rows, one behind the other -/
def rOf (m m' : gx_M) : Prop := ∀ c, c ≠ 87 → c ≠ 102 → c ≠ 103 → c ≠ 109 → m' c = m c
theorem rOf_t {m m1 m2 : gx_M} (h : rOf m m1) (h' : rOf m1 m2) : rOf m m2 := fun c a b d e => (h' c a b d e).trans (h c a b d e)
theorem rOf_D {m m1 : gx_M} (h : rDf m m1) : rOf m m1 := fun c a b d _ => h c a b d
theorem rOf_A {m m' : gx_M} (h : rOf m m') (hA : rAc A m) : rAc A m' := by
  unfold rAc
  rw [h 86 (by decide) (by decide) (by decide) (by decide), h 104 (by decide) (by decide) (by decide) (by decide), h 105 (by decide) (by decide) (by decide) (by decide), h 106 (by decide) (by decide) (by decide) (by decide), h 107 (by decide) (by decide) (by decide) (by decide), h 108 (by decide) (by decide) (by decide) (by decide)]
  exact hA
theorem rOf_L {m m' : gx_M} (h : rOf m m') (hL : lawR xs W m) : lawR xs W m' := lawR_c (hPL_of (fun c k hc => congrFun (h c (by omega) (by omega) (by omega) (by omega)) k)) hL
theorem r214 {s : Nat → Int} {l : List Nat} (hL : lawR xs W m0) (hA : rAc A m0) (ha : ∀ a ∈ A, aOK a) (h16 : A.length ≤ 16) (hl : l.length = A.length) (hv : ∀ v ∈ l, v < A.length) (hr : rRow A.length (gN l) m) (hs : sOK s) (h87 : ∀ k, k < 1131 → m 87 k = s k) (h88 : ∀ k, k < 1131 → m0 88 k = s k) (hf : rOf m0 m) (h : ∀ m', rOf m0 m' → rRow A.length (gN l) m' → (∀ k, k < 1131 → m' 87 k = s k) → Q (some (.inl (if oK W A l s = true then 1 else 0))) m') : hxn xs n yp_m214 0 [(0, .inr (.inl 86))] [] m Q := by
  have eK : oK W A l (m 87) = oK W A l s := oK_al ha l s (m 87) (fun k hk _ => h87 k hk)
  refine hx_dn (hw214_0 ?_)
  refine r214l (rOf_L hf hL) (rOf_A hf hA) ha h16 l 0 m (by omega) hv (fun j hj => by rw [Nat.zero_add]; exact hr j (by omega)) (sOK_s h87 hs) rDf_r (fun m' f' => ?_)
  rw [eK]
  have f88 : ∀ k, k < 1131 → m' 88 k = s k := fun k hk => by
    rw [f' 88 (by decide) (by decide) (by decide), hf 88 (by decide) (by decide) (by decide) (by decide)]
    exact h88 k hk
  refine h _ (fun c a b d e => ?_) (fun k hk => ?_) (fun k hk => ?_)
  · funext k
    rw [hcopy_ne a, f' c a b d, hf c a b d e]
  · rw [hcopy_ne (by decide), f' 109 (by decide) (by decide) (by decide)]
    exact hr k hk
  · rw [hcopy_at hk]
    exact f88 k hk
theorem r213l {s : Nat → Int} {w : Int} (hL : lawR xs W m0) (hA : rAc A m0) (ha : ∀ a ∈ A, aOK a) (h1 : 1 ≤ A.length) (h6 : A.length ≤ 6) (hs : sOK s) (hw : -1 ≤ w ∧ w < A.length) (h88 : ∀ k, k < 1131 → m0 88 k = s k) (h : ∀ m' v, v = oV (sk (fun l => oK W A l s) (pE A.length A.length 0)) w → rOf m0 m' → (∀ k, k < 1131 → m' 87 k = s k) → Q (some (.inl v)) m') : ∀ (L : List (List Nat)) (l : List Nat) (m : gx_M), nCk A.length l L = true → (∀ t ∈ l :: L, t.length = A.length ∧ ∀ v ∈ t, v < A.length) → rRow A.length (gN l) m → rOf m0 m → (∀ k, k < 1131 → m 87 k = s k) → sk (fun l => oK W A l s) (pE A.length A.length 0) = sk (fun l => oK W A l s) (l :: L) → hxn xs n yp_m213 99 [(0, .inr (.inl 86)), (2, .inl w), (3, .inl (if oK W A l s = true then 1 else 0))] [] m Q := by
  intro L
  have yes : ∀ (L : List (List Nat)) (l : List Nat) (m : gx_M), rRow A.length (gN l) m → rOf m0 m → (∀ k, k < 1131 → m 87 k = s k) → sk (fun l => oK W A l s) (pE A.length A.length 0) = sk (fun l => oK W A l s) (l :: L) → oK W A l s = true → hxn xs n yp_m213 99 [(0, .inr (.inl 86)), (2, .inl w), (3, .inl 1)] [] m Q := fun L l m hr hf h87 hE c => by
    have e : sk (fun l => oK W A l s) (pE A.length A.length 0) = some l := hE.trans (if_pos c)
    rw [e] at h
    refine hx_dn (hw213_99 (fun _ _ x => absurd x (by decide)) (fun _ x _ => ?_) (fun _ _ x => absurd x (by decide)) (fun _ x _ => ?_) (fun x => absurd x (by decide)))
    · refine h m _ ?_ hf h87
      unfold oV
      dsimp only
      rw [if_neg x]
      exact hr _ (by omega)
    · refine h m _ ?_ hf h87
      unfold oV
      dsimp only
      rw [if_pos x]
  induction L with
  | nil =>
    intro l m hC hV hr hf h87 hE
    have hn := (rOf_A hf hA).1
    by_cases c : oK W A l s = true
    · rw [if_pos c]
      exact yes [] l m hr hf h87 hE c
    · have e : sk (fun l => oK W A l s) (pE A.length A.length 0) = none := hE.trans (if_neg c)
      rw [e] at h
      rw [if_neg c]
      refine hx_dn (hw213_99 (fun x => absurd rfl x) (fun x => absurd rfl x) (fun x => absurd rfl x) (fun x => absurd rfl x) (fun _ => ?_))
      refine r215 h1 h6 hn hr (fun hN => ?_) (fun r' m' hN hr' f' => ?_)
      · refine hx_dn (hw213_107 (s0 := 0) (fun _ x _ => ?_) (fun _ _ x => absurd rfl x) (fun _ x _ => ?_) (fun _ _ x => absurd rfl x) (fun x => absurd rfl x))
        · refine h m _ ?_ hf h87
          unfold oV
          dsimp only
          rw [if_neg x]
        · refine h m _ ?_ hf h87
          unfold oV
          dsimp only
          rw [if_pos x]
      · unfold nCk at hC
        rw [hN] at hC
        cases hC
  | cons l' L ih =>
    intro l m hC hV hr hf h87 hE
    have hn := (rOf_A hf hA).1
    by_cases c : oK W A l s = true
    · rw [if_pos c]
      exact yes (l' :: L) l m hr hf h87 hE c
    · have hE' := hE.trans (if_neg c)
      rw [if_neg c]
      refine hx_dn (hw213_99 (fun x => absurd rfl x) (fun x => absurd rfl x) (fun x => absurd rfl x) (fun x => absurd rfl x) (fun _ => ?_))
      refine r215 h1 h6 hn hr (fun hN => ?_) (fun r' m' hN hr' f' => ?_)
      · unfold nCk at hC
        rw [hN] at hC
        cases hC
      · unfold nCk at hC
        rw [hN] at hC
        have hC2 : (nEq A.length r' l' && nCk A.length l' L) = true := hC
        rw [Bool.and_eq_true] at hC2
        obtain ⟨q1, q2⟩ := hC2
        have hV' := hV l' (List.mem_cons_of_mem _ (List.mem_cons_self ..))
        have fo : rOf m0 m' := fun c a b d e => (f' c e).trans (hf c a b d e)
        refine hx_dn (hw213_107 (s0 := 1) (fun x => absurd x (by decide)) (fun x => absurd x (by decide)) (fun x => absurd x (by decide)) (fun x => absurd x (by decide)) (fun _ => ?_))
        refine r214 (l := l') hL hA ha (by omega) hV'.1 hV'.2 (fun k hk => by rw [hr' k hk, nEq_k q1 hk]) hs (fun k hk => by rw [f' 87 (by decide)]; exact h87 k hk) h88 fo (fun m2 g1 g2 g3 => ?_)
        refine hx_dn (hw213_114 ?_)
        exact ih l' m2 q2 (fun t ht => hV t (List.mem_cons_of_mem _ ht)) g2 g1 g3 hE'
end NX
end
section
/-! inOrder: by both -/
section IO
variable {xs : List Int32} {n : Nat} {Q : hQ} {m m0 : gx_M} {W : (Int → Int) → Int → Option Int} {A : List hAct}
theorem r213k {N : Nat} {w : Int} (h32 : m0 86 32 = (N : Int)) (hN : N ≤ 6) (h : ∀ m', (∀ k, k < N → m' 109 k = (k : Int)) → (∀ c, c ≠ 109 → m' c = m0 c) → hxn xs n yp_m214 0 [(0, .inr (.inl 86))] [] m' (fun r m2 => hxn xs n yp_m213 98 [(0, .inr (.inl 86)), (2, .inl w)] (hrs r ++ []) m2 Q)) : ∀ (d k : Nat) (m : gx_M), k + d = N → (∀ j, j < k → m 109 j = (j : Int)) → (∀ c, c ≠ 109 → m c = m0 c) → hxn xs n yp_m213 73 [(0, .inr (.inl 86)), (2, .inl w), (3, .inl (k : Int))] [] m Q := by
  intro d
  induction d with
  | zero =>
    intro k m hk hr hf
    have hn : m 86 32 = (N : Int) := by rw [hf 86 (by decide)]; exact h32
    exact hx_dn (hw213_73 (fun _ => h m (fun j hj => hr j (by omega)) hf) (fun c => absurd c (by omega)))
  | succ d ih =>
    intro k m hk hr hf
    have hn : m 86 32 = (N : Int) := by rw [hf 86 (by decide)]; exact h32
    refine hx_dn (hw213_73 (fun c => absurd c (by omega)) (fun _ => ?_))
    rw [ew_u (by omega), Int.toNat_natCast]
    refine ih (k + 1) _ (by omega) (fun j hj => ?_) (fun c hc => by rw [gx_u_off hc]; exact hf c hc)
    by_cases e : j = k
    · rw [e, gx_u_self]
    · rw [gx_u_ne (by omega)]
      exact hr j (by omega)
theorem ww_inorder {a w : Int} (hT : hTp m) (hR : hWr xs m) : hxn xs n yp_m139 0 [(0, .inr (.inl 0)), (1, .inl a), (2, .inl w)] [] m (fun r1 m1 => hxn xs n yp_m213 0 [(0, .inr (.inl 86)), (1, .inl a), (2, .inl w)] [] m1 (fun r2 m2 => hWr xs m2 ∧ r2 = r1)) := by
  have hR' := hR
  obtain ⟨h1, h2, h3, h4, ⟨W, h5⟩, h6⟩ := hR
  obtain ⟨t1, t2, t3, t4⟩ := hT
  refine hx_dn (hv139_0 ?_)
  have bad : ¬ (1 ≤ a ∧ a ≤ 160 ∧ a ≤ m 1 1) → hxn xs n yp_m139 11 [(0, .inr (.inl 0)), (1, .inl a), (2, .inl w)] [.inl 0] m (fun r1 m1 => hxn xs n yp_m213 0 [(0, .inr (.inl 86)), (1, .inl a), (2, .inl w)] [] m1 (fun r2 m2 => hWr xs m2 ∧ r2 = r1)) := fun hN =>
    hx_dn (hv139_11 (s0 := 0) (fun c => absurd rfl c) (fun _ => hx_dn (hw213_0 (fun c1 c2 => absurd ⟨c1.1, c1.2, by omega⟩ hN) (fun _ _ => ⟨hR', rfl⟩) (fun _ => ⟨hR', rfl⟩))))
  refine hx_dn (hr23_0 (fun c => bad (by omega)) (fun _ c => bad (by omega)) (fun _ _ c => bad (by omega)) (fun c1 c2 c3 => ?_))
  obtain ⟨N, rfl⟩ : ∃ N : Nat, a = (N : Int) := ⟨a.toNat, by omega⟩
  refine hx_dn (hv139_11 (s0 := 1) (fun _ => ?_) (fun c => absurd c (by decide)))
  refine cs24 (by omega) (fun m1 x1 z1 f1 => ?_)
  refine hx_dn (hv139_28 ?_)
  refine c49 (by omega) x1 (fun v m2 hP => ?_)
  obtain ⟨hf, hP⟩ := hP
  have ff : ∀ c k, c ≠ 3 → c ≠ 4 → c ≠ 1 → (c < 61 ∨ 66 < c) → m2 c k = m c k := fun c k b1 b2 b3 b4 => by
    rw [hf c b4 b1]
    exact f1 c k b1 b2 (by omega)
  have eT : ∀ M : gx_M, (∀ k, M 90 k = m 90 k) → ∀ k, k < N → gx_and (M 90 k) 255 = m 2 k := fun M hM k hk => by
    rw [hM k]
    exact t4 k (by omega)
  have ok := fun B e => dAll_ok (T := m 2) (L := N) (d := 17) (p := 0) (A := []) (B := B) (Nat.zero_le _) (fun a ha => by cases ha) e
  cases hD : dAll (m 2) N 17 0 [] with
  | inr f =>
    rw [hD] at hP
    obtain ⟨rfl, e4⟩ := hP
    refine hx_dn (hv139_39 (s0 := 0) (fun c => absurd rfl c) (fun c => absurd rfl c) (fun c => absurd rfl c) (fun c => absurd rfl c) (fun _ => ?_))
    rw [e4]
    refine hx_dn (hw213_0 (fun _ _ => ?_) (fun _ c => ?_) (fun c => absurd ⟨c1, c2⟩ c))
    · refine r191 (T := m 2) (by omega) (eT m2 (fun k => ff 90 k (by decide) (by decide) (by decide) (by decide))) (fun v m3 hP => ?_)
      rw [hD] at hP
      obtain ⟨g1, g2, rfl, g3⟩ := hP
      refine hx_dn (hw213_26 (s0 := 0) (fun c => absurd rfl c) (fun c => absurd rfl c) (fun c => absurd rfl c) (fun _ => ?_))
      rw [g3]
      refine ⟨hWr_c (m := m) (hPR_of (fun c k hc => ?_)) hR', rfl⟩
      rw [← ff c k (by omega) (by omega) (by omega) (by omega)]
      by_cases e : c = 86
      · subst e
        exact g1.2 k (by omega) (by omega) (by omega) (by omega) (by omega) (by omega)
      · exact congrFun (g1.1 c e (by omega)) k
    · rw [ff 86 4 (by decide) (by decide) (by decide) (by decide)] at c
      omega
  | inl A =>
    rw [hD] at hP
    obtain ⟨rfl, hA⟩ := hP
    obtain ⟨ha, l1, l16⟩ := ok A hD
    have hn := hA.1
    -- the reference, from behind the class on
    have ref : ∀ (v : Int) (M0 : gx_M), (∀ c k, c ≠ 3 → c ≠ 4 → c ≠ 1 → (c < 31 ∨ (43 < c ∧ c < 61 ∧ c ≠ 51 ∧ ¬ (c = 44 ∧ 9 ≤ k ∧ k ≤ 11)) ∨ 68 < c) → M0 c k = m c k) → (v = if A.length ≤ 6 ∧ -1 ≤ w ∧ w < A.length then oV (sk (fun l => oK W A l (m 87)) (pE A.length A.length 0)) w else -3) → hxn xs n yp_m213 0 [(0, .inr (.inl 86)), (1, .inl (N : Int)), (2, .inl w)] [] M0 (fun r2 m2 => hWr xs m2 ∧ r2 = some (.inl v)) := fun v M0 fm ev => by
      have e87 : M0 87 = m 87 := funext (fun k => fm 87 k (by decide) (by decide) (by decide) (by omega))
      refine hx_dn (hw213_0 (fun _ _ => ?_) (fun _ c => ?_) (fun c => absurd ⟨c1, c2⟩ c))
      · refine r191 (T := m 2) (by omega) (eT M0 (fun k => fm 90 k (by decide) (by decide) (by decide) (by omega))) (fun u m5 hP => ?_)
        rw [hD] at hP
        obtain ⟨g1, g2, rfl, g3⟩ := hP
        have gn := g3.1
        have gg : ∀ c k, c ≠ 3 → c ≠ 4 → c ≠ 1 → (c < 31 ∨ (43 < c ∧ c < 61 ∧ c ≠ 51 ∧ ¬ (c = 44 ∧ 9 ≤ k ∧ k ≤ 11)) ∨ 68 < c) → (c < 104 ∨ 108 < c) → ¬ (c = 86 ∧ ((4 ≤ k ∧ k ≤ 8) ∨ k = 32)) → m5 c k = m c k := fun c k b1 b2 b3 b4 b5 b6 => by
          rw [← fm c k b1 b2 b3 b4]
          by_cases e : c = 86
          · subst e
            exact g1.2 k (by omega) (by omega) (by omega) (by omega) (by omega) (by omega)
          · exact congrFun (g1.1 c e b5) k
        have st5 : hWr xs m5 := hWr_c (m := m) (hPR_of (fun c k hc => gg c k (by omega) (by omega) (by omega) (by omega) (by omega) (by omega))) hR'
        have wl : gx_w ((A.length : Int) - 1) = (A.length : Int) - 1 := gx_w_id (by omega) (by omega)
        refine hx_dn (hw213_26 (s0 := 1) (fun _ c => ?_) (fun _ c d => ?_) (fun _ c d => ?_) (fun c => absurd c (by decide)))
        · rw [if_neg (fun q => by have := q.1; omega)] at ev
          rw [ev]
          exact ⟨st5, rfl⟩
        · rw [gn, wl] at d
          rw [if_pos ⟨by omega, d.1, by omega⟩] at ev
          have e87' : m5 87 = m 87 := funext (fun k => gg 87 k (by decide) (by decide) (by decide) (by omega) (by decide) (by omega))
          refine hs212_87_88 ?_
          obtain ⟨M, hM⟩ : ∃ M, M = hcopy m5 87 0 88 0 1131 := ⟨_, rfl⟩
          rw [← hM]
          have gM : ∀ c k, c ≠ 88 → M c k = m5 c k := fun c k b => by rw [hM, hcopy_ne b]
          have g88 : ∀ k, k < 1131 → M 88 k = m 87 k := fun k hk => by rw [hM, hcopy_at hk, e87']
          have gM87 : M 87 = m 87 := (funext (fun k => gM 87 k (by decide))).trans e87'
          have hL6 : lawR xs W M := lawR_c (hPL_of (fun c k hc => by
            rw [gM c k (by omega)]
            exact gg c k (by omega) (by omega) (by omega) (by omega) (by omega) (by omega))) h5
          have hA6 : rAc A M := by
            have e : ∀ c, c ≠ 88 → M c = m5 c := fun c b => funext (fun k => gM c k b)
            unfold rAc
            rw [e 86 (by decide), e 104 (by decide), e 105 (by decide), e 106 (by decide), e 107 (by decide), e 108 (by decide)]
            exact g3
          obtain ⟨l, L, eL, hid, hC, hV⟩ := pE_ck (n := A.length) (by omega) (by omega)
          have hVl := hV l (List.mem_cons_self ..)
          refine hx_dn (hw213_71 ?_)
          refine r213k hA6.1 (by omega) (fun m6 q1 q2 => ?_) A.length 0 M (Nat.zero_add _) (fun j hj => absurd hj (by omega)) (fun _ _ => rfl)
          have fo : rOf M m6 := fun c _ _ _ e => q2 c e
          refine r214 (l := l) (s := m 87) hL6 hA6 ha l16 hVl.1 hVl.2 (fun k hk => by rw [q1 k hk, hid k hk]) h1 (fun k hk => by rw [q2 87 (by decide), gM87]) g88 fo (fun m7 p1 p2 p3 => ?_)
          refine hx_dn (hw213_98 ?_)
          refine r213l hL6 hA6 ha (by omega) (by omega) h1 ⟨d.1, by omega⟩ g88 (fun m8 v8 e8 f8 g8 => ?_) L l m7 hC hV p2 p1 p3 (by rw [eL])
          refine ⟨hWr_c (m := m) (hPR_of (fun c k hc => ?_)) hR', by rw [e8, ev]⟩
          by_cases e : c = 87
          · subst e
            exact g8 k (by omega)
          · rw [f8 c e (by omega) (by omega) (by omega), gM c k (by omega)]
            exact gg c k (by omega) (by omega) (by omega) (by omega) (by omega) (by omega)
        · rw [gn, wl] at d
          rw [if_neg (fun q => d ⟨q.2.1, by have := q.2.2; omega⟩)] at ev
          rw [ev]
          exact ⟨st5, rfl⟩
      · rw [fm 86 4 (by decide) (by decide) (by decide) (by omega)] at c
        omega
    have fm2 : ∀ c k, c ≠ 3 → c ≠ 4 → c ≠ 1 → (c < 31 ∨ (43 < c ∧ c < 61 ∧ c ≠ 51 ∧ ¬ (c = 44 ∧ 9 ≤ k ∧ k ≤ 11)) ∨ 68 < c) → m2 c k = m c k := fun c k b1 b2 b3 b4 => ff c k b1 b2 b3 (by omega)
    refine hx_dn (hv139_39 (s0 := 1) (fun _ c => ?_) (fun _ _ c => ?_) (fun _ c d e => ?_) (fun _ _ _ c => ?_) (fun c => absurd c (by decide)))
    · exact ref (-3) m2 fm2 (by rw [if_neg (fun q => by have := q.1; omega)])
    · exact ref (-3) m2 fm2 (by rw [if_neg (fun q => by have := q.2.1; omega)])
    · have cw : A.length ≤ 6 ∧ -1 ≤ w ∧ w < A.length := ⟨by omega, by omega, by omega⟩
      refine hs71_31_5 (fun m3 hC => ?_)
      have kn := hCp31_f hC
      have hL2 : lawR xs W m2 := lawR_c (hPL_of (fun c k hc => ff c k (by omega) (by omega) (by omega) (by omega))) h5
      have hL3 : lawR xs W m3 := lawR_c (hPL_of (fun c k hc => by rw [kn c (by omega)])) hL2
      have hB2 : sBk 5 (m 87) m2 := sBk_c (fun c b1 b2 => funext (fun k => ff c k (by omega) (by omega) (by omega) (by omega))) h2
      have hA3 : cAc A m3 := by
        unfold cAc
        rw [kn 61 (by decide), kn 62 (by decide), kn 63 (by decide), kn 64 (by decide), kn 65 (by decide), kn 66 (by decide)]
        exact hA
      have fm4 : ∀ m4, cOg 0 m3 m4 → ∀ c k, c ≠ 3 → c ≠ 4 → c ≠ 1 → (c < 31 ∨ (43 < c ∧ c < 61 ∧ c ≠ 51 ∧ ¬ (c = 44 ∧ 9 ≤ k ∧ k ≤ 11)) ∨ 68 < c) → m4 c k = m c k := fun m4 f4 c k b1 b2 b3 b4 => by
        rw [f4.1 c k (by omega) (by omega) (by omega) (by omega) (by omega), kn c (by omega)]
        exact fm2 c k b1 b2 b3 b4
      refine hx_dn (hv139_92 ?_)
      refine c140 hL3 hA3 ha cw.1 A.length 0 0 (m 87) (m 87) m3 _ (Nat.zero_add _) (by decide) sAl_r h1 (sBk31_c hC hB2) cOg_r (fun l m4 e1 f4 r4 => ?_) (fun m4 s2 e1 f4 _ _ _ => ?_)
      · have hlen := pE_len (sk_mem e1)
        rw [if_pos cw, e1] at ref
        refine hx_dn (hv139_109 (s0 := 1) (fun _ x => absurd x (by decide)) (fun x _ => ?_) (fun _ x => absurd x (by decide)) (fun x _ => ?_))
        · refine ref _ m4 (fm4 m4 f4) ?_
          have := r4 w.toNat (by omega)
          rw [Nat.zero_add] at this
          unfold oV
          dsimp only
          rw [if_neg x]
          exact this
        · refine ref _ m4 (fm4 m4 f4) ?_
          unfold oV
          dsimp only
          rw [if_pos x]
      · rw [if_pos cw, e1] at ref
        refine hx_dn (hv139_109 (s0 := 0) (fun x _ => ?_) (fun _ x => absurd rfl x) (fun x _ => ?_) (fun _ x => absurd rfl x))
        · refine ref _ m4 (fm4 m4 f4) ?_
          unfold oV
          dsimp only
          rw [if_neg x]
        · refine ref _ m4 (fm4 m4 f4) ?_
          unfold oV
          dsimp only
          rw [if_pos x]
    · exact ref (-3) m2 fm2 (by rw [if_neg (fun q => by have := q.2.2; omega)])
end IO
end
