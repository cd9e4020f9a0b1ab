section
/-! sold: roads -/
/-- ownerAt from 0 on -/
theorem hr111_0 {xs : List Int32} {n : Nat} {Q : hQ} {m : gx_M} {x2 : Int}
    (h1 : (x2 < 0) → Q (some (.inl 0)) m)
    (h2 : (0 ≤ x2) → (8 ≤ x2) → Q (some (.inl 0)) m)
    (h3 : (0 ≤ x2) → (x2 < 8) → (cYear 5 m (m 82 (x2).toNat)) → Q (some (.inl (m 12 (m 82 (x2).toNat).toNat))) m)
    (h4 : (0 ≤ x2) → (x2 < 8) → (¬ (cYear 5 m (m 82 (x2).toNat))) → Q (some (.inl 0)) m) : hxn xs (n + 1) yp_m111 0 [(0, .inr (.inl 81)), (1, .inr (.inl 5)), (2, .inl x2)] [] m Q := by
  refine hx_blks (npc := 1) (L' := [(0, .inr (.inl 81)), (1, .inr (.inl 5)), (2, .inl x2)]) (st' := [.inl x2]) (m' := m) ((0, .iload_n 2, 1, 0, 0, 0, 0), (0, 0, 0)) [] (by decide +kernel) rfl ?_
  refine hx_if .lt 23 (by decide +kernel) (fun c1 => ?_) (fun c1 => ?_)
  · have c1 : x2 < 0 := c1
    refine hx_blk (npc := 24) (L' := [(0, .inr (.inl 81)), (1, .inr (.inl 5)), (2, .inl x2)]) (st' := [.inl 0]) (m' := m) [((23, .iconst 0, 1, 0, 0, 0, 0), (0, 0, 0))] (by decide +kernel) rfl ?_
    exact hx_reti (by decide +kernel) (h1 c1)
  · have c1 : 0 ≤ x2 := by have h : ¬ (x2 < 0) := c1; omega
    refine hx_blk (npc := 7) (L' := [(0, .inr (.inl 81)), (1, .inr (.inl 5)), (2, .inl x2)]) (st' := [.inl 8, .inl x2]) (m' := m) [((4, .iload_n 2, 1, 0, 0, 0, 0), (0, 0, 0)), ((5, .bipush 8, 2, 0, 0, 0, 0), (0, 0, 0))] (by decide +kernel) rfl ?_
    refine hx_cmp .ge 23 (by decide +kernel) (fun c2 => ?_) (fun c2 => ?_)
    · have c2 : 8 ≤ x2 := c2
      refine hx_blk (npc := 24) (L' := [(0, .inr (.inl 81)), (1, .inr (.inl 5)), (2, .inl x2)]) (st' := [.inl 0]) (m' := m) [((23, .iconst 0, 1, 0, 0, 0, 0), (0, 0, 0))] (by decide +kernel) rfl ?_
      exact hx_reti (by decide +kernel) (h2 c1 c2)
    · have c2 : x2 < 8 := by have h : ¬ (8 ≤ x2) := c2; omega
      refine hx_blk (npc := 17) (L' := [(0, .inr (.inl 81)), (1, .inr (.inl 5)), (2, .inl x2)]) (st' := [.inl (m 82 (x2).toNat), .inr (.inl 5)]) (m' := m) [((10, .aload_n 1, 1, 0, 0, 0, 0), (0, 0, 0)), ((11, .aload_n 0, 1, 0, 0, 0, 0), (0, 0, 0)), ((12, .getfield 9, 3, 8, 0, 2103, 0), (1, 81, 82)), ((15, .iload_n 2, 1, 0, 0, 0, 0), (0, 0, 0)), ((16, .iaload, 1, 0, 0, 0, 0), (0, 82, 0))] (by decide +kernel) rfl ?_
      refine hx_call (E := (17, .invokevirtual 41, 3, 17, 0, 4126, 0)) (M' := yp_m17) [.inr (.inl 5), .inl (m 82 (x2).toNat)] [] rfl (by decide +kernel) rfl ⟨rfl, rfl⟩ rfl rfl (hs17_5 (fun c3 => ?_) (fun c3 => ?_))
      · have c3 : cYear 5 m (m 82 (x2).toNat) := c3
        show hxn xs n yp_m111 20 [(0, .inr (.inl 81)), (1, .inr (.inl 5)), (2, .inl x2)] [.inl 1] m Q
        refine hx_if .ne 25 (by decide +kernel) (fun c4 => ?_) (fun c4 => ?_)
        · have c4 : (1 : Int) ≠ 0 := c4
          refine hx_blk (npc := 36) (L' := [(0, .inr (.inl 81)), (1, .inr (.inl 5)), (2, .inl x2)]) (st' := [.inl (m 12 (m 82 (x2).toNat).toNat)]) (m' := m) [((25, .aload_n 1, 1, 0, 0, 0, 0), (0, 0, 0)), ((26, .getfield 58, 3, 2, 11, 1114, 0), (1, 5, 12)), ((29, .aload_n 0, 1, 0, 0, 0, 0), (0, 0, 0)), ((30, .getfield 9, 3, 8, 0, 2103, 0), (1, 81, 82)), ((33, .iload_n 2, 1, 0, 0, 0, 0), (0, 0, 0)), ((34, .iaload, 1, 0, 0, 0, 0), (0, 82, 0)), ((35, .iaload, 1, 0, 0, 0, 0), (0, 12, 0))] (by decide +kernel) rfl ?_
          exact hx_reti (by decide +kernel) (h3 c1 c2 c3)
        · have c4 : (1 : Int) = 0 := by have h : ¬ ((1 : Int) ≠ 0) := c4; omega
          exfalso; omega
      · have c3 : ¬ (cYear 5 m (m 82 (x2).toNat)) := c3
        show hxn xs n yp_m111 20 [(0, .inr (.inl 81)), (1, .inr (.inl 5)), (2, .inl x2)] [.inl 0] m Q
        refine hx_if .ne 25 (by decide +kernel) (fun c4 => ?_) (fun c4 => ?_)
        · have c4 : (0 : Int) ≠ 0 := c4
          exfalso; omega
        · have c4 : (0 : Int) = 0 := by have h : ¬ ((0 : Int) ≠ 0) := c4; omega
          refine hx_blk (npc := 24) (L' := [(0, .inr (.inl 81)), (1, .inr (.inl 5)), (2, .inl x2)]) (st' := [.inl 0]) (m' := m) [((23, .iconst 0, 1, 0, 0, 0, 0), (0, 0, 0))] (by decide +kernel) rfl ?_
          exact hx_reti (by decide +kernel) (h4 c1 c2 c3)

/-- readRow from 0 on -/
theorem hr109_0 {xs : List Int32} {n : Nat} {Q : hQ} {m : gx_M}
    (h1 : hxn xs n yp_m109 15 [(0, .inr (.inl 81)), (1, .inr (.inl 5)), (2, .inr (.inl 3)), (3, .inl 0)] [] (gx_u m 81 1 (if 8 < (m 3 1) then 8 else (m 3 1))) Q) : hxn xs (n + 1) yp_m109 0 [(0, .inr (.inl 81)), (1, .inr (.inl 5)), (2, .inr (.inl 3))] [] m Q := by
  refine hx_blks (npc := 15) (L' := [(0, .inr (.inl 81)), (1, .inr (.inl 5)), (2, .inr (.inl 3)), (3, .inl 0)]) (st' := []) (m' := (gx_u m 81 1 (if 8 < (m 3 1) then 8 else (m 3 1)))) ((0, .aload_n 0, 1, 0, 0, 0, 0), (0, 0, 0)) [((1, .aload_n 2, 1, 0, 0, 0, 0), (0, 0, 0)), ((2, .getfield 24, 3, 1, 1, 1049, 0), (0, 3, 0)), ((5, .bipush 8, 2, 0, 0, 0, 0), (0, 0, 0)), ((7, .invokestatic 30, 3, 1003, 2221, 4124, 1013002222), (0, 0, 0)), ((10, .putfield 36, 3, 8, 1, 2104, 0), (0, 81, 0)), ((13, .iconst 0, 1, 0, 0, 0, 0), (0, 0, 0)), ((14, .istore_n 3, 1, 0, 0, 0, 0), (0, 0, 0))] (by decide +kernel) rfl ?_
  exact hx_pick [0, 1, 2, 3] h1

/-- readRow from 15 on -/
theorem hr109_15 {xs : List Int32} {n : Nat} {Q : hQ} {m : gx_M} {x3 : Int}
    (h1 : ((m 81 1) ≤ x3) → Q (some (.inl 1)) m)
    (h2 : (x3 < (m 81 1)) → (8 ≤ x3) → Q (some (.inl 1)) m)
    (h3 : (x3 < (m 81 1)) → (x3 < 8) → hxn xs n yp_m25 0 [(0, .inr (.inl 3)), (1, .inl x3)] [] m (fun r m' => hxn xs n yp_m109 39 [(0, .inr (.inl 81)), (1, .inr (.inl 5)), (2, .inr (.inl 3)), (3, .inl x3)] (hrs r ++ [.inl x3, .inr (.inl 82)]) m' Q)) : hxn xs (n + 1) yp_m109 15 [(0, .inr (.inl 81)), (1, .inr (.inl 5)), (2, .inr (.inl 3)), (3, .inl x3)] [] m Q := by
  refine hx_blks (npc := 20) (L' := [(0, .inr (.inl 81)), (1, .inr (.inl 5)), (2, .inr (.inl 3)), (3, .inl x3)]) (st' := [.inl (m 81 1), .inl x3]) (m' := m) ((15, .iload_n 3, 1, 0, 0, 0, 0), (0, 0, 0)) [((16, .aload_n 0, 1, 0, 0, 0, 0), (0, 0, 0)), ((17, .getfield 36, 3, 8, 1, 2104, 0), (0, 81, 0))] (by decide +kernel) rfl ?_
  refine hx_cmp .ge 74 (by decide +kernel) (fun c1 => ?_) (fun c1 => ?_)
  · have c1 : (m 81 1) ≤ x3 := c1
    refine hx_blk (npc := 75) (L' := [(0, .inr (.inl 81)), (1, .inr (.inl 5)), (2, .inr (.inl 3)), (3, .inl x3)]) (st' := [.inl 1]) (m' := m) [((74, .iconst 1, 1, 0, 0, 0, 0), (0, 0, 0))] (by decide +kernel) rfl ?_
    exact hx_reti (by decide +kernel) (h1 c1)
  · have c1 : x3 < (m 81 1) := by have h : ¬ ((m 81 1) ≤ x3) := c1; omega
    refine hx_blk (npc := 26) (L' := [(0, .inr (.inl 81)), (1, .inr (.inl 5)), (2, .inr (.inl 3)), (3, .inl x3)]) (st' := [.inl 8, .inl x3]) (m' := m) [((23, .iload_n 3, 1, 0, 0, 0, 0), (0, 0, 0)), ((24, .bipush 8, 2, 0, 0, 0, 0), (0, 0, 0))] (by decide +kernel) rfl ?_
    refine hx_cmp .ge 74 (by decide +kernel) (fun c2 => ?_) (fun c2 => ?_)
    · have c2 : 8 ≤ x3 := c2
      refine hx_blk (npc := 75) (L' := [(0, .inr (.inl 81)), (1, .inr (.inl 5)), (2, .inr (.inl 3)), (3, .inl x3)]) (st' := [.inl 1]) (m' := m) [((74, .iconst 1, 1, 0, 0, 0, 0), (0, 0, 0))] (by decide +kernel) rfl ?_
      exact hx_reti (by decide +kernel) (h2 c1 c2)
    · have c2 : x3 < 8 := by have h : ¬ (8 ≤ x3) := c2; omega
      refine hx_blk (npc := 36) (L' := [(0, .inr (.inl 81)), (1, .inr (.inl 5)), (2, .inr (.inl 3)), (3, .inl x3)]) (st' := [.inl x3, .inr (.inl 3), .inl x3, .inr (.inl 82)]) (m' := m) [((29, .aload_n 0, 1, 0, 0, 0, 0), (0, 0, 0)), ((30, .getfield 9, 3, 8, 0, 2103, 0), (1, 81, 82)), ((33, .iload_n 3, 1, 0, 0, 0, 0), (0, 0, 0)), ((34, .aload_n 2, 1, 0, 0, 0, 0), (0, 0, 0)), ((35, .iload_n 3, 1, 0, 0, 0, 0), (0, 0, 0))] (by decide +kernel) rfl ?_
      exact hx_call (E := (36, .invokevirtual 37, 3, 25, 0, 4125, 0)) (M' := yp_m25) [.inr (.inl 3), .inl x3] [.inl x3, .inr (.inl 82)] rfl (by decide +kernel) rfl ⟨rfl, rfl⟩ rfl rfl (hx_mono (h3 c1 c2) (fun r m' h' => hx_pick [0, 1, 2, 3] h'))

/-- readRow from 39 on -/
theorem hr109_39 {xs : List Int32} {n : Nat} {Q : hQ} {m : gx_M} {x3 s1 s2 : Int}
    (h1 : (cYear 5 (gx_u m 82 (s1).toNat s2) ((gx_u m 82 (s1).toNat s2) 82 (x3).toNat)) → (cPwd 5 13 (gx_u m 82 (s1).toNat s2) ((gx_u m 82 (s1).toNat s2) 82 (x3).toNat)) → Q (some (.inl 0)) (gx_u m 82 (s1).toNat s2))
    (h2 : (cYear 5 (gx_u m 82 (s1).toNat s2) ((gx_u m 82 (s1).toNat s2) 82 (x3).toNat)) → (¬ (cPwd 5 13 (gx_u m 82 (s1).toNat s2) ((gx_u m 82 (s1).toNat s2) 82 (x3).toNat))) → hxn xs n yp_m109 15 [(0, .inr (.inl 81)), (1, .inr (.inl 5)), (2, .inr (.inl 3)), (3, .inl (gx_w (x3 + 1)))] [] (gx_u m 82 (s1).toNat s2) Q)
    (h3 : (¬ (cYear 5 (gx_u m 82 (s1).toNat s2) ((gx_u m 82 (s1).toNat s2) 82 (x3).toNat))) → Q (some (.inl 0)) (gx_u m 82 (s1).toNat s2)) : hxn xs (n + 1) yp_m109 39 [(0, .inr (.inl 81)), (1, .inr (.inl 5)), (2, .inr (.inl 3)), (3, .inl x3)] [.inl s2, .inl s1, .inr (.inl 82)] m Q := by
  refine hx_blks (npc := 47) (L' := [(0, .inr (.inl 81)), (1, .inr (.inl 5)), (2, .inr (.inl 3)), (3, .inl x3)]) (st' := [.inl ((gx_u m 82 (s1).toNat s2) 82 (x3).toNat), .inr (.inl 5)]) (m' := (gx_u m 82 (s1).toNat s2)) ((39, .iastore, 1, 0, 0, 0, 0), (0, 82, 0)) [((40, .aload_n 1, 1, 0, 0, 0, 0), (0, 0, 0)), ((41, .aload_n 0, 1, 0, 0, 0, 0), (0, 0, 0)), ((42, .getfield 9, 3, 8, 0, 2103, 0), (1, 81, 82)), ((45, .iload_n 3, 1, 0, 0, 0, 0), (0, 0, 0)), ((46, .iaload, 1, 0, 0, 0, 0), (0, 82, 0))] (by decide +kernel) rfl ?_
  refine hx_call (E := (47, .invokevirtual 41, 3, 17, 0, 4126, 0)) (M' := yp_m17) [.inr (.inl 5), .inl ((gx_u m 82 (s1).toNat s2) 82 (x3).toNat)] [] rfl (by decide +kernel) rfl ⟨rfl, rfl⟩ rfl rfl (hs17_5 (fun c1 => ?_) (fun c1 => ?_))
  · have c1 : cYear 5 (gx_u m 82 (s1).toNat s2) ((gx_u m 82 (s1).toNat s2) 82 (x3).toNat) := c1
    show hxn xs n yp_m109 50 [(0, .inr (.inl 81)), (1, .inr (.inl 5)), (2, .inr (.inl 3)), (3, .inl x3)] [.inl 1] (gx_u m 82 (s1).toNat s2) Q
    refine hx_if .eq 66 (by decide +kernel) (fun c2 => ?_) (fun c2 => ?_)
    · have c2 : (1 : Int) = 0 := c2
      exfalso; omega
    · have c2 : (1 : Int) ≠ 0 := c2
      refine hx_blk (npc := 60) (L' := [(0, .inr (.inl 81)), (1, .inr (.inl 5)), (2, .inr (.inl 3)), (3, .inl x3)]) (st' := [.inl ((gx_u m 82 (s1).toNat s2) 82 (x3).toNat), .inr (.inl 5)]) (m' := (gx_u m 82 (s1).toNat s2)) [((53, .aload_n 1, 1, 0, 0, 0, 0), (0, 0, 0)), ((54, .aload_n 0, 1, 0, 0, 0, 0), (0, 0, 0)), ((55, .getfield 9, 3, 8, 0, 2103, 0), (1, 81, 82)), ((58, .iload_n 3, 1, 0, 0, 0, 0), (0, 0, 0)), ((59, .iaload, 1, 0, 0, 0, 0), (0, 82, 0))] (by decide +kernel) rfl ?_
      refine hx_call (E := (60, .invokevirtual 47, 3, 79, 0, 4127, 0)) (M' := yp_m79) [.inr (.inl 5), .inl ((gx_u m 82 (s1).toNat s2) 82 (x3).toNat)] [] rfl (by decide +kernel) rfl ⟨rfl, rfl⟩ rfl rfl (hs79_5 (fun c2 => ?_) (fun c2 => ?_))
      · have c2 : cPwd 5 13 (gx_u m 82 (s1).toNat s2) ((gx_u m 82 (s1).toNat s2) 82 (x3).toNat) := c2
        show hxn xs n yp_m109 63 [(0, .inr (.inl 81)), (1, .inr (.inl 5)), (2, .inr (.inl 3)), (3, .inl x3)] [.inl 1] (gx_u m 82 (s1).toNat s2) Q
        refine hx_if .eq 68 (by decide +kernel) (fun c3 => ?_) (fun c3 => ?_)
        · have c3 : (1 : Int) = 0 := c3
          exfalso; omega
        · have c3 : (1 : Int) ≠ 0 := c3
          refine hx_blk (npc := 67) (L' := [(0, .inr (.inl 81)), (1, .inr (.inl 5)), (2, .inr (.inl 3)), (3, .inl x3)]) (st' := [.inl 0]) (m' := (gx_u m 82 (s1).toNat s2)) [((66, .iconst 0, 1, 0, 0, 0, 0), (0, 0, 0))] (by decide +kernel) rfl ?_
          exact hx_reti (by decide +kernel) (h1 c1 c2)
      · have c2 : ¬ (cPwd 5 13 (gx_u m 82 (s1).toNat s2) ((gx_u m 82 (s1).toNat s2) 82 (x3).toNat)) := c2
        show hxn xs n yp_m109 63 [(0, .inr (.inl 81)), (1, .inr (.inl 5)), (2, .inr (.inl 3)), (3, .inl x3)] [.inl 0] (gx_u m 82 (s1).toNat s2) Q
        refine hx_if .eq 68 (by decide +kernel) (fun c3 => ?_) (fun c3 => ?_)
        · have c3 : (0 : Int) = 0 := c3
          refine hx_blk (npc := 15) (L' := [(0, .inr (.inl 81)), (1, .inr (.inl 5)), (2, .inr (.inl 3)), (3, .inl (gx_w (x3 + 1)))]) (st' := []) (m' := (gx_u m 82 (s1).toNat s2)) [((68, .iinc 3 1, 3, 0, 0, 0, 0), (0, 0, 0)), ((71, .goto (-56), 3, 0, 0, 0, 0), (0, 0, 0))] (by decide +kernel) rfl ?_
          exact hx_pick [0, 1, 2, 3] (h2 c1 c2)
        · have c3 : (0 : Int) ≠ 0 := c3
          exfalso; omega
  · have c1 : ¬ (cYear 5 (gx_u m 82 (s1).toNat s2) ((gx_u m 82 (s1).toNat s2) 82 (x3).toNat)) := c1
    show hxn xs n yp_m109 50 [(0, .inr (.inl 81)), (1, .inr (.inl 5)), (2, .inr (.inl 3)), (3, .inl x3)] [.inl 0] (gx_u m 82 (s1).toNat s2) Q
    refine hx_if .eq 66 (by decide +kernel) (fun c2 => ?_) (fun c2 => ?_)
    · have c2 : (0 : Int) = 0 := c2
      refine hx_blk (npc := 67) (L' := [(0, .inr (.inl 81)), (1, .inr (.inl 5)), (2, .inr (.inl 3)), (3, .inl x3)]) (st' := [.inl 0]) (m' := (gx_u m 82 (s1).toNat s2)) [((66, .iconst 0, 1, 0, 0, 0, 0), (0, 0, 0))] (by decide +kernel) rfl ?_
      exact hx_reti (by decide +kernel) (h3 c1)
    · have c2 : (0 : Int) ≠ 0 := c2
      exfalso; omega

/-- readSale from 0 on -/
theorem hr108_0 {xs : List Int32} {n : Nat} {Q : hQ} {m : gx_M}
    (h1 : hxn xs n yp_m109 0 [(0, .inr (.inl 81)), (1, .inr (.inl 5)), (2, .inr (.inl 3))] [] m (fun r m' => hxn xs n yp_m108 6 [(0, .inr (.inl 81))] (hrs r ++ []) m' Q)) : hxn xs (n + 1) yp_m108 0 [(0, .inr (.inl 81)), (1, .inr (.inl 5)), (2, .inr (.inl 3))] [] m Q := by
  refine hx_blks (npc := 3) (L' := [(0, .inr (.inl 81)), (1, .inr (.inl 5)), (2, .inr (.inl 3))]) (st' := [.inr (.inl 3), .inr (.inl 5), .inr (.inl 81)]) (m' := m) ((0, .aload_n 0, 1, 0, 0, 0, 0), (0, 0, 0)) [((1, .aload_n 1, 1, 0, 0, 0, 0), (0, 0, 0)), ((2, .aload_n 2, 1, 0, 0, 0, 0), (0, 0, 0))] (by decide +kernel) rfl ?_
  exact hx_call (E := (3, .invokevirtual 50, 3, 109, 0, 4120, 0)) (M' := yp_m109) [.inr (.inl 81), .inr (.inl 5), .inr (.inl 3)] [] rfl (by decide +kernel) rfl ⟨rfl, rfl⟩ rfl rfl (hx_mono h1 (fun r m' h' => hx_pick [0] h'))

/-- readSale from 6 on -/
theorem hr108_6 {xs : List Int32} {n : Nat} {Q : hQ} {m : gx_M} {s0 : Int}
    (h1 : (s0 ≠ 0) → hxn xs n yp_m108 16 [(0, .inr (.inl 81)), (3, .inr (.inr 0)), (5, .inl 0)] [] m Q)
    (h2 : (s0 = 0) → Q (some (.inl 0)) m) : hxn xs (n + 1) yp_m108 6 [(0, .inr (.inl 81))] [.inl s0] m Q := by
  refine hx_ifs .ne 11 (by decide +kernel) (fun c1 => ?_) (fun c1 => ?_)
  · have c1 : s0 ≠ 0 := c1
    refine hx_blk (npc := 16) (L' := [(0, .inr (.inl 81)), (3, .inr (.inr 0)), (5, .inl 0)]) (st' := []) (m' := m) [((11, .lconst 0, 1, 0, 0, 0, 0), (0, 0, 0)), ((12, .lstore_n 3, 1, 0, 0, 0, 0), (0, 0, 0)), ((13, .iconst 0, 1, 0, 0, 0, 0), (0, 0, 0)), ((14, .istore 5, 2, 0, 0, 0, 0), (0, 0, 0))] (by decide +kernel) rfl ?_
    exact hx_pick [0, 3, 5] (h1 c1)
  · have c1 : s0 = 0 := by have h : ¬ (s0 ≠ 0) := c1; omega
    refine hx_blk (npc := 10) (L' := [(0, .inr (.inl 81))]) (st' := [.inl 0]) (m' := m) [((9, .iconst 0, 1, 0, 0, 0, 0), (0, 0, 0))] (by decide +kernel) rfl ?_
    exact hx_reti (by decide +kernel) (h2 c1)

/-- readSale from 16 on -/
theorem hr108_16 {xs : List Int32} {n : Nat} {Q : hQ} {m : gx_M} {x3 x5 : Int}
    (h1 : ((m 81 1) ≤ x5) → Q (some (.inl 1)) m)
    (h2 : (x5 < (m 81 1)) → (8 ≤ x5) → Q (some (.inl 1)) m)
    (h3 : (x5 < (m 81 1)) → (x5 < 8) → ((hlcmp (hland (hlushr x3 (m 82 (x5).toNat)) 1) 0) = 0) → hxn xs n yp_m108 16 [(0, .inr (.inl 81)), (3, .inr (.inr (hlor x3 (hlshl 1 (m 82 (x5).toNat))))), (5, .inl (gx_w (x5 + 1)))] [] m Q)
    (h4 : (x5 < (m 81 1)) → (x5 < 8) → ((hlcmp (hland (hlushr x3 (m 82 (x5).toNat)) 1) 0) ≠ 0) → Q (some (.inl 0)) m) : hxn xs (n + 1) yp_m108 16 [(0, .inr (.inl 81)), (3, .inr (.inr x3)), (5, .inl x5)] [] m Q := by
  refine hx_blks (npc := 22) (L' := [(0, .inr (.inl 81)), (3, .inr (.inr x3)), (5, .inl x5)]) (st' := [.inl (m 81 1), .inl x5]) (m' := m) ((16, .iload 5, 2, 0, 0, 0, 0), (0, 0, 0)) [((18, .aload_n 0, 1, 0, 0, 0, 0), (0, 0, 0)), ((19, .getfield 36, 3, 8, 1, 2104, 0), (0, 81, 0))] (by decide +kernel) rfl ?_
  refine hx_cmp .ge 68 (by decide +kernel) (fun c1 => ?_) (fun c1 => ?_)
  · have c1 : (m 81 1) ≤ x5 := c1
    refine hx_blk (npc := 69) (L' := [(0, .inr (.inl 81)), (3, .inr (.inr x3)), (5, .inl x5)]) (st' := [.inl 1]) (m' := m) [((68, .iconst 1, 1, 0, 0, 0, 0), (0, 0, 0))] (by decide +kernel) rfl ?_
    exact hx_reti (by decide +kernel) (h1 c1)
  · have c1 : x5 < (m 81 1) := by have h : ¬ ((m 81 1) ≤ x5) := c1; omega
    refine hx_blk (npc := 29) (L' := [(0, .inr (.inl 81)), (3, .inr (.inr x3)), (5, .inl x5)]) (st' := [.inl 8, .inl x5]) (m' := m) [((25, .iload 5, 2, 0, 0, 0, 0), (0, 0, 0)), ((27, .bipush 8, 2, 0, 0, 0, 0), (0, 0, 0))] (by decide +kernel) rfl ?_
    refine hx_cmp .ge 68 (by decide +kernel) (fun c2 => ?_) (fun c2 => ?_)
    · have c2 : 8 ≤ x5 := c2
      refine hx_blk (npc := 69) (L' := [(0, .inr (.inl 81)), (3, .inr (.inr x3)), (5, .inl x5)]) (st' := [.inl 1]) (m' := m) [((68, .iconst 1, 1, 0, 0, 0, 0), (0, 0, 0))] (by decide +kernel) rfl ?_
      exact hx_reti (by decide +kernel) (h2 c1 c2)
    · have c2 : x5 < 8 := by have h : ¬ (8 ≤ x5) := c2; omega
      refine hx_blk (npc := 45) (L' := [(0, .inr (.inl 81)), (3, .inr (.inr x3)), (5, .inl x5)]) (st' := [.inl (hlcmp (hland (hlushr x3 (m 82 (x5).toNat)) 1) 0)]) (m' := m) [((32, .lload_n 3, 1, 0, 0, 0, 0), (0, 0, 0)), ((33, .aload_n 0, 1, 0, 0, 0, 0), (0, 0, 0)), ((34, .getfield 9, 3, 8, 0, 2103, 0), (1, 81, 82)), ((37, .iload 5, 2, 0, 0, 0, 0), (0, 0, 0)), ((39, .iaload, 1, 0, 0, 0, 0), (0, 82, 0)), ((40, .lushr, 1, 0, 0, 0, 0), (0, 0, 0)), ((41, .lconst 1, 1, 0, 0, 0, 0), (0, 0, 0)), ((42, .land, 1, 0, 0, 0, 0), (0, 0, 0)), ((43, .lconst 0, 1, 0, 0, 0, 0), (0, 0, 0)), ((44, .lcmp, 1, 0, 0, 0, 0), (0, 0, 0))] (by decide +kernel) rfl ?_
      refine hx_if .eq 50 (by decide +kernel) (fun c3 => ?_) (fun c3 => ?_)
      · have c3 : (hlcmp (hland (hlushr x3 (m 82 (x5).toNat)) 1) 0) = 0 := c3
        refine hx_blk (npc := 16) (L' := [(0, .inr (.inl 81)), (3, .inr (.inr (hlor x3 (hlshl 1 (m 82 (x5).toNat))))), (5, .inl (gx_w (x5 + 1)))]) (st' := []) (m' := m) [((50, .lload_n 3, 1, 0, 0, 0, 0), (0, 0, 0)), ((51, .lconst 1, 1, 0, 0, 0, 0), (0, 0, 0)), ((52, .aload_n 0, 1, 0, 0, 0, 0), (0, 0, 0)), ((53, .getfield 9, 3, 8, 0, 2103, 0), (1, 81, 82)), ((56, .iload 5, 2, 0, 0, 0, 0), (0, 0, 0)), ((58, .iaload, 1, 0, 0, 0, 0), (0, 82, 0)), ((59, .lshl, 1, 0, 0, 0, 0), (0, 0, 0)), ((60, .lor, 1, 0, 0, 0, 0), (0, 0, 0)), ((61, .lstore_n 3, 1, 0, 0, 0, 0), (0, 0, 0)), ((62, .iinc 5 1, 3, 0, 0, 0, 0), (0, 0, 0)), ((65, .goto (-49), 3, 0, 0, 0, 0), (0, 0, 0))] (by decide +kernel) rfl ?_
        exact hx_pick [0, 3, 5] (h3 c1 c2 c3)
      · have c3 : (hlcmp (hland (hlushr x3 (m 82 (x5).toNat)) 1) 0) ≠ 0 := c3
        refine hx_blk (npc := 49) (L' := [(0, .inr (.inl 81)), (3, .inr (.inr x3)), (5, .inl x5)]) (st' := [.inl 0]) (m' := m) [((48, .iconst 0, 1, 0, 0, 0, 0), (0, 0, 0))] (by decide +kernel) rfl ?_
        exact hx_reti (by decide +kernel) (h4 c1 c2 c3)

/-- setMost from 0 on -/
theorem hr115_0 {xs : List Int32} {n : Nat} {Q : hQ} {m : gx_M} {x1 x2 x3 : Int}
    (h1 : ((gx_w ((gx_w (x1 * 256)) + x2)) < 0) → Q none m)
    (h2 : (0 ≤ (gx_w ((gx_w (x1 * 256)) + x2))) → (1792 ≤ (gx_w ((gx_w (x1 * 256)) + x2))) → Q none m)
    (h3 : (0 ≤ (gx_w ((gx_w (x1 * 256)) + x2))) → ((gx_w ((gx_w (x1 * 256)) + x2)) < 1792) → Q none (gx_u m 84 (gx_w ((gx_w (x1 * 256)) + x2)).toNat x3)) : hxn xs (n + 1) yp_m115 0 [(0, .inr (.inl 81)), (1, .inl x1), (2, .inl x2), (3, .inl x3)] [] m Q := by
  refine hx_blks (npc := 11) (L' := [(0, .inr (.inl 81)), (1, .inl x1), (2, .inl x2), (3, .inl x3), (4, .inl (gx_w ((gx_w (x1 * 256)) + x2)))]) (st' := [.inl (gx_w ((gx_w (x1 * 256)) + x2))]) (m' := m) ((0, .iload_n 1, 1, 0, 0, 0, 0), (0, 0, 0)) [((1, .sipush 256, 3, 0, 0, 0, 0), (0, 0, 0)), ((4, .imul, 1, 0, 0, 0, 0), (0, 0, 0)), ((5, .iload_n 2, 1, 0, 0, 0, 0), (0, 0, 0)), ((6, .iadd, 1, 0, 0, 0, 0), (0, 0, 0)), ((7, .istore 4, 2, 0, 0, 0, 0), (0, 0, 0)), ((9, .iload 4, 2, 0, 0, 0, 0), (0, 0, 0))] (by decide +kernel) rfl ?_
  refine hx_if .lt 32 (by decide +kernel) (fun c1 => ?_) (fun c1 => ?_)
  · have c1 : (gx_w ((gx_w (x1 * 256)) + x2)) < 0 := c1
    exact hx_ret0 (by decide +kernel) (h1 c1)
  · have c1 : 0 ≤ (gx_w ((gx_w (x1 * 256)) + x2)) := by have h : ¬ ((gx_w ((gx_w (x1 * 256)) + x2)) < 0) := c1; omega
    refine hx_blk (npc := 21) (L' := [(0, .inr (.inl 81)), (1, .inl x1), (2, .inl x2), (3, .inl x3), (4, .inl (gx_w ((gx_w (x1 * 256)) + x2)))]) (st' := [.inl 1792, .inl (gx_w ((gx_w (x1 * 256)) + x2))]) (m' := m) [((14, .iload 4, 2, 0, 0, 0, 0), (0, 0, 0)), ((16, .aload_n 0, 1, 0, 0, 0, 0), (0, 0, 0)), ((17, .getfield 18, 3, 8, 3, 2106, 0), (1, 81, 84)), ((20, .arraylength, 1, 0, 0, 0, 0), (0, 84, 1792))] (by decide +kernel) rfl ?_
    refine hx_cmp .ge 32 (by decide +kernel) (fun c2 => ?_) (fun c2 => ?_)
    · have c2 : 1792 ≤ (gx_w ((gx_w (x1 * 256)) + x2)) := c2
      exact hx_ret0 (by decide +kernel) (h2 c1 c2)
    · have c2 : (gx_w ((gx_w (x1 * 256)) + x2)) < 1792 := by have h : ¬ (1792 ≤ (gx_w ((gx_w (x1 * 256)) + x2))) := c2; omega
      refine hx_blk (npc := 32) (L' := [(0, .inr (.inl 81)), (1, .inl x1), (2, .inl x2), (3, .inl x3), (4, .inl (gx_w ((gx_w (x1 * 256)) + x2)))]) (st' := []) (m' := (gx_u m 84 (gx_w ((gx_w (x1 * 256)) + x2)).toNat x3)) [((24, .aload_n 0, 1, 0, 0, 0, 0), (0, 0, 0)), ((25, .getfield 18, 3, 8, 3, 2106, 0), (1, 81, 84)), ((28, .iload 4, 2, 0, 0, 0, 0), (0, 0, 0)), ((30, .iload_n 3, 1, 0, 0, 0, 0), (0, 0, 0)), ((31, .iastore, 1, 0, 0, 0, 0), (0, 84, 0))] (by decide +kernel) rfl ?_
      exact hx_ret0 (by decide +kernel) (h3 c1 c2)

/-- mostOf from 0 on -/
theorem hr113_0 {xs : List Int32} {n : Nat} {Q : hQ} {m : gx_M} {x1 x2 : Int}
    (h1 : ((gx_w ((gx_w (x1 * 256)) + x2)) < 0) → Q (some (.inl 0)) m)
    (h2 : (0 ≤ (gx_w ((gx_w (x1 * 256)) + x2))) → (1792 ≤ (gx_w ((gx_w (x1 * 256)) + x2))) → Q (some (.inl 0)) m)
    (h3 : (0 ≤ (gx_w ((gx_w (x1 * 256)) + x2))) → ((gx_w ((gx_w (x1 * 256)) + x2)) < 1792) → Q (some (.inl (m 84 (gx_w ((gx_w (x1 * 256)) + x2)).toNat))) m) : hxn xs (n + 1) yp_m113 0 [(0, .inr (.inl 81)), (1, .inl x1), (2, .inl x2)] [] m Q := by
  refine hx_blks (npc := 9) (L' := [(0, .inr (.inl 81)), (1, .inl x1), (2, .inl x2), (3, .inl (gx_w ((gx_w (x1 * 256)) + x2)))]) (st' := [.inl (gx_w ((gx_w (x1 * 256)) + x2))]) (m' := m) ((0, .iload_n 1, 1, 0, 0, 0, 0), (0, 0, 0)) [((1, .sipush 256, 3, 0, 0, 0, 0), (0, 0, 0)), ((4, .imul, 1, 0, 0, 0, 0), (0, 0, 0)), ((5, .iload_n 2, 1, 0, 0, 0, 0), (0, 0, 0)), ((6, .iadd, 1, 0, 0, 0, 0), (0, 0, 0)), ((7, .istore_n 3, 1, 0, 0, 0, 0), (0, 0, 0)), ((8, .iload_n 3, 1, 0, 0, 0, 0), (0, 0, 0))] (by decide +kernel) rfl ?_
  refine hx_if .lt 30 (by decide +kernel) (fun c1 => ?_) (fun c1 => ?_)
  · have c1 : (gx_w ((gx_w (x1 * 256)) + x2)) < 0 := c1
    refine hx_blk (npc := 31) (L' := [(0, .inr (.inl 81)), (1, .inl x1), (2, .inl x2), (3, .inl (gx_w ((gx_w (x1 * 256)) + x2)))]) (st' := [.inl 0]) (m' := m) [((30, .iconst 0, 1, 0, 0, 0, 0), (0, 0, 0))] (by decide +kernel) rfl ?_
    exact hx_reti (by decide +kernel) (h1 c1)
  · have c1 : 0 ≤ (gx_w ((gx_w (x1 * 256)) + x2)) := by have h : ¬ ((gx_w ((gx_w (x1 * 256)) + x2)) < 0) := c1; omega
    refine hx_blk (npc := 18) (L' := [(0, .inr (.inl 81)), (1, .inl x1), (2, .inl x2), (3, .inl (gx_w ((gx_w (x1 * 256)) + x2)))]) (st' := [.inl 1792, .inl (gx_w ((gx_w (x1 * 256)) + x2))]) (m' := m) [((12, .iload_n 3, 1, 0, 0, 0, 0), (0, 0, 0)), ((13, .aload_n 0, 1, 0, 0, 0, 0), (0, 0, 0)), ((14, .getfield 18, 3, 8, 3, 2106, 0), (1, 81, 84)), ((17, .arraylength, 1, 0, 0, 0, 0), (0, 84, 1792))] (by decide +kernel) rfl ?_
    refine hx_cmp .ge 30 (by decide +kernel) (fun c2 => ?_) (fun c2 => ?_)
    · have c2 : 1792 ≤ (gx_w ((gx_w (x1 * 256)) + x2)) := c2
      refine hx_blk (npc := 31) (L' := [(0, .inr (.inl 81)), (1, .inl x1), (2, .inl x2), (3, .inl (gx_w ((gx_w (x1 * 256)) + x2)))]) (st' := [.inl 0]) (m' := m) [((30, .iconst 0, 1, 0, 0, 0, 0), (0, 0, 0))] (by decide +kernel) rfl ?_
      exact hx_reti (by decide +kernel) (h2 c1 c2)
    · have c2 : (gx_w ((gx_w (x1 * 256)) + x2)) < 1792 := by have h : ¬ (1792 ≤ (gx_w ((gx_w (x1 * 256)) + x2))) := c2; omega
      refine hx_blk (npc := 31) (L' := [(0, .inr (.inl 81)), (1, .inl x1), (2, .inl x2), (3, .inl (gx_w ((gx_w (x1 * 256)) + x2)))]) (st' := [.inl (m 84 (gx_w ((gx_w (x1 * 256)) + x2)).toNat)]) (m' := m) [((21, .aload_n 0, 1, 0, 0, 0, 0), (0, 0, 0)), ((22, .getfield 18, 3, 8, 3, 2106, 0), (1, 81, 84)), ((25, .iload_n 3, 1, 0, 0, 0, 0), (0, 0, 0)), ((26, .iaload, 1, 0, 0, 0, 0), (0, 84, 0)), ((27, .goto 4, 3, 0, 0, 0, 0), (0, 0, 0))] (by decide +kernel) rfl ?_
      exact hx_reti (by decide +kernel) (h3 c1 c2)

/-- withBuyer from 0 on -/
theorem hr114_0 {xs : List Int32} {n : Nat} {Q : hQ} {m : gx_M} {x1 x2 x3 : Int}
    (h1 : ((gx_and (gx_shr x2 x3) 1) = 0) → Q (some (.inl (-1))) m)
    (h2 : ((gx_and (gx_shr x2 x3) 1) ≠ 0) → ((gx_w ((gx_w (x1 * 8)) + x3)) < 0) → Q (some (.inl (-1))) m)
    (h3 : ((gx_and (gx_shr x2 x3) 1) ≠ 0) → (0 ≤ (gx_w ((gx_w (x1 * 8)) + x3))) → (64 ≤ (gx_w ((gx_w (x1 * 8)) + x3))) → Q (some (.inl (-1))) m)
    (h4 : ((gx_and (gx_shr x2 x3) 1) ≠ 0) → (0 ≤ (gx_w ((gx_w (x1 * 8)) + x3))) → ((gx_w ((gx_w (x1 * 8)) + x3)) < 64) → ((m 83 (gx_w ((gx_w (x1 * 8)) + x3)).toNat) ≠ (-1)) → hxn xs n yp_m113 0 [(0, .inr (.inl 81)), (1, .inl (gx_w (x1 + 1))), (2, .inl (gx_and x2 (gx_xor (gx_shl 1 x3) (-1))))] [] m (fun r m' => hxn xs n yp_m114 65 [] (hrs r ++ [.inl (m 83 (gx_w ((gx_w (x1 * 8)) + x3)).toNat)]) m' Q))
    (h5 : ((gx_and (gx_shr x2 x3) 1) ≠ 0) → (0 ≤ (gx_w ((gx_w (x1 * 8)) + x3))) → ((gx_w ((gx_w (x1 * 8)) + x3)) < 64) → ((m 83 (gx_w ((gx_w (x1 * 8)) + x3)).toNat) = (-1)) → Q (some (.inl (-1))) m) : hxn xs (n + 1) yp_m114 0 [(0, .inr (.inl 81)), (1, .inl x1), (2, .inl x2), (3, .inl x3)] [] m Q := by
  have f1 := gx_and_bd (gx_shr x2 x3) 1 (by decide)
  refine hx_blks (npc := 13) (L' := [(0, .inr (.inl 81)), (1, .inl x1), (2, .inl x2), (3, .inl x3), (4, .inl (gx_w ((gx_w (x1 * 8)) + x3)))]) (st' := [.inl (gx_and (gx_shr x2 x3) 1)]) (m' := m) ((0, .iload_n 1, 1, 0, 0, 0, 0), (0, 0, 0)) [((1, .bipush 8, 2, 0, 0, 0, 0), (0, 0, 0)), ((3, .imul, 1, 0, 0, 0, 0), (0, 0, 0)), ((4, .iload_n 3, 1, 0, 0, 0, 0), (0, 0, 0)), ((5, .iadd, 1, 0, 0, 0, 0), (0, 0, 0)), ((6, .istore 4, 2, 0, 0, 0, 0), (0, 0, 0)), ((8, .iload_n 2, 1, 0, 0, 0, 0), (0, 0, 0)), ((9, .iload_n 3, 1, 0, 0, 0, 0), (0, 0, 0)), ((10, .ishr, 1, 0, 0, 0, 0), (0, 0, 0)), ((11, .iconst 1, 1, 0, 0, 0, 0), (0, 0, 0)), ((12, .iand, 1, 0, 0, 0, 0), (0, 0, 0))] (by decide +kernel) rfl ?_
  refine hx_if .eq 42 (by decide +kernel) (fun c1 => ?_) (fun c1 => ?_)
  · have c1 : (gx_and (gx_shr x2 x3) 1) = 0 := c1
    refine hx_blk (npc := 43) (L' := [(0, .inr (.inl 81)), (1, .inl x1), (2, .inl x2), (3, .inl x3), (4, .inl (gx_w ((gx_w (x1 * 8)) + x3)))]) (st' := [.inl (-1)]) (m' := m) [((42, .iconst (-1), 1, 0, 0, 0, 0), (0, 0, 0))] (by decide +kernel) rfl ?_
    exact hx_reti (by decide +kernel) (h1 c1)
  · have c1 : (gx_and (gx_shr x2 x3) 1) ≠ 0 := c1
    refine hx_blk (npc := 18) (L' := [(0, .inr (.inl 81)), (1, .inl x1), (2, .inl x2), (3, .inl x3), (4, .inl (gx_w ((gx_w (x1 * 8)) + x3)))]) (st' := [.inl (gx_w ((gx_w (x1 * 8)) + x3))]) (m' := m) [((16, .iload 4, 2, 0, 0, 0, 0), (0, 0, 0))] (by decide +kernel) rfl ?_
    refine hx_if .lt 42 (by decide +kernel) (fun c2 => ?_) (fun c2 => ?_)
    · have c2 : (gx_w ((gx_w (x1 * 8)) + x3)) < 0 := c2
      refine hx_blk (npc := 43) (L' := [(0, .inr (.inl 81)), (1, .inl x1), (2, .inl x2), (3, .inl x3), (4, .inl (gx_w ((gx_w (x1 * 8)) + x3)))]) (st' := [.inl (-1)]) (m' := m) [((42, .iconst (-1), 1, 0, 0, 0, 0), (0, 0, 0))] (by decide +kernel) rfl ?_
      exact hx_reti (by decide +kernel) (h2 c1 c2)
    · have c2 : 0 ≤ (gx_w ((gx_w (x1 * 8)) + x3)) := by have h : ¬ ((gx_w ((gx_w (x1 * 8)) + x3)) < 0) := c2; omega
      refine hx_blk (npc := 28) (L' := [(0, .inr (.inl 81)), (1, .inl x1), (2, .inl x2), (3, .inl x3), (4, .inl (gx_w ((gx_w (x1 * 8)) + x3)))]) (st' := [.inl 64, .inl (gx_w ((gx_w (x1 * 8)) + x3))]) (m' := m) [((21, .iload 4, 2, 0, 0, 0, 0), (0, 0, 0)), ((23, .aload_n 0, 1, 0, 0, 0, 0), (0, 0, 0)), ((24, .getfield 15, 3, 8, 2, 2105, 0), (1, 81, 83)), ((27, .arraylength, 1, 0, 0, 0, 0), (0, 83, 64))] (by decide +kernel) rfl ?_
      refine hx_cmp .ge 42 (by decide +kernel) (fun c3 => ?_) (fun c3 => ?_)
      · have c3 : 64 ≤ (gx_w ((gx_w (x1 * 8)) + x3)) := c3
        refine hx_blk (npc := 43) (L' := [(0, .inr (.inl 81)), (1, .inl x1), (2, .inl x2), (3, .inl x3), (4, .inl (gx_w ((gx_w (x1 * 8)) + x3)))]) (st' := [.inl (-1)]) (m' := m) [((42, .iconst (-1), 1, 0, 0, 0, 0), (0, 0, 0))] (by decide +kernel) rfl ?_
        exact hx_reti (by decide +kernel) (h3 c1 c2 c3)
      · have c3 : (gx_w ((gx_w (x1 * 8)) + x3)) < 64 := by have h : ¬ (64 ≤ (gx_w ((gx_w (x1 * 8)) + x3))) := c3; omega
        refine hx_blk (npc := 39) (L' := [(0, .inr (.inl 81)), (1, .inl x1), (2, .inl x2), (3, .inl x3), (4, .inl (gx_w ((gx_w (x1 * 8)) + x3)))]) (st' := [.inl (-1), .inl (m 83 (gx_w ((gx_w (x1 * 8)) + x3)).toNat)]) (m' := m) [((31, .aload_n 0, 1, 0, 0, 0, 0), (0, 0, 0)), ((32, .getfield 15, 3, 8, 2, 2105, 0), (1, 81, 83)), ((35, .iload 4, 2, 0, 0, 0, 0), (0, 0, 0)), ((37, .iaload, 1, 0, 0, 0, 0), (0, 83, 0)), ((38, .iconst (-1), 1, 0, 0, 0, 0), (0, 0, 0))] (by decide +kernel) rfl ?_
        refine hx_cmp .ne 44 (by decide +kernel) (fun c4 => ?_) (fun c4 => ?_)
        · have c4 : (m 83 (gx_w ((gx_w (x1 * 8)) + x3)).toNat) ≠ (-1) := c4
          refine hx_blk (npc := 62) (L' := [(0, .inr (.inl 81)), (1, .inl x1), (2, .inl x2), (3, .inl x3), (4, .inl (gx_w ((gx_w (x1 * 8)) + x3)))]) (st' := [.inl (gx_and x2 (gx_xor (gx_shl 1 x3) (-1))), .inl (gx_w (x1 + 1)), .inr (.inl 81), .inl (m 83 (gx_w ((gx_w (x1 * 8)) + x3)).toNat)]) (m' := m) [((44, .aload_n 0, 1, 0, 0, 0, 0), (0, 0, 0)), ((45, .getfield 15, 3, 8, 2, 2105, 0), (1, 81, 83)), ((48, .iload 4, 2, 0, 0, 0, 0), (0, 0, 0)), ((50, .iaload, 1, 0, 0, 0, 0), (0, 83, 0)), ((51, .aload_n 0, 1, 0, 0, 0, 0), (0, 0, 0)), ((52, .iload_n 1, 1, 0, 0, 0, 0), (0, 0, 0)), ((53, .iconst 1, 1, 0, 0, 0, 0), (0, 0, 0)), ((54, .iadd, 1, 0, 0, 0, 0), (0, 0, 0)), ((55, .iload_n 2, 1, 0, 0, 0, 0), (0, 0, 0)), ((56, .iconst 1, 1, 0, 0, 0, 0), (0, 0, 0)), ((57, .iload_n 3, 1, 0, 0, 0, 0), (0, 0, 0)), ((58, .ishl, 1, 0, 0, 0, 0), (0, 0, 0)), ((59, .iconst (-1), 1, 0, 0, 0, 0), (0, 0, 0)), ((60, .ixor, 1, 0, 0, 0, 0), (0, 0, 0)), ((61, .iand, 1, 0, 0, 0, 0), (0, 0, 0))] (by decide +kernel) rfl ?_
          exact hx_call (E := (62, .invokevirtual 78, 3, 113, 0, 4141, 0)) (M' := yp_m113) [.inr (.inl 81), .inl (gx_w (x1 + 1)), .inl (gx_and x2 (gx_xor (gx_shl 1 x3) (-1)))] [.inl (m 83 (gx_w ((gx_w (x1 * 8)) + x3)).toNat)] rfl (by decide +kernel) rfl ⟨rfl, rfl⟩ rfl rfl (hx_mono (h4 c1 c2 c3 c4) (fun r m' h' => hx_pick [] h'))
        · have c4 : (m 83 (gx_w ((gx_w (x1 * 8)) + x3)).toNat) = (-1) := by have h : ¬ ((m 83 (gx_w ((gx_w (x1 * 8)) + x3)).toNat) ≠ (-1)) := c4; omega
          refine hx_blk (npc := 43) (L' := [(0, .inr (.inl 81)), (1, .inl x1), (2, .inl x2), (3, .inl x3), (4, .inl (gx_w ((gx_w (x1 * 8)) + x3)))]) (st' := [.inl (-1)]) (m' := m) [((42, .iconst (-1), 1, 0, 0, 0, 0), (0, 0, 0))] (by decide +kernel) rfl ?_
          exact hx_reti (by decide +kernel) (h5 c1 c2 c3 c4)

/-- withBuyer from 65 on -/
theorem hr114_65 {xs : List Int32} {n : Nat} {Q : hQ} {m : gx_M} {s0 s1 : Int}
    (h1 : Q (some (.inl (gx_w (s0 + s1)))) m) : hxn xs (n + 1) yp_m114 65 [] [.inl s1, .inl s0] m Q := by
  refine hx_blks (npc := 66) (L' := []) (st' := [.inl (gx_w (s0 + s1))]) (m' := m) ((65, .iadd, 1, 0, 0, 0, 0), (0, 0, 0)) [] (by decide +kernel) rfl ?_
  exact hx_reti (by decide +kernel) h1

/-- bestWith from 0 on -/
theorem hr112_0 {xs : List Int32} {n : Nat} {Q : hQ} {m : gx_M} {x1 x2 : Int}
    (h1 : hxn xs n yp_m113 0 [(0, .inr (.inl 81)), (1, .inl (gx_w (x1 + 1))), (2, .inl x2)] [] m (fun r m' => hxn xs n yp_m112 8 [(0, .inr (.inl 81)), (1, .inl x1), (2, .inl x2)] (hrs r ++ []) m' Q)) : hxn xs (n + 1) yp_m112 0 [(0, .inr (.inl 81)), (1, .inl x1), (2, .inl x2)] [] m Q := by
  refine hx_blks (npc := 5) (L' := [(0, .inr (.inl 81)), (1, .inl x1), (2, .inl x2)]) (st' := [.inl x2, .inl (gx_w (x1 + 1)), .inr (.inl 81)]) (m' := m) ((0, .aload_n 0, 1, 0, 0, 0, 0), (0, 0, 0)) [((1, .iload_n 1, 1, 0, 0, 0, 0), (0, 0, 0)), ((2, .iconst 1, 1, 0, 0, 0, 0), (0, 0, 0)), ((3, .iadd, 1, 0, 0, 0, 0), (0, 0, 0)), ((4, .iload_n 2, 1, 0, 0, 0, 0), (0, 0, 0))] (by decide +kernel) rfl ?_
  exact hx_call (E := (5, .invokevirtual 78, 3, 113, 0, 4141, 0)) (M' := yp_m113) [.inr (.inl 81), .inl (gx_w (x1 + 1)), .inl x2] [] rfl (by decide +kernel) rfl ⟨rfl, rfl⟩ rfl rfl (hx_mono h1 (fun r m' h' => hx_pick [0, 1, 2] h'))

/-- bestWith from 8 on -/
theorem hr112_8 {xs : List Int32} {n : Nat} {Q : hQ} {m : gx_M} {x1 x2 s0 : Int}
    (h1 : hxn xs n yp_m112 12 [(0, .inr (.inl 81)), (1, .inl x1), (2, .inl x2), (3, .inl s0), (4, .inl 0)] [] m Q) : hxn xs (n + 1) yp_m112 8 [(0, .inr (.inl 81)), (1, .inl x1), (2, .inl x2)] [.inl s0] m Q := by
  refine hx_blks (npc := 12) (L' := [(0, .inr (.inl 81)), (1, .inl x1), (2, .inl x2), (3, .inl s0), (4, .inl 0)]) (st' := []) (m' := m) ((8, .istore_n 3, 1, 0, 0, 0, 0), (0, 0, 0)) [((9, .iconst 0, 1, 0, 0, 0, 0), (0, 0, 0)), ((10, .istore 4, 2, 0, 0, 0, 0), (0, 0, 0))] (by decide +kernel) rfl ?_
  exact hx_pick [0, 1, 2, 3, 4] h1

/-- bestWith from 12 on -/
theorem hr112_12 {xs : List Int32} {n : Nat} {Q : hQ} {m : gx_M} {x1 x2 x3 x4 : Int}
    (h1 : (8 ≤ x4) → Q (some (.inl x3)) m)
    (h2 : (x4 < 8) → hxn xs n yp_m114 0 [(0, .inr (.inl 81)), (1, .inl x1), (2, .inl x2), (3, .inl x4)] [] m (fun r m' => hxn xs n yp_m112 28 [(0, .inr (.inl 81)), (1, .inl x1), (2, .inl x2), (4, .inl x4)] (hrs r ++ [.inl x3]) m' Q)) : hxn xs (n + 1) yp_m112 12 [(0, .inr (.inl 81)), (1, .inl x1), (2, .inl x2), (3, .inl x3), (4, .inl x4)] [] m Q := by
  refine hx_blks (npc := 16) (L' := [(0, .inr (.inl 81)), (1, .inl x1), (2, .inl x2), (3, .inl x3), (4, .inl x4)]) (st' := [.inl 8, .inl x4]) (m' := m) ((12, .iload 4, 2, 0, 0, 0, 0), (0, 0, 0)) [((14, .bipush 8, 2, 0, 0, 0, 0), (0, 0, 0))] (by decide +kernel) rfl ?_
  refine hx_cmp .ge 38 (by decide +kernel) (fun c1 => ?_) (fun c1 => ?_)
  · have c1 : 8 ≤ x4 := c1
    refine hx_blk (npc := 39) (L' := [(0, .inr (.inl 81)), (1, .inl x1), (2, .inl x2), (3, .inl x3), (4, .inl x4)]) (st' := [.inl x3]) (m' := m) [((38, .iload_n 3, 1, 0, 0, 0, 0), (0, 0, 0))] (by decide +kernel) rfl ?_
    exact hx_reti (by decide +kernel) (h1 c1)
  · have c1 : x4 < 8 := by have h : ¬ (8 ≤ x4) := c1; omega
    refine hx_blk (npc := 25) (L' := [(0, .inr (.inl 81)), (1, .inl x1), (2, .inl x2), (3, .inl x3), (4, .inl x4)]) (st' := [.inl x4, .inl x2, .inl x1, .inr (.inl 81), .inl x3]) (m' := m) [((19, .iload_n 3, 1, 0, 0, 0, 0), (0, 0, 0)), ((20, .aload_n 0, 1, 0, 0, 0, 0), (0, 0, 0)), ((21, .iload_n 1, 1, 0, 0, 0, 0), (0, 0, 0)), ((22, .iload_n 2, 1, 0, 0, 0, 0), (0, 0, 0)), ((23, .iload 4, 2, 0, 0, 0, 0), (0, 0, 0))] (by decide +kernel) rfl ?_
    exact hx_call (E := (25, .invokevirtual 81, 3, 114, 0, 4145, 0)) (M' := yp_m114) [.inr (.inl 81), .inl x1, .inl x2, .inl x4] [.inl x3] rfl (by decide +kernel) rfl ⟨rfl, rfl⟩ rfl rfl (hx_mono (h2 c1) (fun r m' h' => hx_pick [0, 1, 2, 4] h'))

/-- bestWith from 28 on -/
theorem hr112_28 {xs : List Int32} {n : Nat} {Q : hQ} {m : gx_M} {x1 x2 x4 s0 s1 : Int}
    (h1 : hxn xs n yp_m112 12 [(0, .inr (.inl 81)), (1, .inl x1), (2, .inl x2), (3, .inl (if s0 < s1 then s1 else s0)), (4, .inl (gx_w (x4 + 1)))] [] m Q) : hxn xs (n + 1) yp_m112 28 [(0, .inr (.inl 81)), (1, .inl x1), (2, .inl x2), (4, .inl x4)] [.inl s1, .inl s0] m Q := by
  refine hx_blks (npc := 12) (L' := [(0, .inr (.inl 81)), (1, .inl x1), (2, .inl x2), (4, .inl (gx_w (x4 + 1))), (3, .inl (if s0 < s1 then s1 else s0))]) (st' := []) (m' := m) ((28, .invokestatic 85, 3, 1002, 2224, 4149, 1013002225), (0, 0, 0)) [((31, .istore_n 3, 1, 0, 0, 0, 0), (0, 0, 0)), ((32, .iinc 4 1, 3, 0, 0, 0, 0), (0, 0, 0)), ((35, .goto (-23), 3, 0, 0, 0, 0), (0, 0, 0))] (by decide +kernel) rfl ?_
  exact hx_pick [0, 1, 2, 3, 4] h1

/-- handOut from 0 on -/
theorem hr116_0 {xs : List Int32} {n : Nat} {Q : hQ} {m : gx_M} {x1 : Int}
    (h1 : hxn xs n yp_m116 4 [(0, .inr (.inl 81)), (2, .inl x1), (3, .inl 0)] [] m Q) : hxn xs (n + 1) yp_m116 0 [(0, .inr (.inl 81)), (1, .inl x1)] [] m Q := by
  refine hx_blks (npc := 4) (L' := [(0, .inr (.inl 81)), (1, .inl x1), (2, .inl x1), (3, .inl 0)]) (st' := []) (m' := m) ((0, .iload_n 1, 1, 0, 0, 0, 0), (0, 0, 0)) [((1, .istore_n 2, 1, 0, 0, 0, 0), (0, 0, 0)), ((2, .iconst 0, 1, 0, 0, 0, 0), (0, 0, 0)), ((3, .istore_n 3, 1, 0, 0, 0, 0), (0, 0, 0))] (by decide +kernel) rfl ?_
  exact hx_pick [0, 2, 3] h1

/-- handOut from 4 on -/
theorem hr116_4 {xs : List Int32} {n : Nat} {Q : hQ} {m : gx_M} {x2 x3 : Int}
    (h1 : ((m 81 1) ≤ x3) → Q none m)
    (h2 : (x3 < (m 81 1)) → (8 ≤ x3) → Q none m)
    (h3 : (x3 < (m 81 1)) → (x3 < 8) → hxn xs n yp_m116 29 [(0, .inr (.inl 81)), (2, .inl x2), (3, .inl x3), (4, .inl 0)] [] (gx_u m 85 (x3).toNat 8) Q) : hxn xs (n + 1) yp_m116 4 [(0, .inr (.inl 81)), (2, .inl x2), (3, .inl x3)] [] m Q := by
  refine hx_blks (npc := 9) (L' := [(0, .inr (.inl 81)), (2, .inl x2), (3, .inl x3)]) (st' := [.inl (m 81 1), .inl x3]) (m' := m) ((4, .iload_n 3, 1, 0, 0, 0, 0), (0, 0, 0)) [((5, .aload_n 0, 1, 0, 0, 0, 0), (0, 0, 0)), ((6, .getfield 36, 3, 8, 1, 2104, 0), (0, 81, 0))] (by decide +kernel) rfl ?_
  refine hx_cmp .ge 97 (by decide +kernel) (fun c1 => ?_) (fun c1 => ?_)
  · have c1 : (m 81 1) ≤ x3 := c1
    exact hx_ret0 (by decide +kernel) (h1 c1)
  · have c1 : x3 < (m 81 1) := by have h : ¬ ((m 81 1) ≤ x3) := c1; omega
    refine hx_blk (npc := 15) (L' := [(0, .inr (.inl 81)), (2, .inl x2), (3, .inl x3)]) (st' := [.inl 8, .inl x3]) (m' := m) [((12, .iload_n 3, 1, 0, 0, 0, 0), (0, 0, 0)), ((13, .bipush 8, 2, 0, 0, 0, 0), (0, 0, 0))] (by decide +kernel) rfl ?_
    refine hx_cmp .ge 97 (by decide +kernel) (fun c2 => ?_) (fun c2 => ?_)
    · have c2 : 8 ≤ x3 := c2
      exact hx_ret0 (by decide +kernel) (h2 c1 c2)
    · have c2 : x3 < 8 := by have h : ¬ (8 ≤ x3) := c2; omega
      refine hx_blk (npc := 29) (L' := [(0, .inr (.inl 81)), (2, .inl x2), (3, .inl x3), (4, .inl 0)]) (st' := []) (m' := (gx_u m 85 (x3).toNat 8)) [((18, .aload_n 0, 1, 0, 0, 0, 0), (0, 0, 0)), ((19, .getfield 21, 3, 8, 4, 2107, 0), (1, 81, 85)), ((22, .iload_n 3, 1, 0, 0, 0, 0), (0, 0, 0)), ((23, .bipush 8, 2, 0, 0, 0, 0), (0, 0, 0)), ((25, .iastore, 1, 0, 0, 0, 0), (0, 85, 0)), ((26, .iconst 0, 1, 0, 0, 0, 0), (0, 0, 0)), ((27, .istore 4, 2, 0, 0, 0, 0), (0, 0, 0))] (by decide +kernel) rfl ?_
      exact hx_pick [0, 2, 3, 4] (h3 c1 c2)

/-- handOut from 29 on -/
theorem hr116_29 {xs : List Int32} {n : Nat} {Q : hQ} {m : gx_M} {x2 x3 x4 : Int}
    (h1 : (8 ≤ x4) → hxn xs n yp_m116 4 [(0, .inr (.inl 81)), (2, .inl (gx_and x2 (gx_xor (gx_shl 1 (m 85 (x3).toNat)) (-1)))), (3, .inl (gx_w (x3 + 1)))] [] m Q)
    (h2 : (x4 < 8) → ((m 85 (x3).toNat) ≠ 8) → hxn xs n yp_m116 4 [(0, .inr (.inl 81)), (2, .inl (gx_and x2 (gx_xor (gx_shl 1 (m 85 (x3).toNat)) (-1)))), (3, .inl (gx_w (x3 + 1)))] [] m Q)
    (h3 : (x4 < 8) → ((m 85 (x3).toNat) = 8) → hxn xs n yp_m114 0 [(0, .inr (.inl 81)), (1, .inl x3), (2, .inl x2), (3, .inl x4)] [] m (fun r m' => hxn xs n yp_m116 55 [(0, .inr (.inl 81)), (2, .inl x2), (3, .inl x3), (4, .inl x4)] (hrs r ++ []) m' Q)) : hxn xs (n + 1) yp_m116 29 [(0, .inr (.inl 81)), (2, .inl x2), (3, .inl x3), (4, .inl x4)] [] m Q := by
  refine hx_blks (npc := 33) (L' := [(0, .inr (.inl 81)), (2, .inl x2), (3, .inl x3), (4, .inl x4)]) (st' := [.inl 8, .inl x4]) (m' := m) ((29, .iload 4, 2, 0, 0, 0, 0), (0, 0, 0)) [((31, .bipush 8, 2, 0, 0, 0, 0), (0, 0, 0))] (by decide +kernel) rfl ?_
  refine hx_cmp .ge 78 (by decide +kernel) (fun c1 => ?_) (fun c1 => ?_)
  · have c1 : 8 ≤ x4 := c1
    refine hx_blk (npc := 4) (L' := [(0, .inr (.inl 81)), (2, .inl (gx_and x2 (gx_xor (gx_shl 1 (m 85 (x3).toNat)) (-1)))), (3, .inl (gx_w (x3 + 1))), (4, .inl x4)]) (st' := []) (m' := m) [((78, .iload_n 2, 1, 0, 0, 0, 0), (0, 0, 0)), ((79, .iconst 1, 1, 0, 0, 0, 0), (0, 0, 0)), ((80, .aload_n 0, 1, 0, 0, 0, 0), (0, 0, 0)), ((81, .getfield 21, 3, 8, 4, 2107, 0), (1, 81, 85)), ((84, .iload_n 3, 1, 0, 0, 0, 0), (0, 0, 0)), ((85, .iaload, 1, 0, 0, 0, 0), (0, 85, 0)), ((86, .ishl, 1, 0, 0, 0, 0), (0, 0, 0)), ((87, .iconst (-1), 1, 0, 0, 0, 0), (0, 0, 0)), ((88, .ixor, 1, 0, 0, 0, 0), (0, 0, 0)), ((89, .iand, 1, 0, 0, 0, 0), (0, 0, 0)), ((90, .istore_n 2, 1, 0, 0, 0, 0), (0, 0, 0)), ((91, .iinc 3 1, 3, 0, 0, 0, 0), (0, 0, 0)), ((94, .goto (-90), 3, 0, 0, 0, 0), (0, 0, 0))] (by decide +kernel) rfl ?_
    exact hx_pick [0, 2, 3] (h1 c1)
  · have c1 : x4 < 8 := by have h : ¬ (8 ≤ x4) := c1; omega
    refine hx_blk (npc := 44) (L' := [(0, .inr (.inl 81)), (2, .inl x2), (3, .inl x3), (4, .inl x4)]) (st' := [.inl 8, .inl (m 85 (x3).toNat)]) (m' := m) [((36, .aload_n 0, 1, 0, 0, 0, 0), (0, 0, 0)), ((37, .getfield 21, 3, 8, 4, 2107, 0), (1, 81, 85)), ((40, .iload_n 3, 1, 0, 0, 0, 0), (0, 0, 0)), ((41, .iaload, 1, 0, 0, 0, 0), (0, 85, 0)), ((42, .bipush 8, 2, 0, 0, 0, 0), (0, 0, 0))] (by decide +kernel) rfl ?_
    refine hx_cmp .ne 78 (by decide +kernel) (fun c2 => ?_) (fun c2 => ?_)
    · have c2 : (m 85 (x3).toNat) ≠ 8 := c2
      refine hx_blk (npc := 4) (L' := [(0, .inr (.inl 81)), (2, .inl (gx_and x2 (gx_xor (gx_shl 1 (m 85 (x3).toNat)) (-1)))), (3, .inl (gx_w (x3 + 1))), (4, .inl x4)]) (st' := []) (m' := m) [((78, .iload_n 2, 1, 0, 0, 0, 0), (0, 0, 0)), ((79, .iconst 1, 1, 0, 0, 0, 0), (0, 0, 0)), ((80, .aload_n 0, 1, 0, 0, 0, 0), (0, 0, 0)), ((81, .getfield 21, 3, 8, 4, 2107, 0), (1, 81, 85)), ((84, .iload_n 3, 1, 0, 0, 0, 0), (0, 0, 0)), ((85, .iaload, 1, 0, 0, 0, 0), (0, 85, 0)), ((86, .ishl, 1, 0, 0, 0, 0), (0, 0, 0)), ((87, .iconst (-1), 1, 0, 0, 0, 0), (0, 0, 0)), ((88, .ixor, 1, 0, 0, 0, 0), (0, 0, 0)), ((89, .iand, 1, 0, 0, 0, 0), (0, 0, 0)), ((90, .istore_n 2, 1, 0, 0, 0, 0), (0, 0, 0)), ((91, .iinc 3 1, 3, 0, 0, 0, 0), (0, 0, 0)), ((94, .goto (-90), 3, 0, 0, 0, 0), (0, 0, 0))] (by decide +kernel) rfl ?_
      exact hx_pick [0, 2, 3] (h2 c1 c2)
    · have c2 : (m 85 (x3).toNat) = 8 := by have h : ¬ ((m 85 (x3).toNat) ≠ 8) := c2; omega
      refine hx_blk (npc := 52) (L' := [(0, .inr (.inl 81)), (2, .inl x2), (3, .inl x3), (4, .inl x4)]) (st' := [.inl x4, .inl x2, .inl x3, .inr (.inl 81)]) (m' := m) [((47, .aload_n 0, 1, 0, 0, 0, 0), (0, 0, 0)), ((48, .iload_n 3, 1, 0, 0, 0, 0), (0, 0, 0)), ((49, .iload_n 2, 1, 0, 0, 0, 0), (0, 0, 0)), ((50, .iload 4, 2, 0, 0, 0, 0), (0, 0, 0))] (by decide +kernel) rfl ?_
      exact hx_call (E := (52, .invokevirtual 81, 3, 114, 0, 4145, 0)) (M' := yp_m114) [.inr (.inl 81), .inl x3, .inl x2, .inl x4] [] rfl (by decide +kernel) rfl ⟨rfl, rfl⟩ rfl rfl (hx_mono (h3 c1 c2) (fun r m' h' => hx_pick [0, 2, 3, 4] h'))

/-- handOut from 55 on -/
theorem hr116_55 {xs : List Int32} {n : Nat} {Q : hQ} {m : gx_M} {x2 x3 x4 s0 : Int}
    (h1 : hxn xs n yp_m113 0 [(0, .inr (.inl 81)), (1, .inl x3), (2, .inl x2)] [] m (fun r m' => hxn xs n yp_m116 61 [(0, .inr (.inl 81)), (2, .inl x2), (3, .inl x3), (4, .inl x4)] (hrs r ++ [.inl s0]) m' Q)) : hxn xs (n + 1) yp_m116 55 [(0, .inr (.inl 81)), (2, .inl x2), (3, .inl x3), (4, .inl x4)] [.inl s0] m Q := by
  refine hx_blks (npc := 58) (L' := [(0, .inr (.inl 81)), (2, .inl x2), (3, .inl x3), (4, .inl x4)]) (st' := [.inl x2, .inl x3, .inr (.inl 81), .inl s0]) (m' := m) ((55, .aload_n 0, 1, 0, 0, 0, 0), (0, 0, 0)) [((56, .iload_n 3, 1, 0, 0, 0, 0), (0, 0, 0)), ((57, .iload_n 2, 1, 0, 0, 0, 0), (0, 0, 0))] (by decide +kernel) rfl ?_
  exact hx_call (E := (58, .invokevirtual 78, 3, 113, 0, 4141, 0)) (M' := yp_m113) [.inr (.inl 81), .inl x3, .inl x2] [.inl s0] rfl (by decide +kernel) rfl ⟨rfl, rfl⟩ rfl rfl (hx_mono h1 (fun r m' h' => hx_pick [0, 2, 3, 4] h'))

/-- handOut from 61 on -/
theorem hr116_61 {xs : List Int32} {n : Nat} {Q : hQ} {m : gx_M} {x2 x3 x4 s0 s1 : Int}
    (h1 : (s0 ≠ s1) → hxn xs n yp_m116 29 [(0, .inr (.inl 81)), (2, .inl x2), (3, .inl x3), (4, .inl (gx_w (x4 + 1)))] [] m Q)
    (h2 : (s0 = s1) → hxn xs n yp_m116 29 [(0, .inr (.inl 81)), (2, .inl x2), (3, .inl x3), (4, .inl (gx_w (x4 + 1)))] [] (gx_u m 85 (x3).toNat x4) Q) : hxn xs (n + 1) yp_m116 61 [(0, .inr (.inl 81)), (2, .inl x2), (3, .inl x3), (4, .inl x4)] [.inl s1, .inl s0] m Q := by
  refine hx_cmps .ne 72 (by decide +kernel) (fun c1 => ?_) (fun c1 => ?_)
  · have c1 : s0 ≠ s1 := c1
    refine hx_blk (npc := 29) (L' := [(0, .inr (.inl 81)), (2, .inl x2), (3, .inl x3), (4, .inl (gx_w (x4 + 1)))]) (st' := []) (m' := m) [((72, .iinc 4 1, 3, 0, 0, 0, 0), (0, 0, 0)), ((75, .goto (-46), 3, 0, 0, 0, 0), (0, 0, 0))] (by decide +kernel) rfl ?_
    exact hx_pick [0, 2, 3, 4] (h1 c1)
  · have c1 : s0 = s1 := by have h : ¬ (s0 ≠ s1) := c1; omega
    refine hx_blk (npc := 29) (L' := [(0, .inr (.inl 81)), (2, .inl x2), (3, .inl x3), (4, .inl (gx_w (x4 + 1)))]) (st' := []) (m' := (gx_u m 85 (x3).toNat x4)) [((64, .aload_n 0, 1, 0, 0, 0, 0), (0, 0, 0)), ((65, .getfield 21, 3, 8, 4, 2107, 0), (1, 81, 85)), ((68, .iload_n 3, 1, 0, 0, 0, 0), (0, 0, 0)), ((69, .iload 4, 2, 0, 0, 0, 0), (0, 0, 0)), ((71, .iastore, 1, 0, 0, 0, 0), (0, 85, 0)), ((72, .iinc 4 1, 3, 0, 0, 0, 0), (0, 0, 0)), ((75, .goto (-46), 3, 0, 0, 0, 0), (0, 0, 0))] (by decide +kernel) rfl ?_
    exact hx_pick [0, 2, 3, 4] (h2 c1)

/-- sell from 0 on -/
theorem hr110_0 {xs : List Int32} {n : Nat} {Q : hQ} {m : gx_M} {x3 : Int}
    (h1 : hxn xs n yp_m110 3 [(0, .inr (.inl 81)), (1, .inr (.inl 5)), (2, .inr (.inl 44)), (3, .inl x3), (4, .inl 0)] [] m Q) : hxn xs (n + 1) yp_m110 0 [(0, .inr (.inl 81)), (1, .inr (.inl 5)), (2, .inr (.inl 44)), (3, .inl x3)] [] m Q := by
  refine hx_blks (npc := 3) (L' := [(0, .inr (.inl 81)), (1, .inr (.inl 5)), (2, .inr (.inl 44)), (3, .inl x3), (4, .inl 0)]) (st' := []) (m' := m) ((0, .iconst 0, 1, 0, 0, 0, 0), (0, 0, 0)) [((1, .istore 4, 2, 0, 0, 0, 0), (0, 0, 0))] (by decide +kernel) rfl ?_
  exact hx_pick [0, 1, 2, 3, 4] h1

/-- sell from 3 on -/
theorem hr110_3 {xs : List Int32} {n : Nat} {Q : hQ} {m : gx_M} {x3 x4 : Int}
    (h1 : ((m 81 1) ≤ x4) → hxn xs n yp_m110 118 [(0, .inr (.inl 81)), (3, .inl x3), (4, .inl (m 81 1))] [] m Q)
    (h2 : (x4 < (m 81 1)) → (6 ≤ x4) → hxn xs n yp_m110 118 [(0, .inr (.inl 81)), (3, .inl x3), (4, .inl (m 81 1))] [] m Q)
    (h3 : (x4 < (m 81 1)) → (x4 < 6) → hxn xs n yp_m111 0 [(0, .inr (.inl 81)), (1, .inr (.inl 5)), (2, .inl x4)] [] m (fun r m' => hxn xs n yp_m110 26 [(0, .inr (.inl 81)), (1, .inr (.inl 5)), (2, .inr (.inl 44)), (3, .inl x3), (4, .inl x4)] (hrs r ++ []) m' Q)) : hxn xs (n + 1) yp_m110 3 [(0, .inr (.inl 81)), (1, .inr (.inl 5)), (2, .inr (.inl 44)), (3, .inl x3), (4, .inl x4)] [] m Q := by
  refine hx_blks (npc := 9) (L' := [(0, .inr (.inl 81)), (1, .inr (.inl 5)), (2, .inr (.inl 44)), (3, .inl x3), (4, .inl x4)]) (st' := [.inl (m 81 1), .inl x4]) (m' := m) ((3, .iload 4, 2, 0, 0, 0, 0), (0, 0, 0)) [((5, .aload_n 0, 1, 0, 0, 0, 0), (0, 0, 0)), ((6, .getfield 36, 3, 8, 1, 2104, 0), (0, 81, 0))] (by decide +kernel) rfl ?_
  refine hx_cmp .ge 112 (by decide +kernel) (fun c1 => ?_) (fun c1 => ?_)
  · have c1 : (m 81 1) ≤ x4 := c1
    refine hx_blk (npc := 118) (L' := [(0, .inr (.inl 81)), (1, .inr (.inl 5)), (2, .inr (.inl 44)), (3, .inl x3), (4, .inl (m 81 1))]) (st' := []) (m' := m) [((112, .aload_n 0, 1, 0, 0, 0, 0), (0, 0, 0)), ((113, .getfield 36, 3, 8, 1, 2104, 0), (0, 81, 0)), ((116, .istore 4, 2, 0, 0, 0, 0), (0, 0, 0))] (by decide +kernel) rfl ?_
    exact hx_pick [0, 3, 4] (h1 c1)
  · have c1 : x4 < (m 81 1) := by have h : ¬ ((m 81 1) ≤ x4) := c1; omega
    refine hx_blk (npc := 16) (L' := [(0, .inr (.inl 81)), (1, .inr (.inl 5)), (2, .inr (.inl 44)), (3, .inl x3), (4, .inl x4)]) (st' := [.inl 6, .inl x4]) (m' := m) [((12, .iload 4, 2, 0, 0, 0, 0), (0, 0, 0)), ((14, .bipush 6, 2, 0, 0, 0, 0), (0, 0, 0))] (by decide +kernel) rfl ?_
    refine hx_cmp .ge 112 (by decide +kernel) (fun c2 => ?_) (fun c2 => ?_)
    · have c2 : 6 ≤ x4 := c2
      refine hx_blk (npc := 118) (L' := [(0, .inr (.inl 81)), (1, .inr (.inl 5)), (2, .inr (.inl 44)), (3, .inl x3), (4, .inl (m 81 1))]) (st' := []) (m' := m) [((112, .aload_n 0, 1, 0, 0, 0, 0), (0, 0, 0)), ((113, .getfield 36, 3, 8, 1, 2104, 0), (0, 81, 0)), ((116, .istore 4, 2, 0, 0, 0, 0), (0, 0, 0))] (by decide +kernel) rfl ?_
      exact hx_pick [0, 3, 4] (h2 c1 c2)
    · have c2 : x4 < 6 := by have h : ¬ (6 ≤ x4) := c2; omega
      refine hx_blk (npc := 23) (L' := [(0, .inr (.inl 81)), (1, .inr (.inl 5)), (2, .inr (.inl 44)), (3, .inl x3), (4, .inl x4)]) (st' := [.inl x4, .inr (.inl 5), .inr (.inl 81)]) (m' := m) [((19, .aload_n 0, 1, 0, 0, 0, 0), (0, 0, 0)), ((20, .aload_n 1, 1, 0, 0, 0, 0), (0, 0, 0)), ((21, .iload 4, 2, 0, 0, 0, 0), (0, 0, 0))] (by decide +kernel) rfl ?_
      exact hx_call (E := (23, .invokevirtual 54, 3, 111, 0, 4132, 0)) (M' := yp_m111) [.inr (.inl 81), .inr (.inl 5), .inl x4] [] rfl (by decide +kernel) rfl ⟨rfl, rfl⟩ rfl rfl (hx_mono (h3 c1 c2) (fun r m' h' => hx_pick [0, 1, 2, 3, 4] h'))

/-- sell from 26 on -/
theorem hr110_26 {xs : List Int32} {n : Nat} {Q : hQ} {m : gx_M} {x3 x4 s0 : Int}
    (h1 : hxn xs n yp_m110 31 [(0, .inr (.inl 81)), (1, .inr (.inl 5)), (2, .inr (.inl 44)), (3, .inl x3), (4, .inl x4), (5, .inl s0), (6, .inl 0)] [] m Q) : hxn xs (n + 1) yp_m110 26 [(0, .inr (.inl 81)), (1, .inr (.inl 5)), (2, .inr (.inl 44)), (3, .inl x3), (4, .inl x4)] [.inl s0] m Q := by
  refine hx_blks (npc := 31) (L' := [(0, .inr (.inl 81)), (1, .inr (.inl 5)), (2, .inr (.inl 44)), (3, .inl x3), (4, .inl x4), (5, .inl s0), (6, .inl 0)]) (st' := []) (m' := m) ((26, .istore 5, 2, 0, 0, 0, 0), (0, 0, 0)) [((28, .iconst 0, 1, 0, 0, 0, 0), (0, 0, 0)), ((29, .istore 6, 2, 0, 0, 0, 0), (0, 0, 0))] (by decide +kernel) rfl ?_
  exact hx_pick [0, 1, 2, 3, 4, 5, 6] h1

/-- sell from 31 on -/
theorem hr110_31 {xs : List Int32} {n : Nat} {Q : hQ} {m : gx_M} {x3 x4 x5 x6 : Int}
    (h1 : (8 ≤ x6) → hxn xs n yp_m110 3 [(0, .inr (.inl 81)), (1, .inr (.inl 5)), (2, .inr (.inl 44)), (3, .inl x3), (4, .inl (gx_w (x4 + 1)))] [] m Q)
    (h2 : (x6 < 8) → (x6 = x5) → hxn xs n yp_m110 31 [(0, .inr (.inl 81)), (1, .inr (.inl 5)), (2, .inr (.inl 44)), (3, .inl x3), (4, .inl x4), (5, .inl x5), (6, .inl (gx_w (x6 + 1)))] [] (gx_u m 83 (gx_w ((gx_w (x4 * 8)) + x6)).toNat (-1)) Q)
    (h3 : (x6 < 8) → (x6 ≠ x5) → ((gx_and (gx_shr x3 x6) 1) = 0) → hxn xs n yp_m110 31 [(0, .inr (.inl 81)), (1, .inr (.inl 5)), (2, .inr (.inl 44)), (3, .inl x3), (4, .inl x4), (5, .inl x5), (6, .inl (gx_w (x6 + 1)))] [] (gx_u m 83 (gx_w ((gx_w (x4 * 8)) + x6)).toNat (-1)) Q)
    (h4 : (x6 < 8) → (x6 ≠ x5) → ((gx_and (gx_shr x3 x6) 1) ≠ 0) → hxn xs n yp_m82 0 [(0, .inr (.inl 44)), (1, .inr (.inl 5)), (2, .inl 118), (3, .inl (m 82 (x4).toNat)), (4, .inl x6), (5, .inl 0)] [] m (fun r m' => hxn xs n yp_m110 95 [(0, .inr (.inl 81)), (1, .inr (.inl 5)), (2, .inr (.inl 44)), (3, .inl x3), (4, .inl x4), (5, .inl x5), (6, .inl x6)] (hrs r ++ [.inl (gx_w ((gx_w (x4 * 8)) + x6)), .inr (.inl 83)]) m' Q)) : hxn xs (n + 1) yp_m110 31 [(0, .inr (.inl 81)), (1, .inr (.inl 5)), (2, .inr (.inl 44)), (3, .inl x3), (4, .inl x4), (5, .inl x5), (6, .inl x6)] [] m Q := by
  refine hx_blks (npc := 35) (L' := [(0, .inr (.inl 81)), (1, .inr (.inl 5)), (2, .inr (.inl 44)), (3, .inl x3), (4, .inl x4), (5, .inl x5), (6, .inl x6)]) (st' := [.inl 8, .inl x6]) (m' := m) ((31, .iload 6, 2, 0, 0, 0, 0), (0, 0, 0)) [((33, .bipush 8, 2, 0, 0, 0, 0), (0, 0, 0))] (by decide +kernel) rfl ?_
  refine hx_cmp .ge 106 (by decide +kernel) (fun c1 => ?_) (fun c1 => ?_)
  · have c1 : 8 ≤ x6 := c1
    refine hx_blk (npc := 3) (L' := [(0, .inr (.inl 81)), (1, .inr (.inl 5)), (2, .inr (.inl 44)), (3, .inl x3), (4, .inl (gx_w (x4 + 1))), (5, .inl x5), (6, .inl x6)]) (st' := []) (m' := m) [((106, .iinc 4 1, 3, 0, 0, 0, 0), (0, 0, 0)), ((109, .goto (-106), 3, 0, 0, 0, 0), (0, 0, 0))] (by decide +kernel) rfl ?_
    exact hx_pick [0, 1, 2, 3, 4] (h1 c1)
  · have c1 : x6 < 8 := by have h : ¬ (8 ≤ x6) := c1; omega
    refine hx_blk (npc := 42) (L' := [(0, .inr (.inl 81)), (1, .inr (.inl 5)), (2, .inr (.inl 44)), (3, .inl x3), (4, .inl x4), (5, .inl x5), (6, .inl x6)]) (st' := [.inl x5, .inl x6]) (m' := m) [((38, .iload 6, 2, 0, 0, 0, 0), (0, 0, 0)), ((40, .iload 5, 2, 0, 0, 0, 0), (0, 0, 0))] (by decide +kernel) rfl ?_
    refine hx_cmp .eq 58 (by decide +kernel) (fun c2 => ?_) (fun c2 => ?_)
    · have c2 : x6 = x5 := c2
      refine hx_blk (npc := 75) (L' := [(0, .inr (.inl 81)), (1, .inr (.inl 5)), (2, .inr (.inl 44)), (3, .inl x3), (4, .inl x4), (5, .inl x5), (6, .inl x6), (7, .inl 0)]) (st' := [.inl 0, .inl (gx_w ((gx_w (x4 * 8)) + x6)), .inr (.inl 83)]) (m' := m) [((58, .iconst 0, 1, 0, 0, 0, 0), (0, 0, 0)), ((59, .istore 7, 2, 0, 0, 0, 0), (0, 0, 0)), ((61, .aload_n 0, 1, 0, 0, 0, 0), (0, 0, 0)), ((62, .getfield 15, 3, 8, 2, 2105, 0), (1, 81, 83)), ((65, .iload 4, 2, 0, 0, 0, 0), (0, 0, 0)), ((67, .bipush 8, 2, 0, 0, 0, 0), (0, 0, 0)), ((69, .imul, 1, 0, 0, 0, 0), (0, 0, 0)), ((70, .iload 6, 2, 0, 0, 0, 0), (0, 0, 0)), ((72, .iadd, 1, 0, 0, 0, 0), (0, 0, 0)), ((73, .iload 7, 2, 0, 0, 0, 0), (0, 0, 0))] (by decide +kernel) rfl ?_
      refine hx_if .eq 98 (by decide +kernel) (fun c3 => ?_) (fun c3 => ?_)
      · have c3 : (0 : Int) = 0 := c3
        refine hx_blk (npc := 31) (L' := [(0, .inr (.inl 81)), (1, .inr (.inl 5)), (2, .inr (.inl 44)), (3, .inl x3), (4, .inl x4), (5, .inl x5), (6, .inl (gx_w (x6 + 1))), (7, .inl 0)]) (st' := []) (m' := (gx_u m 83 (gx_w ((gx_w (x4 * 8)) + x6)).toNat (-1))) [((98, .iconst (-1), 1, 0, 0, 0, 0), (0, 0, 0)), ((99, .iastore, 1, 0, 0, 0, 0), (0, 83, 0)), ((100, .iinc 6 1, 3, 0, 0, 0, 0), (0, 0, 0)), ((103, .goto (-72), 3, 0, 0, 0, 0), (0, 0, 0))] (by decide +kernel) rfl ?_
        exact hx_pick [0, 1, 2, 3, 4, 5, 6] (h2 c1 c2)
      · have c3 : (0 : Int) ≠ 0 := c3
        exfalso; omega
    · have c2 : x6 ≠ x5 := c2
      have f1 := gx_and_bd (gx_shr x3 x6) 1 (by decide)
      refine hx_blk (npc := 51) (L' := [(0, .inr (.inl 81)), (1, .inr (.inl 5)), (2, .inr (.inl 44)), (3, .inl x3), (4, .inl x4), (5, .inl x5), (6, .inl x6)]) (st' := [.inl (gx_and (gx_shr x3 x6) 1)]) (m' := m) [((45, .iload_n 3, 1, 0, 0, 0, 0), (0, 0, 0)), ((46, .iload 6, 2, 0, 0, 0, 0), (0, 0, 0)), ((48, .ishr, 1, 0, 0, 0, 0), (0, 0, 0)), ((49, .iconst 1, 1, 0, 0, 0, 0), (0, 0, 0)), ((50, .iand, 1, 0, 0, 0, 0), (0, 0, 0))] (by decide +kernel) rfl ?_
      refine hx_if .eq 58 (by decide +kernel) (fun c3 => ?_) (fun c3 => ?_)
      · have c3 : (gx_and (gx_shr x3 x6) 1) = 0 := c3
        refine hx_blk (npc := 75) (L' := [(0, .inr (.inl 81)), (1, .inr (.inl 5)), (2, .inr (.inl 44)), (3, .inl x3), (4, .inl x4), (5, .inl x5), (6, .inl x6), (7, .inl 0)]) (st' := [.inl 0, .inl (gx_w ((gx_w (x4 * 8)) + x6)), .inr (.inl 83)]) (m' := m) [((58, .iconst 0, 1, 0, 0, 0, 0), (0, 0, 0)), ((59, .istore 7, 2, 0, 0, 0, 0), (0, 0, 0)), ((61, .aload_n 0, 1, 0, 0, 0, 0), (0, 0, 0)), ((62, .getfield 15, 3, 8, 2, 2105, 0), (1, 81, 83)), ((65, .iload 4, 2, 0, 0, 0, 0), (0, 0, 0)), ((67, .bipush 8, 2, 0, 0, 0, 0), (0, 0, 0)), ((69, .imul, 1, 0, 0, 0, 0), (0, 0, 0)), ((70, .iload 6, 2, 0, 0, 0, 0), (0, 0, 0)), ((72, .iadd, 1, 0, 0, 0, 0), (0, 0, 0)), ((73, .iload 7, 2, 0, 0, 0, 0), (0, 0, 0))] (by decide +kernel) rfl ?_
        refine hx_if .eq 98 (by decide +kernel) (fun c4 => ?_) (fun c4 => ?_)
        · have c4 : (0 : Int) = 0 := c4
          refine hx_blk (npc := 31) (L' := [(0, .inr (.inl 81)), (1, .inr (.inl 5)), (2, .inr (.inl 44)), (3, .inl x3), (4, .inl x4), (5, .inl x5), (6, .inl (gx_w (x6 + 1))), (7, .inl 0)]) (st' := []) (m' := (gx_u m 83 (gx_w ((gx_w (x4 * 8)) + x6)).toNat (-1))) [((98, .iconst (-1), 1, 0, 0, 0, 0), (0, 0, 0)), ((99, .iastore, 1, 0, 0, 0, 0), (0, 83, 0)), ((100, .iinc 6 1, 3, 0, 0, 0, 0), (0, 0, 0)), ((103, .goto (-72), 3, 0, 0, 0, 0), (0, 0, 0))] (by decide +kernel) rfl ?_
          exact hx_pick [0, 1, 2, 3, 4, 5, 6] (h3 c1 c2 c3)
        · have c4 : (0 : Int) ≠ 0 := c4
          exfalso; omega
      · have c3 : (gx_and (gx_shr x3 x6) 1) ≠ 0 := c3
        refine hx_blk (npc := 75) (L' := [(0, .inr (.inl 81)), (1, .inr (.inl 5)), (2, .inr (.inl 44)), (3, .inl x3), (4, .inl x4), (5, .inl x5), (6, .inl x6), (7, .inl 1)]) (st' := [.inl 1, .inl (gx_w ((gx_w (x4 * 8)) + x6)), .inr (.inl 83)]) (m' := m) [((54, .iconst 1, 1, 0, 0, 0, 0), (0, 0, 0)), ((55, .goto 4, 3, 0, 0, 0, 0), (0, 0, 0)), ((59, .istore 7, 2, 0, 0, 0, 0), (0, 0, 0)), ((61, .aload_n 0, 1, 0, 0, 0, 0), (0, 0, 0)), ((62, .getfield 15, 3, 8, 2, 2105, 0), (1, 81, 83)), ((65, .iload 4, 2, 0, 0, 0, 0), (0, 0, 0)), ((67, .bipush 8, 2, 0, 0, 0, 0), (0, 0, 0)), ((69, .imul, 1, 0, 0, 0, 0), (0, 0, 0)), ((70, .iload 6, 2, 0, 0, 0, 0), (0, 0, 0)), ((72, .iadd, 1, 0, 0, 0, 0), (0, 0, 0)), ((73, .iload 7, 2, 0, 0, 0, 0), (0, 0, 0))] (by decide +kernel) rfl ?_
        refine hx_if .eq 98 (by decide +kernel) (fun c4 => ?_) (fun c4 => ?_)
        · have c4 : (1 : Int) = 0 := c4
          exfalso; omega
        · have c4 : (1 : Int) ≠ 0 := c4
          refine hx_blk (npc := 92) (L' := [(0, .inr (.inl 81)), (1, .inr (.inl 5)), (2, .inr (.inl 44)), (3, .inl x3), (4, .inl x4), (5, .inl x5), (6, .inl x6), (7, .inl 1)]) (st' := [.inl 0, .inl x6, .inl (m 82 (x4).toNat), .inl 118, .inr (.inl 5), .inr (.inl 44), .inl (gx_w ((gx_w (x4 * 8)) + x6)), .inr (.inl 83)]) (m' := m) [((78, .aload_n 2, 1, 0, 0, 0, 0), (0, 0, 0)), ((79, .aload_n 1, 1, 0, 0, 0, 0), (0, 0, 0)), ((80, .bipush 118, 2, 0, 0, 0, 0), (0, 0, 0)), ((82, .aload_n 0, 1, 0, 0, 0, 0), (0, 0, 0)), ((83, .getfield 9, 3, 8, 0, 2103, 0), (1, 81, 82)), ((86, .iload 4, 2, 0, 0, 0, 0), (0, 0, 0)), ((88, .iaload, 1, 0, 0, 0, 0), (0, 82, 0)), ((89, .iload 6, 2, 0, 0, 0, 0), (0, 0, 0)), ((91, .iconst 0, 1, 0, 0, 0, 0), (0, 0, 0))] (by decide +kernel) rfl ?_
          exact hx_call (E := (92, .invokevirtual 61, 3, 82, 0, 4136, 0)) (M' := yp_m82) [.inr (.inl 44), .inr (.inl 5), .inl 118, .inl (m 82 (x4).toNat), .inl x6, .inl 0] [.inl (gx_w ((gx_w (x4 * 8)) + x6)), .inr (.inl 83)] rfl (by decide +kernel) rfl ⟨rfl, rfl⟩ rfl rfl (hx_mono (h4 c1 c2 c3) (fun r m' h' => hx_pick [0, 1, 2, 3, 4, 5, 6] h'))

/-- sell from 95 on -/
theorem hr110_95 {xs : List Int32} {n : Nat} {Q : hQ} {m : gx_M} {x3 x4 x5 x6 s1 s2 : Int}
    (h1 : hxn xs n yp_m110 31 [(0, .inr (.inl 81)), (1, .inr (.inl 5)), (2, .inr (.inl 44)), (3, .inl x3), (4, .inl x4), (5, .inl x5), (6, .inl (gx_w (x6 + 1)))] [] (gx_u m 83 (s1).toNat s2) Q) : hxn xs (n + 1) yp_m110 95 [(0, .inr (.inl 81)), (1, .inr (.inl 5)), (2, .inr (.inl 44)), (3, .inl x3), (4, .inl x4), (5, .inl x5), (6, .inl x6)] [.inl s2, .inl s1, .inr (.inl 83)] m Q := by
  refine hx_blks (npc := 31) (L' := [(0, .inr (.inl 81)), (1, .inr (.inl 5)), (2, .inr (.inl 44)), (3, .inl x3), (4, .inl x4), (5, .inl x5), (6, .inl (gx_w (x6 + 1)))]) (st' := []) (m' := (gx_u m 83 (s1).toNat s2)) ((95, .goto 4, 3, 0, 0, 0, 0), (0, 0, 0)) [((99, .iastore, 1, 0, 0, 0, 0), (0, 83, 0)), ((100, .iinc 6 1, 3, 0, 0, 0, 0), (0, 0, 0)), ((103, .goto (-72), 3, 0, 0, 0, 0), (0, 0, 0))] (by decide +kernel) rfl ?_
  exact hx_pick [0, 1, 2, 3, 4, 5, 6] h1

/-- sell from 118 on -/
theorem hr110_118 {xs : List Int32} {n : Nat} {Q : hQ} {m : gx_M} {x3 x4 : Int}
    (h1 : (x4 < 0) → hxn xs n yp_m116 0 [(0, .inr (.inl 81)), (1, .inl x3)] [] m (fun r m' => hxn xs n yp_m110 189 [] (hrs r ++ []) m' Q))
    (h2 : (0 ≤ x4) → hxn xs n yp_m110 126 [(0, .inr (.inl 81)), (3, .inl x3), (4, .inl x4), (5, .inl 0)] [] m Q) : hxn xs (n + 1) yp_m110 118 [(0, .inr (.inl 81)), (3, .inl x3), (4, .inl x4)] [] m Q := by
  refine hx_blks (npc := 120) (L' := [(0, .inr (.inl 81)), (3, .inl x3), (4, .inl x4)]) (st' := [.inl x4]) (m' := m) ((118, .iload 4, 2, 0, 0, 0, 0), (0, 0, 0)) [] (by decide +kernel) rfl ?_
  refine hx_if .lt 184 (by decide +kernel) (fun c1 => ?_) (fun c1 => ?_)
  · have c1 : x4 < 0 := c1
    refine hx_blk (npc := 186) (L' := [(0, .inr (.inl 81)), (3, .inl x3), (4, .inl x4)]) (st' := [.inl x3, .inr (.inl 81)]) (m' := m) [((184, .aload_n 0, 1, 0, 0, 0, 0), (0, 0, 0)), ((185, .iload_n 3, 1, 0, 0, 0, 0), (0, 0, 0))] (by decide +kernel) rfl ?_
    exact hx_call (E := (186, .invokevirtual 74, 3, 116, 0, 4154, 0)) (M' := yp_m116) [.inr (.inl 81), .inl x3] [] rfl (by decide +kernel) rfl ⟨rfl, rfl⟩ rfl rfl (hx_mono (h1 c1) (fun r m' h' => hx_pick [] h'))
  · have c1 : 0 ≤ x4 := by have h : ¬ (x4 < 0) := c1; omega
    refine hx_blk (npc := 126) (L' := [(0, .inr (.inl 81)), (3, .inl x3), (4, .inl x4), (5, .inl 0)]) (st' := []) (m' := m) [((123, .iconst 0, 1, 0, 0, 0, 0), (0, 0, 0)), ((124, .istore 5, 2, 0, 0, 0, 0), (0, 0, 0))] (by decide +kernel) rfl ?_
    exact hx_pick [0, 3, 4, 5] (h2 c1)

/-- sell from 126 on -/
theorem hr110_126 {xs : List Int32} {n : Nat} {Q : hQ} {m : gx_M} {x3 x4 x5 : Int}
    (h1 : (255 < x5) → hxn xs n yp_m110 118 [(0, .inr (.inl 81)), (3, .inl x3), (4, .inl (gx_w (x4 + (-1))))] [] m Q)
    (h2 : (x5 ≤ 255) → ((gx_and x5 (gx_xor x3 (-1))) ≠ 0) → hxn xs n yp_m110 126 [(0, .inr (.inl 81)), (3, .inl x3), (4, .inl x4), (5, .inl (gx_w (x5 + 1)))] [] m Q)
    (h3 : (x5 ≤ 255) → ((gx_and x5 (gx_xor x3 (-1))) = 0) → (x4 ≠ (m 81 1)) → hxn xs n yp_m112 0 [(0, .inr (.inl 81)), (1, .inl x4), (2, .inl x5)] [] m (fun r m' => hxn xs n yp_m110 169 [(0, .inr (.inl 81)), (3, .inl x3), (4, .inl x4), (5, .inl x5)] (hrs r ++ [.inl x5, .inl x4, .inr (.inl 81)]) m' Q))
    (h4 : (x5 ≤ 255) → ((gx_and x5 (gx_xor x3 (-1))) = 0) → (x4 = (m 81 1)) → hxn xs n yp_m115 0 [(0, .inr (.inl 81)), (1, .inl x4), (2, .inl x5), (3, .inl 0)] [] m (fun r m' => hxn xs n yp_m110 172 [(0, .inr (.inl 81)), (3, .inl x3), (4, .inl x4), (5, .inl x5)] (hrs r ++ []) m' Q)) : hxn xs (n + 1) yp_m110 126 [(0, .inr (.inl 81)), (3, .inl x3), (4, .inl x4), (5, .inl x5)] [] m Q := by
  refine hx_blks (npc := 131) (L' := [(0, .inr (.inl 81)), (3, .inl x3), (4, .inl x4), (5, .inl x5)]) (st' := [.inl 255, .inl x5]) (m' := m) ((126, .iload 5, 2, 0, 0, 0, 0), (0, 0, 0)) [((128, .sipush 255, 3, 0, 0, 0, 0), (0, 0, 0))] (by decide +kernel) rfl ?_
  refine hx_cmp .gt 178 (by decide +kernel) (fun c1 => ?_) (fun c1 => ?_)
  · have c1 : 255 < x5 := c1
    refine hx_blk (npc := 118) (L' := [(0, .inr (.inl 81)), (3, .inl x3), (4, .inl (gx_w (x4 + (-1)))), (5, .inl x5)]) (st' := []) (m' := m) [((178, .iinc 4 (-1), 3, 0, 0, 0, 0), (0, 0, 0)), ((181, .goto (-63), 3, 0, 0, 0, 0), (0, 0, 0))] (by decide +kernel) rfl ?_
    exact hx_pick [0, 3, 4] (h1 c1)
  · have c1 : x5 ≤ 255 := by have h : ¬ (255 < x5) := c1; omega
    refine hx_blk (npc := 140) (L' := [(0, .inr (.inl 81)), (3, .inl x3), (4, .inl x4), (5, .inl x5)]) (st' := [.inl (gx_and x5 (gx_xor x3 (-1)))]) (m' := m) [((134, .iload 5, 2, 0, 0, 0, 0), (0, 0, 0)), ((136, .iload_n 3, 1, 0, 0, 0, 0), (0, 0, 0)), ((137, .iconst (-1), 1, 0, 0, 0, 0), (0, 0, 0)), ((138, .ixor, 1, 0, 0, 0, 0), (0, 0, 0)), ((139, .iand, 1, 0, 0, 0, 0), (0, 0, 0))] (by decide +kernel) rfl ?_
    refine hx_if .ne 172 (by decide +kernel) (fun c2 => ?_) (fun c2 => ?_)
    · have c2 : (gx_and x5 (gx_xor x3 (-1))) ≠ 0 := c2
      refine hx_blk (npc := 126) (L' := [(0, .inr (.inl 81)), (3, .inl x3), (4, .inl x4), (5, .inl (gx_w (x5 + 1)))]) (st' := []) (m' := m) [((172, .iinc 5 1, 3, 0, 0, 0, 0), (0, 0, 0)), ((175, .goto (-49), 3, 0, 0, 0, 0), (0, 0, 0))] (by decide +kernel) rfl ?_
      exact hx_pick [0, 3, 4, 5] (h2 c1 c2)
    · have c2 : (gx_and x5 (gx_xor x3 (-1))) = 0 := by have h : ¬ ((gx_and x5 (gx_xor x3 (-1))) ≠ 0) := c2; omega
      refine hx_blk (npc := 154) (L' := [(0, .inr (.inl 81)), (3, .inl x3), (4, .inl x4), (5, .inl x5)]) (st' := [.inl (m 81 1), .inl x4, .inl x5, .inl x4, .inr (.inl 81)]) (m' := m) [((143, .aload_n 0, 1, 0, 0, 0, 0), (0, 0, 0)), ((144, .iload 4, 2, 0, 0, 0, 0), (0, 0, 0)), ((146, .iload 5, 2, 0, 0, 0, 0), (0, 0, 0)), ((148, .iload 4, 2, 0, 0, 0, 0), (0, 0, 0)), ((150, .aload_n 0, 1, 0, 0, 0, 0), (0, 0, 0)), ((151, .getfield 36, 3, 8, 1, 2104, 0), (0, 81, 0))] (by decide +kernel) rfl ?_
      refine hx_cmp .ne 161 (by decide +kernel) (fun c3 => ?_) (fun c3 => ?_)
      · have c3 : x4 ≠ (m 81 1) := c3
        refine hx_blk (npc := 166) (L' := [(0, .inr (.inl 81)), (3, .inl x3), (4, .inl x4), (5, .inl x5)]) (st' := [.inl x5, .inl x4, .inr (.inl 81), .inl x5, .inl x4, .inr (.inl 81)]) (m' := m) [((161, .aload_n 0, 1, 0, 0, 0, 0), (0, 0, 0)), ((162, .iload 4, 2, 0, 0, 0, 0), (0, 0, 0)), ((164, .iload 5, 2, 0, 0, 0, 0), (0, 0, 0))] (by decide +kernel) rfl ?_
        exact hx_call (E := (166, .invokevirtual 67, 3, 112, 0, 4137, 0)) (M' := yp_m112) [.inr (.inl 81), .inl x4, .inl x5] [.inl x5, .inl x4, .inr (.inl 81)] rfl (by decide +kernel) rfl ⟨rfl, rfl⟩ rfl rfl (hx_mono (h3 c1 c2 c3) (fun r m' h' => hx_pick [0, 3, 4, 5] h'))
      · have c3 : x4 = (m 81 1) := by have h : ¬ (x4 ≠ (m 81 1)) := c3; omega
        refine hx_blk (npc := 169) (L' := [(0, .inr (.inl 81)), (3, .inl x3), (4, .inl x4), (5, .inl x5)]) (st' := [.inl 0, .inl x5, .inl x4, .inr (.inl 81)]) (m' := m) [((157, .iconst 0, 1, 0, 0, 0, 0), (0, 0, 0)), ((158, .goto 11, 3, 0, 0, 0, 0), (0, 0, 0))] (by decide +kernel) rfl ?_
        exact hx_call (E := (169, .invokevirtual 70, 3, 115, 0, 4150, 0)) (M' := yp_m115) [.inr (.inl 81), .inl x4, .inl x5, .inl 0] [] rfl (by decide +kernel) rfl ⟨rfl, rfl⟩ rfl rfl (hx_mono (h4 c1 c2 c3) (fun r m' h' => hx_pick [0, 3, 4, 5] h'))

/-- sell from 169 on -/
theorem hr110_169 {xs : List Int32} {n : Nat} {Q : hQ} {m : gx_M} {x3 x4 x5 s1 s2 s3 : Int}
    (h1 : hxn xs n yp_m115 0 [(0, .inr (.inl 81)), (1, .inl s1), (2, .inl s2), (3, .inl s3)] [] m (fun r m' => hxn xs n yp_m110 172 [(0, .inr (.inl 81)), (3, .inl x3), (4, .inl x4), (5, .inl x5)] (hrs r ++ []) m' Q)) : hxn xs (n + 1) yp_m110 169 [(0, .inr (.inl 81)), (3, .inl x3), (4, .inl x4), (5, .inl x5)] [.inl s3, .inl s2, .inl s1, .inr (.inl 81)] m Q := by
  exact hx_calls (E := (169, .invokevirtual 70, 3, 115, 0, 4150, 0)) (M' := yp_m115) [.inr (.inl 81), .inl s1, .inl s2, .inl s3] [] rfl (by decide +kernel) rfl ⟨rfl, rfl⟩ rfl rfl (hx_mono h1 (fun r m' h' => hx_pick [0, 3, 4, 5] h'))

/-- sell from 172 on -/
theorem hr110_172 {xs : List Int32} {n : Nat} {Q : hQ} {m : gx_M} {x3 x4 x5 : Int}
    (h1 : hxn xs n yp_m110 126 [(0, .inr (.inl 81)), (3, .inl x3), (4, .inl x4), (5, .inl (gx_w (x5 + 1)))] [] m Q) : hxn xs (n + 1) yp_m110 172 [(0, .inr (.inl 81)), (3, .inl x3), (4, .inl x4), (5, .inl x5)] [] m Q := by
  refine hx_blks (npc := 126) (L' := [(0, .inr (.inl 81)), (3, .inl x3), (4, .inl x4), (5, .inl (gx_w (x5 + 1)))]) (st' := []) (m' := m) ((172, .iinc 5 1, 3, 0, 0, 0, 0), (0, 0, 0)) [((175, .goto (-49), 3, 0, 0, 0, 0), (0, 0, 0))] (by decide +kernel) rfl ?_
  exact hx_pick [0, 3, 4, 5] h1

/-- sell from 189 on -/
theorem hr110_189 {xs : List Int32} {n : Nat} {Q : hQ} {m : gx_M}
    (h1 : Q none m) : hxn xs (n + 1) yp_m110 189 [] [] m Q := by
  exact hx_ret0 (by decide +kernel) h1

/-- pays from 0 on -/
theorem hr117_0 {xs : List Int32} {n : Nat} {Q : hQ} {m : gx_M} {x1 x2 : Int}
    (h1 : hxn xs n yp_m117 5 [(0, .inr (.inl 81)), (1, .inl x1), (2, .inl x2), (3, .inl 0), (4, .inl 0)] [] m Q) : hxn xs (n + 1) yp_m117 0 [(0, .inr (.inl 81)), (1, .inl x1), (2, .inl x2)] [] m Q := by
  refine hx_blks (npc := 5) (L' := [(0, .inr (.inl 81)), (1, .inl x1), (2, .inl x2), (3, .inl 0), (4, .inl 0)]) (st' := []) (m' := m) ((0, .iconst 0, 1, 0, 0, 0, 0), (0, 0, 0)) [((1, .istore_n 3, 1, 0, 0, 0, 0), (0, 0, 0)), ((2, .iconst 0, 1, 0, 0, 0, 0), (0, 0, 0)), ((3, .istore 4, 2, 0, 0, 0, 0), (0, 0, 0))] (by decide +kernel) rfl ?_
  exact hx_pick [0, 1, 2, 3, 4] h1

/-- pays from 5 on -/
theorem hr117_5 {xs : List Int32} {n : Nat} {Q : hQ} {m : gx_M} {x1 x2 x3 x4 : Int}
    (h1 : ((m 81 1) ≤ x4) → hxn xs n yp_m113 0 [(0, .inr (.inl 81)), (1, .inl 0), (2, .inl (gx_and x1 (gx_xor (gx_shl 1 x2) (-1))))] [] m (fun r m' => hxn xs n yp_m117 73 [(0, .inr (.inl 81)), (1, .inl x1), (3, .inl x3)] (hrs r ++ []) m' Q))
    (h2 : (x4 < (m 81 1)) → (6 ≤ x4) → hxn xs n yp_m113 0 [(0, .inr (.inl 81)), (1, .inl 0), (2, .inl (gx_and x1 (gx_xor (gx_shl 1 x2) (-1))))] [] m (fun r m' => hxn xs n yp_m117 73 [(0, .inr (.inl 81)), (1, .inl x1), (3, .inl x3)] (hrs r ++ []) m' Q))
    (h3 : (x4 < (m 81 1)) → (x4 < 6) → ((m 85 (x4).toNat) ≠ x2) → hxn xs n yp_m117 5 [(0, .inr (.inl 81)), (1, .inl x1), (2, .inl x2), (3, .inl x3), (4, .inl (gx_w (x4 + 1)))] [] m Q)
    (h4 : (x4 < (m 81 1)) → (x4 < 6) → ((m 85 (x4).toNat) = x2) → (x2 < 0) → hxn xs n yp_m117 5 [(0, .inr (.inl 81)), (1, .inl x1), (2, .inl x2), (3, .inl x3), (4, .inl (gx_w (x4 + 1)))] [] m Q)
    (h5 : (x4 < (m 81 1)) → (x4 < 6) → ((m 85 (x4).toNat) = x2) → (0 ≤ x2) → (8 ≤ x2) → hxn xs n yp_m117 5 [(0, .inr (.inl 81)), (1, .inl x1), (2, .inl x2), (3, .inl x3), (4, .inl (gx_w (x4 + 1)))] [] m Q)
    (h6 : (x4 < (m 81 1)) → (x4 < 6) → ((m 85 (x4).toNat) = x2) → (0 ≤ x2) → (x2 < 8) → hxn xs n yp_m117 5 [(0, .inr (.inl 81)), (1, .inl x1), (2, .inl x2), (3, .inl (m 83 (gx_w ((gx_w (x4 * 8)) + x2)).toNat)), (4, .inl (gx_w (x4 + 1)))] [] m Q) : hxn xs (n + 1) yp_m117 5 [(0, .inr (.inl 81)), (1, .inl x1), (2, .inl x2), (3, .inl x3), (4, .inl x4)] [] m Q := by
  refine hx_blks (npc := 11) (L' := [(0, .inr (.inl 81)), (1, .inl x1), (2, .inl x2), (3, .inl x3), (4, .inl x4)]) (st' := [.inl (m 81 1), .inl x4]) (m' := m) ((5, .iload 4, 2, 0, 0, 0, 0), (0, 0, 0)) [((7, .aload_n 0, 1, 0, 0, 0, 0), (0, 0, 0)), ((8, .getfield 36, 3, 8, 1, 2104, 0), (0, 81, 0))] (by decide +kernel) rfl ?_
  refine hx_cmp .ge 61 (by decide +kernel) (fun c1 => ?_) (fun c1 => ?_)
  · have c1 : (m 81 1) ≤ x4 := c1
    refine hx_blk (npc := 70) (L' := [(0, .inr (.inl 81)), (1, .inl x1), (2, .inl x2), (3, .inl x3), (4, .inl x4)]) (st' := [.inl (gx_and x1 (gx_xor (gx_shl 1 x2) (-1))), .inl 0, .inr (.inl 81)]) (m' := m) [((61, .aload_n 0, 1, 0, 0, 0, 0), (0, 0, 0)), ((62, .iconst 0, 1, 0, 0, 0, 0), (0, 0, 0)), ((63, .iload_n 1, 1, 0, 0, 0, 0), (0, 0, 0)), ((64, .iconst 1, 1, 0, 0, 0, 0), (0, 0, 0)), ((65, .iload_n 2, 1, 0, 0, 0, 0), (0, 0, 0)), ((66, .ishl, 1, 0, 0, 0, 0), (0, 0, 0)), ((67, .iconst (-1), 1, 0, 0, 0, 0), (0, 0, 0)), ((68, .ixor, 1, 0, 0, 0, 0), (0, 0, 0)), ((69, .iand, 1, 0, 0, 0, 0), (0, 0, 0))] (by decide +kernel) rfl ?_
    exact hx_call (E := (70, .invokevirtual 78, 3, 113, 0, 4141, 0)) (M' := yp_m113) [.inr (.inl 81), .inl 0, .inl (gx_and x1 (gx_xor (gx_shl 1 x2) (-1)))] [] rfl (by decide +kernel) rfl ⟨rfl, rfl⟩ rfl rfl (hx_mono (h1 c1) (fun r m' h' => hx_pick [0, 1, 3] h'))
  · have c1 : x4 < (m 81 1) := by have h : ¬ ((m 81 1) ≤ x4) := c1; omega
    refine hx_blk (npc := 18) (L' := [(0, .inr (.inl 81)), (1, .inl x1), (2, .inl x2), (3, .inl x3), (4, .inl x4)]) (st' := [.inl 6, .inl x4]) (m' := m) [((14, .iload 4, 2, 0, 0, 0, 0), (0, 0, 0)), ((16, .bipush 6, 2, 0, 0, 0, 0), (0, 0, 0))] (by decide +kernel) rfl ?_
    refine hx_cmp .ge 61 (by decide +kernel) (fun c2 => ?_) (fun c2 => ?_)
    · have c2 : 6 ≤ x4 := c2
      refine hx_blk (npc := 70) (L' := [(0, .inr (.inl 81)), (1, .inl x1), (2, .inl x2), (3, .inl x3), (4, .inl x4)]) (st' := [.inl (gx_and x1 (gx_xor (gx_shl 1 x2) (-1))), .inl 0, .inr (.inl 81)]) (m' := m) [((61, .aload_n 0, 1, 0, 0, 0, 0), (0, 0, 0)), ((62, .iconst 0, 1, 0, 0, 0, 0), (0, 0, 0)), ((63, .iload_n 1, 1, 0, 0, 0, 0), (0, 0, 0)), ((64, .iconst 1, 1, 0, 0, 0, 0), (0, 0, 0)), ((65, .iload_n 2, 1, 0, 0, 0, 0), (0, 0, 0)), ((66, .ishl, 1, 0, 0, 0, 0), (0, 0, 0)), ((67, .iconst (-1), 1, 0, 0, 0, 0), (0, 0, 0)), ((68, .ixor, 1, 0, 0, 0, 0), (0, 0, 0)), ((69, .iand, 1, 0, 0, 0, 0), (0, 0, 0))] (by decide +kernel) rfl ?_
      exact hx_call (E := (70, .invokevirtual 78, 3, 113, 0, 4141, 0)) (M' := yp_m113) [.inr (.inl 81), .inl 0, .inl (gx_and x1 (gx_xor (gx_shl 1 x2) (-1)))] [] rfl (by decide +kernel) rfl ⟨rfl, rfl⟩ rfl rfl (hx_mono (h2 c1 c2) (fun r m' h' => hx_pick [0, 1, 3] h'))
    · have c2 : x4 < 6 := by have h : ¬ (6 ≤ x4) := c2; omega
      refine hx_blk (npc := 29) (L' := [(0, .inr (.inl 81)), (1, .inl x1), (2, .inl x2), (3, .inl x3), (4, .inl x4)]) (st' := [.inl x2, .inl (m 85 (x4).toNat)]) (m' := m) [((21, .aload_n 0, 1, 0, 0, 0, 0), (0, 0, 0)), ((22, .getfield 21, 3, 8, 4, 2107, 0), (1, 81, 85)), ((25, .iload 4, 2, 0, 0, 0, 0), (0, 0, 0)), ((27, .iaload, 1, 0, 0, 0, 0), (0, 85, 0)), ((28, .iload_n 2, 1, 0, 0, 0, 0), (0, 0, 0))] (by decide +kernel) rfl ?_
      refine hx_cmp .ne 55 (by decide +kernel) (fun c3 => ?_) (fun c3 => ?_)
      · have c3 : (m 85 (x4).toNat) ≠ x2 := c3
        refine hx_blk (npc := 5) (L' := [(0, .inr (.inl 81)), (1, .inl x1), (2, .inl x2), (3, .inl x3), (4, .inl (gx_w (x4 + 1)))]) (st' := []) (m' := m) [((55, .iinc 4 1, 3, 0, 0, 0, 0), (0, 0, 0)), ((58, .goto (-53), 3, 0, 0, 0, 0), (0, 0, 0))] (by decide +kernel) rfl ?_
        exact hx_pick [0, 1, 2, 3, 4] (h3 c1 c2 c3)
      · have c3 : (m 85 (x4).toNat) = x2 := by have h : ¬ ((m 85 (x4).toNat) ≠ x2) := c3; omega
        refine hx_blk (npc := 33) (L' := [(0, .inr (.inl 81)), (1, .inl x1), (2, .inl x2), (3, .inl x3), (4, .inl x4)]) (st' := [.inl x2]) (m' := m) [((32, .iload_n 2, 1, 0, 0, 0, 0), (0, 0, 0))] (by decide +kernel) rfl ?_
        refine hx_if .lt 55 (by decide +kernel) (fun c4 => ?_) (fun c4 => ?_)
        · have c4 : x2 < 0 := c4
          refine hx_blk (npc := 5) (L' := [(0, .inr (.inl 81)), (1, .inl x1), (2, .inl x2), (3, .inl x3), (4, .inl (gx_w (x4 + 1)))]) (st' := []) (m' := m) [((55, .iinc 4 1, 3, 0, 0, 0, 0), (0, 0, 0)), ((58, .goto (-53), 3, 0, 0, 0, 0), (0, 0, 0))] (by decide +kernel) rfl ?_
          exact hx_pick [0, 1, 2, 3, 4] (h4 c1 c2 c3 c4)
        · have c4 : 0 ≤ x2 := by have h : ¬ (x2 < 0) := c4; omega
          refine hx_blk (npc := 39) (L' := [(0, .inr (.inl 81)), (1, .inl x1), (2, .inl x2), (3, .inl x3), (4, .inl x4)]) (st' := [.inl 8, .inl x2]) (m' := m) [((36, .iload_n 2, 1, 0, 0, 0, 0), (0, 0, 0)), ((37, .bipush 8, 2, 0, 0, 0, 0), (0, 0, 0))] (by decide +kernel) rfl ?_
          refine hx_cmp .ge 55 (by decide +kernel) (fun c5 => ?_) (fun c5 => ?_)
          · have c5 : 8 ≤ x2 := c5
            refine hx_blk (npc := 5) (L' := [(0, .inr (.inl 81)), (1, .inl x1), (2, .inl x2), (3, .inl x3), (4, .inl (gx_w (x4 + 1)))]) (st' := []) (m' := m) [((55, .iinc 4 1, 3, 0, 0, 0, 0), (0, 0, 0)), ((58, .goto (-53), 3, 0, 0, 0, 0), (0, 0, 0))] (by decide +kernel) rfl ?_
            exact hx_pick [0, 1, 2, 3, 4] (h5 c1 c2 c3 c4 c5)
          · have c5 : x2 < 8 := by have h : ¬ (8 ≤ x2) := c5; omega
            refine hx_blk (npc := 5) (L' := [(0, .inr (.inl 81)), (1, .inl x1), (2, .inl x2), (3, .inl (m 83 (gx_w ((gx_w (x4 * 8)) + x2)).toNat)), (4, .inl (gx_w (x4 + 1)))]) (st' := []) (m' := m) [((42, .aload_n 0, 1, 0, 0, 0, 0), (0, 0, 0)), ((43, .getfield 15, 3, 8, 2, 2105, 0), (1, 81, 83)), ((46, .iload 4, 2, 0, 0, 0, 0), (0, 0, 0)), ((48, .bipush 8, 2, 0, 0, 0, 0), (0, 0, 0)), ((50, .imul, 1, 0, 0, 0, 0), (0, 0, 0)), ((51, .iload_n 2, 1, 0, 0, 0, 0), (0, 0, 0)), ((52, .iadd, 1, 0, 0, 0, 0), (0, 0, 0)), ((53, .iaload, 1, 0, 0, 0, 0), (0, 83, 0)), ((54, .istore_n 3, 1, 0, 0, 0, 0), (0, 0, 0)), ((55, .iinc 4 1, 3, 0, 0, 0, 0), (0, 0, 0)), ((58, .goto (-53), 3, 0, 0, 0, 0), (0, 0, 0))] (by decide +kernel) rfl ?_
            exact hx_pick [0, 1, 2, 3, 4] (h6 c1 c2 c3 c4 c5)

/-- pays from 73 on -/
theorem hr117_73 {xs : List Int32} {n : Nat} {Q : hQ} {m : gx_M} {x1 x3 s0 : Int}
    (h1 : hxn xs n yp_m118 0 [(0, .inr (.inl 81)), (1, .inl x1)] [] m (fun r m' => hxn xs n yp_m117 78 [(3, .inl x3)] (hrs r ++ [.inl s0]) m' Q)) : hxn xs (n + 1) yp_m117 73 [(0, .inr (.inl 81)), (1, .inl x1), (3, .inl x3)] [.inl s0] m Q := by
  refine hx_blks (npc := 75) (L' := [(0, .inr (.inl 81)), (1, .inl x1), (3, .inl x3)]) (st' := [.inl x1, .inr (.inl 81), .inl s0]) (m' := m) ((73, .aload_n 0, 1, 0, 0, 0, 0), (0, 0, 0)) [((74, .iload_n 1, 1, 0, 0, 0, 0), (0, 0, 0))] (by decide +kernel) rfl ?_
  exact hx_call (E := (75, .invokevirtual 88, 3, 118, 0, 4162, 0)) (M' := yp_m118) [.inr (.inl 81), .inl x1] [.inl s0] rfl (by decide +kernel) rfl ⟨rfl, rfl⟩ rfl rfl (hx_mono h1 (fun r m' h' => hx_pick [3] h'))

/-- pays from 78 on -/
theorem hr117_78 {xs : List Int32} {n : Nat} {Q : hQ} {m : gx_M} {x3 s0 s1 : Int}
    (h1 : Q (some (.inl (gx_w (s0 - (gx_w (s1 - x3)))))) m) : hxn xs (n + 1) yp_m117 78 [(3, .inl x3)] [.inl s1, .inl s0] m Q := by
  refine hx_blks (npc := 81) (L' := [(3, .inl x3)]) (st' := [.inl (gx_w (s0 - (gx_w (s1 - x3))))]) (m' := m) ((78, .iload_n 3, 1, 0, 0, 0, 0), (0, 0, 0)) [((79, .isub, 1, 0, 0, 0, 0), (0, 0, 0)), ((80, .isub, 1, 0, 0, 0, 0), (0, 0, 0))] (by decide +kernel) rfl ?_
  exact hx_reti (by decide +kernel) h1

/-- together from 0 on -/
theorem hr118_0 {xs : List Int32} {n : Nat} {Q : hQ} {m : gx_M} {x1 : Int}
    (h1 : hxn xs n yp_m113 0 [(0, .inr (.inl 81)), (1, .inl 0), (2, .inl x1)] [] m (fun r m' => hxn xs n yp_m118 6 [] (hrs r ++ []) m' Q)) : hxn xs (n + 1) yp_m118 0 [(0, .inr (.inl 81)), (1, .inl x1)] [] m Q := by
  refine hx_blks (npc := 3) (L' := [(0, .inr (.inl 81)), (1, .inl x1)]) (st' := [.inl x1, .inl 0, .inr (.inl 81)]) (m' := m) ((0, .aload_n 0, 1, 0, 0, 0, 0), (0, 0, 0)) [((1, .iconst 0, 1, 0, 0, 0, 0), (0, 0, 0)), ((2, .iload_n 1, 1, 0, 0, 0, 0), (0, 0, 0))] (by decide +kernel) rfl ?_
  exact hx_call (E := (3, .invokevirtual 78, 3, 113, 0, 4141, 0)) (M' := yp_m113) [.inr (.inl 81), .inl 0, .inl x1] [] rfl (by decide +kernel) rfl ⟨rfl, rfl⟩ rfl rfl (hx_mono h1 (fun r m' h' => hx_pick [] h'))

/-- together from 6 on -/
theorem hr118_6 {xs : List Int32} {n : Nat} {Q : hQ} {m : gx_M} {s0 : Int}
    (h1 : Q (some (.inl s0)) m) : hxn xs (n + 1) yp_m118 6 [] [.inl s0] m Q := by
  exact hx_reti (by decide +kernel) h1

/-- getsAt from 0 on -/
theorem hr119_0 {xs : List Int32} {n : Nat} {Q : hQ} {m : gx_M} {x1 : Int}
    (h1 : (x1 < 0) → Q (some (.inl (-3))) m)
    (h2 : (0 ≤ x1) → ((m 81 1) ≤ x1) → Q (some (.inl (-3))) m)
    (h3 : (0 ≤ x1) → (x1 < (m 81 1)) → (8 ≤ x1) → Q (some (.inl (-3))) m)
    (h4 : (0 ≤ x1) → (x1 < (m 81 1)) → (x1 < 8) → Q (some (.inl (m 85 (x1).toNat))) m) : hxn xs (n + 1) yp_m119 0 [(0, .inr (.inl 81)), (1, .inl x1)] [] m Q := by
  refine hx_blks (npc := 1) (L' := [(0, .inr (.inl 81)), (1, .inl x1)]) (st' := [.inl x1]) (m' := m) ((0, .iload_n 1, 1, 0, 0, 0, 0), (0, 0, 0)) [] (by decide +kernel) rfl ?_
  refine hx_if .lt 27 (by decide +kernel) (fun c1 => ?_) (fun c1 => ?_)
  · have c1 : x1 < 0 := c1
    refine hx_blk (npc := 29) (L' := [(0, .inr (.inl 81)), (1, .inl x1)]) (st' := [.inl (-3)]) (m' := m) [((27, .bipush (-3), 2, 0, 0, 0, 0), (0, 0, 0))] (by decide +kernel) rfl ?_
    exact hx_reti (by decide +kernel) (h1 c1)
  · have c1 : 0 ≤ x1 := by have h : ¬ (x1 < 0) := c1; omega
    refine hx_blk (npc := 9) (L' := [(0, .inr (.inl 81)), (1, .inl x1)]) (st' := [.inl (m 81 1), .inl x1]) (m' := m) [((4, .iload_n 1, 1, 0, 0, 0, 0), (0, 0, 0)), ((5, .aload_n 0, 1, 0, 0, 0, 0), (0, 0, 0)), ((6, .getfield 36, 3, 8, 1, 2104, 0), (0, 81, 0))] (by decide +kernel) rfl ?_
    refine hx_cmp .ge 27 (by decide +kernel) (fun c2 => ?_) (fun c2 => ?_)
    · have c2 : (m 81 1) ≤ x1 := c2
      refine hx_blk (npc := 29) (L' := [(0, .inr (.inl 81)), (1, .inl x1)]) (st' := [.inl (-3)]) (m' := m) [((27, .bipush (-3), 2, 0, 0, 0, 0), (0, 0, 0))] (by decide +kernel) rfl ?_
      exact hx_reti (by decide +kernel) (h2 c1 c2)
    · have c2 : x1 < (m 81 1) := by have h : ¬ ((m 81 1) ≤ x1) := c2; omega
      refine hx_blk (npc := 15) (L' := [(0, .inr (.inl 81)), (1, .inl x1)]) (st' := [.inl 8, .inl x1]) (m' := m) [((12, .iload_n 1, 1, 0, 0, 0, 0), (0, 0, 0)), ((13, .bipush 8, 2, 0, 0, 0, 0), (0, 0, 0))] (by decide +kernel) rfl ?_
      refine hx_cmp .ge 27 (by decide +kernel) (fun c3 => ?_) (fun c3 => ?_)
      · have c3 : 8 ≤ x1 := c3
        refine hx_blk (npc := 29) (L' := [(0, .inr (.inl 81)), (1, .inl x1)]) (st' := [.inl (-3)]) (m' := m) [((27, .bipush (-3), 2, 0, 0, 0, 0), (0, 0, 0))] (by decide +kernel) rfl ?_
        exact hx_reti (by decide +kernel) (h3 c1 c2 c3)
      · have c3 : x1 < 8 := by have h : ¬ (8 ≤ x1) := c3; omega
        refine hx_blk (npc := 29) (L' := [(0, .inr (.inl 81)), (1, .inl x1)]) (st' := [.inl (m 85 (x1).toNat)]) (m' := m) [((18, .aload_n 0, 1, 0, 0, 0, 0), (0, 0, 0)), ((19, .getfield 21, 3, 8, 4, 2107, 0), (1, 81, 85)), ((22, .iload_n 1, 1, 0, 0, 0, 0), (0, 0, 0)), ((23, .iaload, 1, 0, 0, 0, 0), (0, 85, 0)), ((24, .goto 5, 3, 0, 0, 0, 0), (0, 0, 0))] (by decide +kernel) rfl ?_
        exact hx_reti (by decide +kernel) (h4 c1 c2 c3)

/-- sold from 0 on -/
theorem hr107_0 {xs : List Int32} {n : Nat} {Q : hQ} {m : gx_M} {x1 x2 x3 : Int}
    (h1 : hxn xs n yp_m23 0 [(0, .inr (.inl 1)), (1, .inl x1), (2, .inl 6)] [] m (fun r m' => hxn xs n yp_m107 10 [(0, .inr (.inl 0)), (1, .inl x1), (2, .inl x2), (3, .inl x3)] (hrs r ++ []) m' Q)) : hxn xs (n + 1) yp_m107 0 [(0, .inr (.inl 0)), (1, .inl x1), (2, .inl x2), (3, .inl x3)] [] m Q := by
  refine hx_blks (npc := 7) (L' := [(0, .inr (.inl 0)), (1, .inl x1), (2, .inl x2), (3, .inl x3)]) (st' := [.inl 6, .inl x1, .inr (.inl 1)]) (m' := m) ((0, .aload_n 0, 1, 0, 0, 0, 0), (0, 0, 0)) [((1, .getfield 10, 3, 9, 0, 2119, 0), (1, 0, 1)), ((4, .iload_n 1, 1, 0, 0, 0, 0), (0, 0, 0)), ((5, .bipush 6, 2, 0, 0, 0, 0), (0, 0, 0))] (by decide +kernel) rfl ?_
  exact hx_call (E := (7, .invokevirtual 124, 3, 23, 0, 2212, 0)) (M' := yp_m23) [.inr (.inl 1), .inl x1, .inl 6] [] rfl (by decide +kernel) rfl ⟨rfl, rfl⟩ rfl rfl (hx_mono h1 (fun r m' h' => hx_pick [0, 1, 2, 3] h'))

/-- sold from 10 on -/
theorem hr107_10 {xs : List Int32} {n : Nat} {Q : hQ} {m : gx_M} {x1 x2 x3 s0 : Int}
    (h1 : (s0 ≠ 0) → hxn xs n yp_m24 0 [(0, .inr (.inl 3)), (1, .inr (.inl 1)), (2, .inl x1)] [] m (fun r m' => hxn xs n yp_m107 27 [(0, .inr (.inl 0)), (1, .inl x1), (2, .inl x2), (3, .inl x3)] (hrs r ++ []) m' Q))
    (h2 : (s0 = 0) → Q (some (.inl (-1))) m) : hxn xs (n + 1) yp_m107 10 [(0, .inr (.inl 0)), (1, .inl x1), (2, .inl x2), (3, .inl x3)] [.inl s0] m Q := by
  refine hx_ifs .ne 15 (by decide +kernel) (fun c1 => ?_) (fun c1 => ?_)
  · have c1 : s0 ≠ 0 := c1
    refine hx_blk (npc := 24) (L' := [(0, .inr (.inl 0)), (1, .inl x1), (2, .inl x2), (3, .inl x3)]) (st' := [.inl x1, .inr (.inl 1), .inr (.inl 3)]) (m' := m) [((15, .aload_n 0, 1, 0, 0, 0, 0), (0, 0, 0)), ((16, .getfield 19, 3, 9, 1, 2120, 0), (1, 0, 3)), ((19, .aload_n 0, 1, 0, 0, 0, 0), (0, 0, 0)), ((20, .getfield 10, 3, 9, 0, 2119, 0), (1, 0, 1)), ((23, .iload_n 1, 1, 0, 0, 0, 0), (0, 0, 0))] (by decide +kernel) rfl ?_
    exact hx_call (E := (24, .invokevirtual 128, 3, 24, 0, 2216, 0)) (M' := yp_m24) [.inr (.inl 3), .inr (.inl 1), .inl x1] [] rfl (by decide +kernel) rfl ⟨rfl, rfl⟩ rfl rfl (hx_mono (h1 c1) (fun r m' h' => hx_pick [0, 1, 2, 3] h'))
  · have c1 : s0 = 0 := by have h : ¬ (s0 ≠ 0) := c1; omega
    refine hx_blk (npc := 14) (L' := [(0, .inr (.inl 0)), (1, .inl x1), (2, .inl x2), (3, .inl x3)]) (st' := [.inl (-1)]) (m' := m) [((13, .iconst (-1), 1, 0, 0, 0, 0), (0, 0, 0))] (by decide +kernel) rfl ?_
    exact hx_reti (by decide +kernel) (h2 c1)

/-- sold from 27 on -/
theorem hr107_27 {xs : List Int32} {n : Nat} {Q : hQ} {m : gx_M} {x1 x2 x3 : Int}
    (h1 : hxn xs n yp_m108 0 [(0, .inr (.inl 81)), (1, .inr (.inl 5)), (2, .inr (.inl 3))] [] m (fun r m' => hxn xs n yp_m107 42 [(0, .inr (.inl 0)), (1, .inl x1), (2, .inl x2), (3, .inl x3)] (hrs r ++ []) m' Q)) : hxn xs (n + 1) yp_m107 27 [(0, .inr (.inl 0)), (1, .inl x1), (2, .inl x2), (3, .inl x3)] [] m Q := by
  refine hx_blks (npc := 39) (L' := [(0, .inr (.inl 0)), (1, .inl x1), (2, .inl x2), (3, .inl x3)]) (st' := [.inr (.inl 3), .inr (.inl 5), .inr (.inl 81)]) (m' := m) ((27, .aload_n 0, 1, 0, 0, 0, 0), (0, 0, 0)) [((28, .getfield 81, 3, 9, 11, 2130, 0), (1, 0, 81)), ((31, .aload_n 0, 1, 0, 0, 0, 0), (0, 0, 0)), ((32, .getfield 26, 3, 9, 2, 2121, 0), (1, 0, 5)), ((35, .aload_n 0, 1, 0, 0, 0, 0), (0, 0, 0)), ((36, .getfield 19, 3, 9, 1, 2120, 0), (1, 0, 3))] (by decide +kernel) rfl ?_
  exact hx_call (E := (39, .invokevirtual 255, 3, 108, 0, 4116, 0)) (M' := yp_m108) [.inr (.inl 81), .inr (.inl 5), .inr (.inl 3)] [] rfl (by decide +kernel) rfl ⟨rfl, rfl⟩ rfl rfl (hx_mono h1 (fun r m' h' => hx_pick [0, 1, 2, 3] h'))

/-- sold from 42 on -/
theorem hr107_42 {xs : List Int32} {n : Nat} {Q : hQ} {m : gx_M} {x1 x2 x3 s0 : Int}
    (h1 : (s0 ≠ 0) → (cGrp 5 m x2) → ((gx_w (x3 - 20)) < 0) → (x3 = 10) → hxn xs n yp_m110 0 [(0, .inr (.inl 81)), (1, .inr (.inl 5)), (2, .inr (.inl 44)), (3, .inl x2)] [] m (fun r m' => hxn xs n yp_m107 135 [(0, .inr (.inl 0)), (2, .inl x2), (3, .inl x3), (4, .inl (gx_w (x3 - 20))), (5, .inl 0)] (hrs r ++ []) m' Q))
    (h2 : (s0 ≠ 0) → (cGrp 5 m x2) → ((gx_w (x3 - 20)) < 0) → (x3 ≠ 10) → (x3 < 0) → Q (some (.inl (-3))) m)
    (h3 : (s0 ≠ 0) → (cGrp 5 m x2) → ((gx_w (x3 - 20)) < 0) → (x3 ≠ 10) → (0 ≤ x3) → (x3 < x1) → hxn xs n yp_m110 0 [(0, .inr (.inl 81)), (1, .inr (.inl 5)), (2, .inr (.inl 44)), (3, .inl x2)] [] m (fun r m' => hxn xs n yp_m107 135 [(0, .inr (.inl 0)), (2, .inl x2), (3, .inl x3), (4, .inl (gx_w (x3 - 20))), (5, .inl 0)] (hrs r ++ []) m' Q))
    (h4 : (s0 ≠ 0) → (cGrp 5 m x2) → ((gx_w (x3 - 20)) < 0) → (x3 ≠ 10) → (0 ≤ x3) → (x1 ≤ x3) → Q (some (.inl (-3))) m)
    (h5 : (s0 ≠ 0) → (cGrp 5 m x2) → (0 ≤ (gx_w (x3 - 20))) → (8 ≤ (gx_w (x3 - 20))) → (x3 = 10) → hxn xs n yp_m110 0 [(0, .inr (.inl 81)), (1, .inr (.inl 5)), (2, .inr (.inl 44)), (3, .inl x2)] [] m (fun r m' => hxn xs n yp_m107 135 [(0, .inr (.inl 0)), (2, .inl x2), (3, .inl x3), (4, .inl (gx_w (x3 - 20))), (5, .inl 0)] (hrs r ++ []) m' Q))
    (h6 : (s0 ≠ 0) → (cGrp 5 m x2) → (0 ≤ (gx_w (x3 - 20))) → (8 ≤ (gx_w (x3 - 20))) → (x3 ≠ 10) → (x3 < 0) → Q (some (.inl (-3))) m)
    (h7 : (s0 ≠ 0) → (cGrp 5 m x2) → (0 ≤ (gx_w (x3 - 20))) → (8 ≤ (gx_w (x3 - 20))) → (x3 ≠ 10) → (0 ≤ x3) → (x3 < x1) → hxn xs n yp_m110 0 [(0, .inr (.inl 81)), (1, .inr (.inl 5)), (2, .inr (.inl 44)), (3, .inl x2)] [] m (fun r m' => hxn xs n yp_m107 135 [(0, .inr (.inl 0)), (2, .inl x2), (3, .inl x3), (4, .inl (gx_w (x3 - 20))), (5, .inl 0)] (hrs r ++ []) m' Q))
    (h8 : (s0 ≠ 0) → (cGrp 5 m x2) → (0 ≤ (gx_w (x3 - 20))) → (8 ≤ (gx_w (x3 - 20))) → (x3 ≠ 10) → (0 ≤ x3) → (x1 ≤ x3) → Q (some (.inl (-3))) m)
    (h9 : (s0 ≠ 0) → (cGrp 5 m x2) → (0 ≤ (gx_w (x3 - 20))) → ((gx_w (x3 - 20)) < 8) → ((gx_and (gx_shr x2 (gx_w (x3 - 20))) 1) = 0) → (x3 = 10) → hxn xs n yp_m110 0 [(0, .inr (.inl 81)), (1, .inr (.inl 5)), (2, .inr (.inl 44)), (3, .inl x2)] [] m (fun r m' => hxn xs n yp_m107 135 [(0, .inr (.inl 0)), (2, .inl x2), (3, .inl x3), (4, .inl (gx_w (x3 - 20))), (5, .inl 0)] (hrs r ++ []) m' Q))
    (h10 : (s0 ≠ 0) → (cGrp 5 m x2) → (0 ≤ (gx_w (x3 - 20))) → ((gx_w (x3 - 20)) < 8) → ((gx_and (gx_shr x2 (gx_w (x3 - 20))) 1) = 0) → (x3 ≠ 10) → (x3 < 0) → Q (some (.inl (-3))) m)
    (h11 : (s0 ≠ 0) → (cGrp 5 m x2) → (0 ≤ (gx_w (x3 - 20))) → ((gx_w (x3 - 20)) < 8) → ((gx_and (gx_shr x2 (gx_w (x3 - 20))) 1) = 0) → (x3 ≠ 10) → (0 ≤ x3) → (x3 < x1) → hxn xs n yp_m110 0 [(0, .inr (.inl 81)), (1, .inr (.inl 5)), (2, .inr (.inl 44)), (3, .inl x2)] [] m (fun r m' => hxn xs n yp_m107 135 [(0, .inr (.inl 0)), (2, .inl x2), (3, .inl x3), (4, .inl (gx_w (x3 - 20))), (5, .inl 0)] (hrs r ++ []) m' Q))
    (h12 : (s0 ≠ 0) → (cGrp 5 m x2) → (0 ≤ (gx_w (x3 - 20))) → ((gx_w (x3 - 20)) < 8) → ((gx_and (gx_shr x2 (gx_w (x3 - 20))) 1) = 0) → (x3 ≠ 10) → (0 ≤ x3) → (x1 ≤ x3) → Q (some (.inl (-3))) m)
    (h13 : (s0 ≠ 0) → (cGrp 5 m x2) → (0 ≤ (gx_w (x3 - 20))) → ((gx_w (x3 - 20)) < 8) → ((gx_and (gx_shr x2 (gx_w (x3 - 20))) 1) ≠ 0) → hxn xs n yp_m110 0 [(0, .inr (.inl 81)), (1, .inr (.inl 5)), (2, .inr (.inl 44)), (3, .inl x2)] [] m (fun r m' => hxn xs n yp_m107 135 [(0, .inr (.inl 0)), (2, .inl x2), (3, .inl x3), (4, .inl (gx_w (x3 - 20))), (5, .inl 1)] (hrs r ++ []) m' Q))
    (h14 : (s0 ≠ 0) → (¬ (cGrp 5 m x2)) → Q (some (.inl (-3))) m)
    (h15 : (s0 = 0) → Q (some (.inl (-2))) m) : hxn xs (n + 1) yp_m107 42 [(0, .inr (.inl 0)), (1, .inl x1), (2, .inl x2), (3, .inl x3)] [.inl s0] m Q := by
  refine hx_ifs .ne 48 (by decide +kernel) (fun c1 => ?_) (fun c1 => ?_)
  · have c1 : s0 ≠ 0 := c1
    refine hx_blk (npc := 53) (L' := [(0, .inr (.inl 0)), (1, .inl x1), (2, .inl x2), (3, .inl x3)]) (st' := [.inl x2, .inr (.inl 5)]) (m' := m) [((48, .aload_n 0, 1, 0, 0, 0, 0), (0, 0, 0)), ((49, .getfield 26, 3, 9, 2, 2121, 0), (1, 0, 5)), ((52, .iload_n 2, 1, 0, 0, 0, 0), (0, 0, 0))] (by decide +kernel) rfl ?_
    refine hx_call (E := (53, .invokevirtual 98, 3, 14, 0, 2175, 0)) (M' := yp_m14) [.inr (.inl 5), .inl x2] [] rfl (by decide +kernel) rfl ⟨rfl, rfl⟩ rfl rfl (hs14_5 (fun c2 => ?_) (fun c2 => ?_))
    · have c2 : cGrp 5 m x2 := c2
      show hxn xs n yp_m107 56 [(0, .inr (.inl 0)), (1, .inl x1), (2, .inl x2), (3, .inl x3)] [.inl 1] m Q
      refine hx_if .ne 62 (by decide +kernel) (fun c3 => ?_) (fun c3 => ?_)
      · have c3 : (1 : Int) ≠ 0 := c3
        refine hx_blk (npc := 70) (L' := [(0, .inr (.inl 0)), (1, .inl x1), (2, .inl x2), (3, .inl x3), (4, .inl (gx_w (x3 - 20)))]) (st' := [.inl (gx_w (x3 - 20))]) (m' := m) [((62, .iload_n 3, 1, 0, 0, 0, 0), (0, 0, 0)), ((63, .bipush 20, 2, 0, 0, 0, 0), (0, 0, 0)), ((65, .isub, 1, 0, 0, 0, 0), (0, 0, 0)), ((66, .istore 4, 2, 0, 0, 0, 0), (0, 0, 0)), ((68, .iload 4, 2, 0, 0, 0, 0), (0, 0, 0))] (by decide +kernel) rfl ?_
        refine hx_if .lt 93 (by decide +kernel) (fun c3 => ?_) (fun c3 => ?_)
        · have c3 : (gx_w (x3 - 20)) < 0 := c3
          refine hx_blk (npc := 98) (L' := [(0, .inr (.inl 0)), (1, .inl x1), (2, .inl x2), (3, .inl x3), (4, .inl (gx_w (x3 - 20))), (5, .inl 0)]) (st' := [.inl 0]) (m' := m) [((93, .iconst 0, 1, 0, 0, 0, 0), (0, 0, 0)), ((94, .istore 5, 2, 0, 0, 0, 0), (0, 0, 0)), ((96, .iload 5, 2, 0, 0, 0, 0), (0, 0, 0))] (by decide +kernel) rfl ?_
          refine hx_if .ne 119 (by decide +kernel) (fun c4 => ?_) (fun c4 => ?_)
          · have c4 : (0 : Int) ≠ 0 := c4
            exfalso; omega
          · have c4 : (0 : Int) = 0 := by have h : ¬ ((0 : Int) ≠ 0) := c4; omega
            refine hx_blk (npc := 104) (L' := [(0, .inr (.inl 0)), (1, .inl x1), (2, .inl x2), (3, .inl x3), (4, .inl (gx_w (x3 - 20))), (5, .inl 0)]) (st' := [.inl 10, .inl x3]) (m' := m) [((101, .iload_n 3, 1, 0, 0, 0, 0), (0, 0, 0)), ((102, .bipush 10, 2, 0, 0, 0, 0), (0, 0, 0))] (by decide +kernel) rfl ?_
            refine hx_cmp .eq 119 (by decide +kernel) (fun c4 => ?_) (fun c4 => ?_)
            · have c4 : x3 = 10 := c4
              refine hx_blk (npc := 132) (L' := [(0, .inr (.inl 0)), (1, .inl x1), (2, .inl x2), (3, .inl x3), (4, .inl (gx_w (x3 - 20))), (5, .inl 0)]) (st' := [.inl x2, .inr (.inl 44), .inr (.inl 5), .inr (.inl 81)]) (m' := m) [((119, .aload_n 0, 1, 0, 0, 0, 0), (0, 0, 0)), ((120, .getfield 81, 3, 9, 11, 2130, 0), (1, 0, 81)), ((123, .aload_n 0, 1, 0, 0, 0, 0), (0, 0, 0)), ((124, .getfield 26, 3, 9, 2, 2121, 0), (1, 0, 5)), ((127, .aload_n 0, 1, 0, 0, 0, 0), (0, 0, 0)), ((128, .getfield 39, 3, 9, 5, 2124, 0), (1, 0, 44)), ((131, .iload_n 2, 1, 0, 0, 0, 0), (0, 0, 0))] (by decide +kernel) rfl ?_
              exact hx_call (E := (132, .invokevirtual 259, 3, 110, 0, 4128, 0)) (M' := yp_m110) [.inr (.inl 81), .inr (.inl 5), .inr (.inl 44), .inl x2] [] rfl (by decide +kernel) rfl ⟨rfl, rfl⟩ rfl rfl (hx_mono (h1 c1 c2 c3 c4) (fun r m' h' => hx_pick [0, 2, 3, 4, 5] h'))
            · have c4 : x3 ≠ 10 := c4
              refine hx_blk (npc := 108) (L' := [(0, .inr (.inl 0)), (1, .inl x1), (2, .inl x2), (3, .inl x3), (4, .inl (gx_w (x3 - 20))), (5, .inl 0)]) (st' := [.inl x3]) (m' := m) [((107, .iload_n 3, 1, 0, 0, 0, 0), (0, 0, 0))] (by decide +kernel) rfl ?_
              refine hx_if .lt 116 (by decide +kernel) (fun c5 => ?_) (fun c5 => ?_)
              · have c5 : x3 < 0 := c5
                refine hx_blk (npc := 118) (L' := [(0, .inr (.inl 0)), (1, .inl x1), (2, .inl x2), (3, .inl x3), (4, .inl (gx_w (x3 - 20))), (5, .inl 0)]) (st' := [.inl (-3)]) (m' := m) [((116, .bipush (-3), 2, 0, 0, 0, 0), (0, 0, 0))] (by decide +kernel) rfl ?_
                exact hx_reti (by decide +kernel) (h2 c1 c2 c3 c4 c5)
              · have c5 : 0 ≤ x3 := by have h : ¬ (x3 < 0) := c5; omega
                refine hx_blk (npc := 113) (L' := [(0, .inr (.inl 0)), (1, .inl x1), (2, .inl x2), (3, .inl x3), (4, .inl (gx_w (x3 - 20))), (5, .inl 0)]) (st' := [.inl x1, .inl x3]) (m' := m) [((111, .iload_n 3, 1, 0, 0, 0, 0), (0, 0, 0)), ((112, .iload_n 1, 1, 0, 0, 0, 0), (0, 0, 0))] (by decide +kernel) rfl ?_
                refine hx_cmp .lt 119 (by decide +kernel) (fun c6 => ?_) (fun c6 => ?_)
                · have c6 : x3 < x1 := c6
                  refine hx_blk (npc := 132) (L' := [(0, .inr (.inl 0)), (1, .inl x1), (2, .inl x2), (3, .inl x3), (4, .inl (gx_w (x3 - 20))), (5, .inl 0)]) (st' := [.inl x2, .inr (.inl 44), .inr (.inl 5), .inr (.inl 81)]) (m' := m) [((119, .aload_n 0, 1, 0, 0, 0, 0), (0, 0, 0)), ((120, .getfield 81, 3, 9, 11, 2130, 0), (1, 0, 81)), ((123, .aload_n 0, 1, 0, 0, 0, 0), (0, 0, 0)), ((124, .getfield 26, 3, 9, 2, 2121, 0), (1, 0, 5)), ((127, .aload_n 0, 1, 0, 0, 0, 0), (0, 0, 0)), ((128, .getfield 39, 3, 9, 5, 2124, 0), (1, 0, 44)), ((131, .iload_n 2, 1, 0, 0, 0, 0), (0, 0, 0))] (by decide +kernel) rfl ?_
                  exact hx_call (E := (132, .invokevirtual 259, 3, 110, 0, 4128, 0)) (M' := yp_m110) [.inr (.inl 81), .inr (.inl 5), .inr (.inl 44), .inl x2] [] rfl (by decide +kernel) rfl ⟨rfl, rfl⟩ rfl rfl (hx_mono (h3 c1 c2 c3 c4 c5 c6) (fun r m' h' => hx_pick [0, 2, 3, 4, 5] h'))
                · have c6 : x1 ≤ x3 := by have h : ¬ (x3 < x1) := c6; omega
                  refine hx_blk (npc := 118) (L' := [(0, .inr (.inl 0)), (1, .inl x1), (2, .inl x2), (3, .inl x3), (4, .inl (gx_w (x3 - 20))), (5, .inl 0)]) (st' := [.inl (-3)]) (m' := m) [((116, .bipush (-3), 2, 0, 0, 0, 0), (0, 0, 0))] (by decide +kernel) rfl ?_
                  exact hx_reti (by decide +kernel) (h4 c1 c2 c3 c4 c5 c6)
        · have c3 : 0 ≤ (gx_w (x3 - 20)) := by have h : ¬ ((gx_w (x3 - 20)) < 0) := c3; omega
          refine hx_blk (npc := 77) (L' := [(0, .inr (.inl 0)), (1, .inl x1), (2, .inl x2), (3, .inl x3), (4, .inl (gx_w (x3 - 20)))]) (st' := [.inl 8, .inl (gx_w (x3 - 20))]) (m' := m) [((73, .iload 4, 2, 0, 0, 0, 0), (0, 0, 0)), ((75, .bipush 8, 2, 0, 0, 0, 0), (0, 0, 0))] (by decide +kernel) rfl ?_
          refine hx_cmp .ge 93 (by decide +kernel) (fun c4 => ?_) (fun c4 => ?_)
          · have c4 : 8 ≤ (gx_w (x3 - 20)) := c4
            refine hx_blk (npc := 98) (L' := [(0, .inr (.inl 0)), (1, .inl x1), (2, .inl x2), (3, .inl x3), (4, .inl (gx_w (x3 - 20))), (5, .inl 0)]) (st' := [.inl 0]) (m' := m) [((93, .iconst 0, 1, 0, 0, 0, 0), (0, 0, 0)), ((94, .istore 5, 2, 0, 0, 0, 0), (0, 0, 0)), ((96, .iload 5, 2, 0, 0, 0, 0), (0, 0, 0))] (by decide +kernel) rfl ?_
            refine hx_if .ne 119 (by decide +kernel) (fun c5 => ?_) (fun c5 => ?_)
            · have c5 : (0 : Int) ≠ 0 := c5
              exfalso; omega
            · have c5 : (0 : Int) = 0 := by have h : ¬ ((0 : Int) ≠ 0) := c5; omega
              refine hx_blk (npc := 104) (L' := [(0, .inr (.inl 0)), (1, .inl x1), (2, .inl x2), (3, .inl x3), (4, .inl (gx_w (x3 - 20))), (5, .inl 0)]) (st' := [.inl 10, .inl x3]) (m' := m) [((101, .iload_n 3, 1, 0, 0, 0, 0), (0, 0, 0)), ((102, .bipush 10, 2, 0, 0, 0, 0), (0, 0, 0))] (by decide +kernel) rfl ?_
              refine hx_cmp .eq 119 (by decide +kernel) (fun c5 => ?_) (fun c5 => ?_)
              · have c5 : x3 = 10 := c5
                refine hx_blk (npc := 132) (L' := [(0, .inr (.inl 0)), (1, .inl x1), (2, .inl x2), (3, .inl x3), (4, .inl (gx_w (x3 - 20))), (5, .inl 0)]) (st' := [.inl x2, .inr (.inl 44), .inr (.inl 5), .inr (.inl 81)]) (m' := m) [((119, .aload_n 0, 1, 0, 0, 0, 0), (0, 0, 0)), ((120, .getfield 81, 3, 9, 11, 2130, 0), (1, 0, 81)), ((123, .aload_n 0, 1, 0, 0, 0, 0), (0, 0, 0)), ((124, .getfield 26, 3, 9, 2, 2121, 0), (1, 0, 5)), ((127, .aload_n 0, 1, 0, 0, 0, 0), (0, 0, 0)), ((128, .getfield 39, 3, 9, 5, 2124, 0), (1, 0, 44)), ((131, .iload_n 2, 1, 0, 0, 0, 0), (0, 0, 0))] (by decide +kernel) rfl ?_
                exact hx_call (E := (132, .invokevirtual 259, 3, 110, 0, 4128, 0)) (M' := yp_m110) [.inr (.inl 81), .inr (.inl 5), .inr (.inl 44), .inl x2] [] rfl (by decide +kernel) rfl ⟨rfl, rfl⟩ rfl rfl (hx_mono (h5 c1 c2 c3 c4 c5) (fun r m' h' => hx_pick [0, 2, 3, 4, 5] h'))
              · have c5 : x3 ≠ 10 := c5
                refine hx_blk (npc := 108) (L' := [(0, .inr (.inl 0)), (1, .inl x1), (2, .inl x2), (3, .inl x3), (4, .inl (gx_w (x3 - 20))), (5, .inl 0)]) (st' := [.inl x3]) (m' := m) [((107, .iload_n 3, 1, 0, 0, 0, 0), (0, 0, 0))] (by decide +kernel) rfl ?_
                refine hx_if .lt 116 (by decide +kernel) (fun c6 => ?_) (fun c6 => ?_)
                · have c6 : x3 < 0 := c6
                  refine hx_blk (npc := 118) (L' := [(0, .inr (.inl 0)), (1, .inl x1), (2, .inl x2), (3, .inl x3), (4, .inl (gx_w (x3 - 20))), (5, .inl 0)]) (st' := [.inl (-3)]) (m' := m) [((116, .bipush (-3), 2, 0, 0, 0, 0), (0, 0, 0))] (by decide +kernel) rfl ?_
                  exact hx_reti (by decide +kernel) (h6 c1 c2 c3 c4 c5 c6)
                · have c6 : 0 ≤ x3 := by have h : ¬ (x3 < 0) := c6; omega
                  refine hx_blk (npc := 113) (L' := [(0, .inr (.inl 0)), (1, .inl x1), (2, .inl x2), (3, .inl x3), (4, .inl (gx_w (x3 - 20))), (5, .inl 0)]) (st' := [.inl x1, .inl x3]) (m' := m) [((111, .iload_n 3, 1, 0, 0, 0, 0), (0, 0, 0)), ((112, .iload_n 1, 1, 0, 0, 0, 0), (0, 0, 0))] (by decide +kernel) rfl ?_
                  refine hx_cmp .lt 119 (by decide +kernel) (fun c7 => ?_) (fun c7 => ?_)
                  · have c7 : x3 < x1 := c7
                    refine hx_blk (npc := 132) (L' := [(0, .inr (.inl 0)), (1, .inl x1), (2, .inl x2), (3, .inl x3), (4, .inl (gx_w (x3 - 20))), (5, .inl 0)]) (st' := [.inl x2, .inr (.inl 44), .inr (.inl 5), .inr (.inl 81)]) (m' := m) [((119, .aload_n 0, 1, 0, 0, 0, 0), (0, 0, 0)), ((120, .getfield 81, 3, 9, 11, 2130, 0), (1, 0, 81)), ((123, .aload_n 0, 1, 0, 0, 0, 0), (0, 0, 0)), ((124, .getfield 26, 3, 9, 2, 2121, 0), (1, 0, 5)), ((127, .aload_n 0, 1, 0, 0, 0, 0), (0, 0, 0)), ((128, .getfield 39, 3, 9, 5, 2124, 0), (1, 0, 44)), ((131, .iload_n 2, 1, 0, 0, 0, 0), (0, 0, 0))] (by decide +kernel) rfl ?_
                    exact hx_call (E := (132, .invokevirtual 259, 3, 110, 0, 4128, 0)) (M' := yp_m110) [.inr (.inl 81), .inr (.inl 5), .inr (.inl 44), .inl x2] [] rfl (by decide +kernel) rfl ⟨rfl, rfl⟩ rfl rfl (hx_mono (h7 c1 c2 c3 c4 c5 c6 c7) (fun r m' h' => hx_pick [0, 2, 3, 4, 5] h'))
                  · have c7 : x1 ≤ x3 := by have h : ¬ (x3 < x1) := c7; omega
                    refine hx_blk (npc := 118) (L' := [(0, .inr (.inl 0)), (1, .inl x1), (2, .inl x2), (3, .inl x3), (4, .inl (gx_w (x3 - 20))), (5, .inl 0)]) (st' := [.inl (-3)]) (m' := m) [((116, .bipush (-3), 2, 0, 0, 0, 0), (0, 0, 0))] (by decide +kernel) rfl ?_
                    exact hx_reti (by decide +kernel) (h8 c1 c2 c3 c4 c5 c6 c7)
          · have c4 : (gx_w (x3 - 20)) < 8 := by have h : ¬ (8 ≤ (gx_w (x3 - 20))) := c4; omega
            have f1 := gx_and_bd (gx_shr x2 (gx_w (x3 - 20))) 1 (by decide)
            refine hx_blk (npc := 86) (L' := [(0, .inr (.inl 0)), (1, .inl x1), (2, .inl x2), (3, .inl x3), (4, .inl (gx_w (x3 - 20)))]) (st' := [.inl (gx_and (gx_shr x2 (gx_w (x3 - 20))) 1)]) (m' := m) [((80, .iload_n 2, 1, 0, 0, 0, 0), (0, 0, 0)), ((81, .iload 4, 2, 0, 0, 0, 0), (0, 0, 0)), ((83, .ishr, 1, 0, 0, 0, 0), (0, 0, 0)), ((84, .iconst 1, 1, 0, 0, 0, 0), (0, 0, 0)), ((85, .iand, 1, 0, 0, 0, 0), (0, 0, 0))] (by decide +kernel) rfl ?_
            refine hx_if .eq 93 (by decide +kernel) (fun c5 => ?_) (fun c5 => ?_)
            · have c5 : (gx_and (gx_shr x2 (gx_w (x3 - 20))) 1) = 0 := c5
              refine hx_blk (npc := 98) (L' := [(0, .inr (.inl 0)), (1, .inl x1), (2, .inl x2), (3, .inl x3), (4, .inl (gx_w (x3 - 20))), (5, .inl 0)]) (st' := [.inl 0]) (m' := m) [((93, .iconst 0, 1, 0, 0, 0, 0), (0, 0, 0)), ((94, .istore 5, 2, 0, 0, 0, 0), (0, 0, 0)), ((96, .iload 5, 2, 0, 0, 0, 0), (0, 0, 0))] (by decide +kernel) rfl ?_
              refine hx_if .ne 119 (by decide +kernel) (fun c6 => ?_) (fun c6 => ?_)
              · have c6 : (0 : Int) ≠ 0 := c6
                exfalso; omega
              · have c6 : (0 : Int) = 0 := by have h : ¬ ((0 : Int) ≠ 0) := c6; omega
                refine hx_blk (npc := 104) (L' := [(0, .inr (.inl 0)), (1, .inl x1), (2, .inl x2), (3, .inl x3), (4, .inl (gx_w (x3 - 20))), (5, .inl 0)]) (st' := [.inl 10, .inl x3]) (m' := m) [((101, .iload_n 3, 1, 0, 0, 0, 0), (0, 0, 0)), ((102, .bipush 10, 2, 0, 0, 0, 0), (0, 0, 0))] (by decide +kernel) rfl ?_
                refine hx_cmp .eq 119 (by decide +kernel) (fun c6 => ?_) (fun c6 => ?_)
                · have c6 : x3 = 10 := c6
                  refine hx_blk (npc := 132) (L' := [(0, .inr (.inl 0)), (1, .inl x1), (2, .inl x2), (3, .inl x3), (4, .inl (gx_w (x3 - 20))), (5, .inl 0)]) (st' := [.inl x2, .inr (.inl 44), .inr (.inl 5), .inr (.inl 81)]) (m' := m) [((119, .aload_n 0, 1, 0, 0, 0, 0), (0, 0, 0)), ((120, .getfield 81, 3, 9, 11, 2130, 0), (1, 0, 81)), ((123, .aload_n 0, 1, 0, 0, 0, 0), (0, 0, 0)), ((124, .getfield 26, 3, 9, 2, 2121, 0), (1, 0, 5)), ((127, .aload_n 0, 1, 0, 0, 0, 0), (0, 0, 0)), ((128, .getfield 39, 3, 9, 5, 2124, 0), (1, 0, 44)), ((131, .iload_n 2, 1, 0, 0, 0, 0), (0, 0, 0))] (by decide +kernel) rfl ?_
                  exact hx_call (E := (132, .invokevirtual 259, 3, 110, 0, 4128, 0)) (M' := yp_m110) [.inr (.inl 81), .inr (.inl 5), .inr (.inl 44), .inl x2] [] rfl (by decide +kernel) rfl ⟨rfl, rfl⟩ rfl rfl (hx_mono (h9 c1 c2 c3 c4 c5 c6) (fun r m' h' => hx_pick [0, 2, 3, 4, 5] h'))
                · have c6 : x3 ≠ 10 := c6
                  refine hx_blk (npc := 108) (L' := [(0, .inr (.inl 0)), (1, .inl x1), (2, .inl x2), (3, .inl x3), (4, .inl (gx_w (x3 - 20))), (5, .inl 0)]) (st' := [.inl x3]) (m' := m) [((107, .iload_n 3, 1, 0, 0, 0, 0), (0, 0, 0))] (by decide +kernel) rfl ?_
                  refine hx_if .lt 116 (by decide +kernel) (fun c7 => ?_) (fun c7 => ?_)
                  · have c7 : x3 < 0 := c7
                    refine hx_blk (npc := 118) (L' := [(0, .inr (.inl 0)), (1, .inl x1), (2, .inl x2), (3, .inl x3), (4, .inl (gx_w (x3 - 20))), (5, .inl 0)]) (st' := [.inl (-3)]) (m' := m) [((116, .bipush (-3), 2, 0, 0, 0, 0), (0, 0, 0))] (by decide +kernel) rfl ?_
                    exact hx_reti (by decide +kernel) (h10 c1 c2 c3 c4 c5 c6 c7)
                  · have c7 : 0 ≤ x3 := by have h : ¬ (x3 < 0) := c7; omega
                    refine hx_blk (npc := 113) (L' := [(0, .inr (.inl 0)), (1, .inl x1), (2, .inl x2), (3, .inl x3), (4, .inl (gx_w (x3 - 20))), (5, .inl 0)]) (st' := [.inl x1, .inl x3]) (m' := m) [((111, .iload_n 3, 1, 0, 0, 0, 0), (0, 0, 0)), ((112, .iload_n 1, 1, 0, 0, 0, 0), (0, 0, 0))] (by decide +kernel) rfl ?_
                    refine hx_cmp .lt 119 (by decide +kernel) (fun c8 => ?_) (fun c8 => ?_)
                    · have c8 : x3 < x1 := c8
                      refine hx_blk (npc := 132) (L' := [(0, .inr (.inl 0)), (1, .inl x1), (2, .inl x2), (3, .inl x3), (4, .inl (gx_w (x3 - 20))), (5, .inl 0)]) (st' := [.inl x2, .inr (.inl 44), .inr (.inl 5), .inr (.inl 81)]) (m' := m) [((119, .aload_n 0, 1, 0, 0, 0, 0), (0, 0, 0)), ((120, .getfield 81, 3, 9, 11, 2130, 0), (1, 0, 81)), ((123, .aload_n 0, 1, 0, 0, 0, 0), (0, 0, 0)), ((124, .getfield 26, 3, 9, 2, 2121, 0), (1, 0, 5)), ((127, .aload_n 0, 1, 0, 0, 0, 0), (0, 0, 0)), ((128, .getfield 39, 3, 9, 5, 2124, 0), (1, 0, 44)), ((131, .iload_n 2, 1, 0, 0, 0, 0), (0, 0, 0))] (by decide +kernel) rfl ?_
                      exact hx_call (E := (132, .invokevirtual 259, 3, 110, 0, 4128, 0)) (M' := yp_m110) [.inr (.inl 81), .inr (.inl 5), .inr (.inl 44), .inl x2] [] rfl (by decide +kernel) rfl ⟨rfl, rfl⟩ rfl rfl (hx_mono (h11 c1 c2 c3 c4 c5 c6 c7 c8) (fun r m' h' => hx_pick [0, 2, 3, 4, 5] h'))
                    · have c8 : x1 ≤ x3 := by have h : ¬ (x3 < x1) := c8; omega
                      refine hx_blk (npc := 118) (L' := [(0, .inr (.inl 0)), (1, .inl x1), (2, .inl x2), (3, .inl x3), (4, .inl (gx_w (x3 - 20))), (5, .inl 0)]) (st' := [.inl (-3)]) (m' := m) [((116, .bipush (-3), 2, 0, 0, 0, 0), (0, 0, 0))] (by decide +kernel) rfl ?_
                      exact hx_reti (by decide +kernel) (h12 c1 c2 c3 c4 c5 c6 c7 c8)
            · have c5 : (gx_and (gx_shr x2 (gx_w (x3 - 20))) 1) ≠ 0 := c5
              refine hx_blk (npc := 98) (L' := [(0, .inr (.inl 0)), (1, .inl x1), (2, .inl x2), (3, .inl x3), (4, .inl (gx_w (x3 - 20))), (5, .inl 1)]) (st' := [.inl 1]) (m' := m) [((89, .iconst 1, 1, 0, 0, 0, 0), (0, 0, 0)), ((90, .goto 4, 3, 0, 0, 0, 0), (0, 0, 0)), ((94, .istore 5, 2, 0, 0, 0, 0), (0, 0, 0)), ((96, .iload 5, 2, 0, 0, 0, 0), (0, 0, 0))] (by decide +kernel) rfl ?_
              refine hx_if .ne 119 (by decide +kernel) (fun c6 => ?_) (fun c6 => ?_)
              · have c6 : (1 : Int) ≠ 0 := c6
                refine hx_blk (npc := 132) (L' := [(0, .inr (.inl 0)), (1, .inl x1), (2, .inl x2), (3, .inl x3), (4, .inl (gx_w (x3 - 20))), (5, .inl 1)]) (st' := [.inl x2, .inr (.inl 44), .inr (.inl 5), .inr (.inl 81)]) (m' := m) [((119, .aload_n 0, 1, 0, 0, 0, 0), (0, 0, 0)), ((120, .getfield 81, 3, 9, 11, 2130, 0), (1, 0, 81)), ((123, .aload_n 0, 1, 0, 0, 0, 0), (0, 0, 0)), ((124, .getfield 26, 3, 9, 2, 2121, 0), (1, 0, 5)), ((127, .aload_n 0, 1, 0, 0, 0, 0), (0, 0, 0)), ((128, .getfield 39, 3, 9, 5, 2124, 0), (1, 0, 44)), ((131, .iload_n 2, 1, 0, 0, 0, 0), (0, 0, 0))] (by decide +kernel) rfl ?_
                exact hx_call (E := (132, .invokevirtual 259, 3, 110, 0, 4128, 0)) (M' := yp_m110) [.inr (.inl 81), .inr (.inl 5), .inr (.inl 44), .inl x2] [] rfl (by decide +kernel) rfl ⟨rfl, rfl⟩ rfl rfl (hx_mono (h13 c1 c2 c3 c4 c5) (fun r m' h' => hx_pick [0, 2, 3, 4, 5] h'))
              · have c6 : (1 : Int) = 0 := by have h : ¬ ((1 : Int) ≠ 0) := c6; omega
                exfalso; omega
      · have c3 : (1 : Int) = 0 := by have h : ¬ ((1 : Int) ≠ 0) := c3; omega
        exfalso; omega
    · have c2 : ¬ (cGrp 5 m x2) := c2
      show hxn xs n yp_m107 56 [(0, .inr (.inl 0)), (1, .inl x1), (2, .inl x2), (3, .inl x3)] [.inl 0] m Q
      refine hx_if .ne 62 (by decide +kernel) (fun c3 => ?_) (fun c3 => ?_)
      · have c3 : (0 : Int) ≠ 0 := c3
        exfalso; omega
      · have c3 : (0 : Int) = 0 := by have h : ¬ ((0 : Int) ≠ 0) := c3; omega
        refine hx_blk (npc := 61) (L' := [(0, .inr (.inl 0)), (1, .inl x1), (2, .inl x2), (3, .inl x3)]) (st' := [.inl (-3)]) (m' := m) [((59, .bipush (-3), 2, 0, 0, 0, 0), (0, 0, 0))] (by decide +kernel) rfl ?_
        exact hx_reti (by decide +kernel) (h14 c1 c2)
  · have c1 : s0 = 0 := by have h : ¬ (s0 ≠ 0) := c1; omega
    refine hx_blk (npc := 47) (L' := [(0, .inr (.inl 0)), (1, .inl x1), (2, .inl x2), (3, .inl x3)]) (st' := [.inl (-2)]) (m' := m) [((45, .bipush (-2), 2, 0, 0, 0, 0), (0, 0, 0))] (by decide +kernel) rfl ?_
    exact hx_reti (by decide +kernel) (h15 c1)

/-- sold from 135 on -/
theorem hr107_135 {xs : List Int32} {n : Nat} {Q : hQ} {m : gx_M} {x2 x3 x4 x5 : Int}
    (h1 : (x5 = 0) → (x3 ≠ 10) → hxn xs n yp_m119 0 [(0, .inr (.inl 81)), (1, .inl x3)] [] m (fun r m' => hxn xs n yp_m107 176 [] (hrs r ++ []) m' Q))
    (h2 : (x5 = 0) → (x3 = 10) → hxn xs n yp_m118 0 [(0, .inr (.inl 81)), (1, .inl x2)] [] m (fun r m' => hxn xs n yp_m107 165 [] (hrs r ++ []) m' Q))
    (h3 : (x5 ≠ 0) → hxn xs n yp_m117 0 [(0, .inr (.inl 81)), (1, .inl x2), (2, .inl x4)] [] m (fun r m' => hxn xs n yp_m107 150 [] (hrs r ++ []) m' Q)) : hxn xs (n + 1) yp_m107 135 [(0, .inr (.inl 0)), (2, .inl x2), (3, .inl x3), (4, .inl x4), (5, .inl x5)] [] m Q := by
  refine hx_blks (npc := 137) (L' := [(0, .inr (.inl 0)), (2, .inl x2), (3, .inl x3), (4, .inl x4), (5, .inl x5)]) (st' := [.inl x5]) (m' := m) ((135, .iload 5, 2, 0, 0, 0, 0), (0, 0, 0)) [] (by decide +kernel) rfl ?_
  refine hx_if .eq 151 (by decide +kernel) (fun c1 => ?_) (fun c1 => ?_)
  · have c1 : x5 = 0 := c1
    refine hx_blk (npc := 154) (L' := [(0, .inr (.inl 0)), (2, .inl x2), (3, .inl x3), (4, .inl x4), (5, .inl x5)]) (st' := [.inl 10, .inl x3]) (m' := m) [((151, .iload_n 3, 1, 0, 0, 0, 0), (0, 0, 0)), ((152, .bipush 10, 2, 0, 0, 0, 0), (0, 0, 0))] (by decide +kernel) rfl ?_
    refine hx_cmp .ne 168 (by decide +kernel) (fun c2 => ?_) (fun c2 => ?_)
    · have c2 : x3 ≠ 10 := c2
      refine hx_blk (npc := 173) (L' := [(0, .inr (.inl 0)), (2, .inl x2), (3, .inl x3), (4, .inl x4), (5, .inl x5)]) (st' := [.inl x3, .inr (.inl 81)]) (m' := m) [((168, .aload_n 0, 1, 0, 0, 0, 0), (0, 0, 0)), ((169, .getfield 81, 3, 9, 11, 2130, 0), (1, 0, 81)), ((172, .iload_n 3, 1, 0, 0, 0, 0), (0, 0, 0))] (by decide +kernel) rfl ?_
      exact hx_call (E := (173, .invokevirtual 269, 3, 119, 0, 4167, 0)) (M' := yp_m119) [.inr (.inl 81), .inl x3] [] rfl (by decide +kernel) rfl ⟨rfl, rfl⟩ rfl rfl (hx_mono (h1 c1 c2) (fun r m' h' => hx_pick [] h'))
    · have c2 : x3 = 10 := by have h : ¬ (x3 ≠ 10) := c2; omega
      refine hx_blk (npc := 162) (L' := [(0, .inr (.inl 0)), (2, .inl x2), (3, .inl x3), (4, .inl x4), (5, .inl x5)]) (st' := [.inl x2, .inr (.inl 81)]) (m' := m) [((157, .aload_n 0, 1, 0, 0, 0, 0), (0, 0, 0)), ((158, .getfield 81, 3, 9, 11, 2130, 0), (1, 0, 81)), ((161, .iload_n 2, 1, 0, 0, 0, 0), (0, 0, 0))] (by decide +kernel) rfl ?_
      exact hx_call (E := (162, .invokevirtual 266, 3, 118, 0, 4166, 0)) (M' := yp_m118) [.inr (.inl 81), .inl x2] [] rfl (by decide +kernel) rfl ⟨rfl, rfl⟩ rfl rfl (hx_mono (h2 c1 c2) (fun r m' h' => hx_pick [] h'))
  · have c1 : x5 ≠ 0 := c1
    refine hx_blk (npc := 147) (L' := [(0, .inr (.inl 0)), (2, .inl x2), (3, .inl x3), (4, .inl x4), (5, .inl x5)]) (st' := [.inl x4, .inl x2, .inr (.inl 81)]) (m' := m) [((140, .aload_n 0, 1, 0, 0, 0, 0), (0, 0, 0)), ((141, .getfield 81, 3, 9, 11, 2130, 0), (1, 0, 81)), ((144, .iload_n 2, 1, 0, 0, 0, 0), (0, 0, 0)), ((145, .iload 4, 2, 0, 0, 0, 0), (0, 0, 0))] (by decide +kernel) rfl ?_
    exact hx_call (E := (147, .invokevirtual 263, 3, 117, 0, 4158, 0)) (M' := yp_m117) [.inr (.inl 81), .inl x2, .inl x4] [] rfl (by decide +kernel) rfl ⟨rfl, rfl⟩ rfl rfl (hx_mono (h3 c1) (fun r m' h' => hx_pick [] h'))

/-- sold from 150 on -/
theorem hr107_150 {xs : List Int32} {n : Nat} {Q : hQ} {m : gx_M} {s0 : Int}
    (h1 : Q (some (.inl s0)) m) : hxn xs (n + 1) yp_m107 150 [] [.inl s0] m Q := by
  exact hx_reti (by decide +kernel) h1

/-- sold from 165 on -/
theorem hr107_165 {xs : List Int32} {n : Nat} {Q : hQ} {m : gx_M} {s0 : Int}
    (h1 : Q (some (.inl s0)) m) : hxn xs (n + 1) yp_m107 165 [] [.inl s0] m Q := by
  refine hx_blks (npc := 176) (L' := []) (st' := [.inl s0]) (m' := m) ((165, .goto 11, 3, 0, 0, 0, 0), (0, 0, 0)) [] (by decide +kernel) rfl ?_
  exact hx_reti (by decide +kernel) h1

/-- sold from 176 on -/
theorem hr107_176 {xs : List Int32} {n : Nat} {Q : hQ} {m : gx_M} {s0 : Int}
    (h1 : Q (some (.inl s0)) m) : hxn xs (n + 1) yp_m107 176 [] [.inl s0] m Q := by
  exact hx_reti (by decide +kernel) h1
end
section
/-! sold: roads of the reference -/
/-- takesYears from 0 on -/
theorem hr243_0 {xs : List Int32} {n : Nat} {Q : hQ} {m : gx_M} {x1 : Int}
    (h1 : hxn xs n yp_m243 7 [(0, .inr (.inl 86)), (1, .inl x1), (2, .inl 0)] [] (gx_u m 86 37 x1) Q) : hxn xs (n + 1) yp_m243 0 [(0, .inr (.inl 86)), (1, .inl x1)] [] m Q := by
  refine hx_blks (npc := 7) (L' := [(0, .inr (.inl 86)), (1, .inl x1), (2, .inl 0)]) (st' := []) (m' := (gx_u m 86 37 x1)) ((0, .aload_n 0, 1, 0, 0, 0, 0), (0, 0, 0)) [((1, .iload_n 1, 1, 0, 0, 0, 0), (0, 0, 0)), ((2, .putfield 346, 3, 10, 37, 5150, 0), (0, 86, 0)), ((5, .iconst 0, 1, 0, 0, 0, 0), (0, 0, 0)), ((6, .istore_n 2, 1, 0, 0, 0, 0), (0, 0, 0))] (by decide +kernel) rfl ?_
  exact hx_pick [0, 1, 2] h1

/-- takesYears from 7 on -/
theorem hr243_7 {xs : List Int32} {n : Nat} {Q : hQ} {m : gx_M} {x1 x2 : Int}
    (h1 : (x1 ≤ x2) → Q (some (.inl 1)) m)
    (h2 : (x2 < x1) → (aYr (m 87) (gx_and (m 90 (x2).toNat) 255)) → (aPw (m 87) (gx_and (m 90 (x2).toNat) 255)) → Q (some (.inl 0)) m)
    (h3 : (x2 < x1) → (aYr (m 87) (gx_and (m 90 (x2).toNat) 255)) → (¬ (aPw (m 87) (gx_and (m 90 (x2).toNat) 255))) → hxn xs n yp_m243 44 [(0, .inr (.inl 86)), (1, .inl x1), (2, .inl x2), (3, .inl (gx_and (m 90 (x2).toNat) 255)), (4, .inl 0)] [] m Q)
    (h4 : (x2 < x1) → (¬ (aYr (m 87) (gx_and (m 90 (x2).toNat) 255))) → Q (some (.inl 0)) m) : hxn xs (n + 1) yp_m243 7 [(0, .inr (.inl 86)), (1, .inl x1), (2, .inl x2)] [] m Q := by
  refine hx_blks (npc := 9) (L' := [(0, .inr (.inl 86)), (1, .inl x1), (2, .inl x2)]) (st' := [.inl x1, .inl x2]) (m' := m) ((7, .iload_n 2, 1, 0, 0, 0, 0), (0, 0, 0)) [((8, .iload_n 1, 1, 0, 0, 0, 0), (0, 0, 0))] (by decide +kernel) rfl ?_
  refine hx_cmp .ge 82 (by decide +kernel) (fun c1 => ?_) (fun c1 => ?_)
  · have c1 : x1 ≤ x2 := c1
    refine hx_blk (npc := 83) (L' := [(0, .inr (.inl 86)), (1, .inl x1), (2, .inl x2)]) (st' := [.inl 1]) (m' := m) [((82, .iconst 1, 1, 0, 0, 0, 0), (0, 0, 0))] (by decide +kernel) rfl ?_
    exact hx_reti (by decide +kernel) (h1 c1)
  · have c1 : x2 < x1 := by have h : ¬ (x1 ≤ x2) := c1; omega
    have f1 := gx_and_bd (m 90 (x2).toNat) 255 (by decide)
    refine hx_blk (npc := 25) (L' := [(0, .inr (.inl 86)), (1, .inl x1), (2, .inl x2), (3, .inl (gx_and (m 90 (x2).toNat) 255))]) (st' := [.inl (gx_and (m 90 (x2).toNat) 255), .inr (.inl 86)]) (m' := m) [((12, .aload_n 0, 1, 0, 0, 0, 0), (0, 0, 0)), ((13, .getfield 19, 3, 10, 3, 5116, 0), (1, 86, 90)), ((16, .iload_n 2, 1, 0, 0, 0, 0), (0, 0, 0)), ((17, .baload, 1, 0, 0, 0, 0), (0, 90, 0)), ((18, .sipush 255, 3, 0, 0, 0, 0), (0, 0, 0)), ((21, .iand, 1, 0, 0, 0, 0), (0, 0, 0)), ((22, .istore_n 3, 1, 0, 0, 0, 0), (0, 0, 0)), ((23, .aload_n 0, 1, 0, 0, 0, 0), (0, 0, 0)), ((24, .iload_n 3, 1, 0, 0, 0, 0), (0, 0, 0))] (by decide +kernel) rfl ?_
    refine hx_call (E := (25, .invokevirtual 269, 3, 196, 0, 6156, 0)) (M' := yp_m196) [.inr (.inl 86), .inl (gx_and (m 90 (x2).toNat) 255)] [] rfl (by decide +kernel) rfl ⟨rfl, rfl⟩ rfl rfl (hs196 (fun c2 => ?_) (fun c2 => ?_))
    · have c2 : aYr (m 87) (gx_and (m 90 (x2).toNat) 255) := c2
      show hxn xs n yp_m243 28 [(0, .inr (.inl 86)), (1, .inl x1), (2, .inl x2), (3, .inl (gx_and (m 90 (x2).toNat) 255))] [.inl 1] m Q
      refine hx_if .eq 39 (by decide +kernel) (fun c3 => ?_) (fun c3 => ?_)
      · have c3 : (1 : Int) = 0 := c3
        exfalso; omega
      · have c3 : (1 : Int) ≠ 0 := c3
        refine hx_blk (npc := 33) (L' := [(0, .inr (.inl 86)), (1, .inl x1), (2, .inl x2), (3, .inl (gx_and (m 90 (x2).toNat) 255))]) (st' := [.inl (gx_and (m 90 (x2).toNat) 255), .inr (.inl 86)]) (m' := m) [((31, .aload_n 0, 1, 0, 0, 0, 0), (0, 0, 0)), ((32, .iload_n 3, 1, 0, 0, 0, 0), (0, 0, 0))] (by decide +kernel) rfl ?_
        refine hx_call (E := (33, .invokevirtual 275, 3, 200, 0, 6171, 0)) (M' := yp_m200) [.inr (.inl 86), .inl (gx_and (m 90 (x2).toNat) 255)] [] rfl (by decide +kernel) rfl ⟨rfl, rfl⟩ rfl rfl (hs200 (fun c3 => ?_) (fun c3 => ?_))
        · have c3 : aPw (m 87) (gx_and (m 90 (x2).toNat) 255) := c3
          show hxn xs n yp_m243 36 [(0, .inr (.inl 86)), (1, .inl x1), (2, .inl x2), (3, .inl (gx_and (m 90 (x2).toNat) 255))] [.inl 1] m Q
          refine hx_if .eq 41 (by decide +kernel) (fun c4 => ?_) (fun c4 => ?_)
          · have c4 : (1 : Int) = 0 := c4
            exfalso; omega
          · have c4 : (1 : Int) ≠ 0 := c4
            refine hx_blk (npc := 40) (L' := [(0, .inr (.inl 86)), (1, .inl x1), (2, .inl x2), (3, .inl (gx_and (m 90 (x2).toNat) 255))]) (st' := [.inl 0]) (m' := m) [((39, .iconst 0, 1, 0, 0, 0, 0), (0, 0, 0))] (by decide +kernel) rfl ?_
            exact hx_reti (by decide +kernel) (h2 c1 c2 c3)
        · have c3 : ¬ (aPw (m 87) (gx_and (m 90 (x2).toNat) 255)) := c3
          show hxn xs n yp_m243 36 [(0, .inr (.inl 86)), (1, .inl x1), (2, .inl x2), (3, .inl (gx_and (m 90 (x2).toNat) 255))] [.inl 0] m Q
          refine hx_if .eq 41 (by decide +kernel) (fun c4 => ?_) (fun c4 => ?_)
          · have c4 : (0 : Int) = 0 := c4
            refine hx_blk (npc := 44) (L' := [(0, .inr (.inl 86)), (1, .inl x1), (2, .inl x2), (3, .inl (gx_and (m 90 (x2).toNat) 255)), (4, .inl 0)]) (st' := []) (m' := m) [((41, .iconst 0, 1, 0, 0, 0, 0), (0, 0, 0)), ((42, .istore 4, 2, 0, 0, 0, 0), (0, 0, 0))] (by decide +kernel) rfl ?_
            exact hx_pick [0, 1, 2, 3, 4] (h3 c1 c2 c3)
          · have c4 : (0 : Int) ≠ 0 := c4
            exfalso; omega
    · have c2 : ¬ (aYr (m 87) (gx_and (m 90 (x2).toNat) 255)) := c2
      show hxn xs n yp_m243 28 [(0, .inr (.inl 86)), (1, .inl x1), (2, .inl x2), (3, .inl (gx_and (m 90 (x2).toNat) 255))] [.inl 0] m Q
      refine hx_if .eq 39 (by decide +kernel) (fun c3 => ?_) (fun c3 => ?_)
      · have c3 : (0 : Int) = 0 := c3
        refine hx_blk (npc := 40) (L' := [(0, .inr (.inl 86)), (1, .inl x1), (2, .inl x2), (3, .inl (gx_and (m 90 (x2).toNat) 255))]) (st' := [.inl 0]) (m' := m) [((39, .iconst 0, 1, 0, 0, 0, 0), (0, 0, 0))] (by decide +kernel) rfl ?_
        exact hx_reti (by decide +kernel) (h4 c1 c2)
      · have c3 : (0 : Int) ≠ 0 := c3
        exfalso; omega

/-- takesYears from 44 on -/
theorem hr243_44 {xs : List Int32} {n : Nat} {Q : hQ} {m : gx_M} {x1 x2 x3 x4 : Int}
    (h1 : (x2 ≤ x4) → hxn xs n yp_m243 7 [(0, .inr (.inl 86)), (1, .inl x1), (2, .inl (gx_w (x2 + 1)))] [] (gx_u m 112 (x2).toNat x3) Q)
    (h2 : (x4 < x2) → ((m 112 (x4).toNat) ≠ x3) → hxn xs n yp_m243 44 [(0, .inr (.inl 86)), (1, .inl x1), (2, .inl x2), (3, .inl x3), (4, .inl (gx_w (x4 + 1)))] [] m Q)
    (h3 : (x4 < x2) → ((m 112 (x4).toNat) = x3) → Q (some (.inl 0)) m) : hxn xs (n + 1) yp_m243 44 [(0, .inr (.inl 86)), (1, .inl x1), (2, .inl x2), (3, .inl x3), (4, .inl x4)] [] m Q := by
  refine hx_blks (npc := 47) (L' := [(0, .inr (.inl 86)), (1, .inl x1), (2, .inl x2), (3, .inl x3), (4, .inl x4)]) (st' := [.inl x2, .inl x4]) (m' := m) ((44, .iload 4, 2, 0, 0, 0, 0), (0, 0, 0)) [((46, .iload_n 2, 1, 0, 0, 0, 0), (0, 0, 0))] (by decide +kernel) rfl ?_
  refine hx_cmp .ge 69 (by decide +kernel) (fun c1 => ?_) (fun c1 => ?_)
  · have c1 : x2 ≤ x4 := c1
    refine hx_blk (npc := 7) (L' := [(0, .inr (.inl 86)), (1, .inl x1), (2, .inl (gx_w (x2 + 1))), (3, .inl x3), (4, .inl x4)]) (st' := []) (m' := (gx_u m 112 (x2).toNat x3)) [((69, .aload_n 0, 1, 0, 0, 0, 0), (0, 0, 0)), ((70, .getfield 86, 3, 10, 39, 5152, 0), (1, 86, 112)), ((73, .iload_n 2, 1, 0, 0, 0, 0), (0, 0, 0)), ((74, .iload_n 3, 1, 0, 0, 0, 0), (0, 0, 0)), ((75, .iastore, 1, 0, 0, 0, 0), (0, 112, 0)), ((76, .iinc 2 1, 3, 0, 0, 0, 0), (0, 0, 0)), ((79, .goto (-72), 3, 0, 0, 0, 0), (0, 0, 0))] (by decide +kernel) rfl ?_
    exact hx_pick [0, 1, 2] (h1 c1)
  · have c1 : x4 < x2 := by have h : ¬ (x2 ≤ x4) := c1; omega
    refine hx_blk (npc := 58) (L' := [(0, .inr (.inl 86)), (1, .inl x1), (2, .inl x2), (3, .inl x3), (4, .inl x4)]) (st' := [.inl x3, .inl (m 112 (x4).toNat)]) (m' := m) [((50, .aload_n 0, 1, 0, 0, 0, 0), (0, 0, 0)), ((51, .getfield 86, 3, 10, 39, 5152, 0), (1, 86, 112)), ((54, .iload 4, 2, 0, 0, 0, 0), (0, 0, 0)), ((56, .iaload, 1, 0, 0, 0, 0), (0, 112, 0)), ((57, .iload_n 3, 1, 0, 0, 0, 0), (0, 0, 0))] (by decide +kernel) rfl ?_
    refine hx_cmp .ne 63 (by decide +kernel) (fun c2 => ?_) (fun c2 => ?_)
    · have c2 : (m 112 (x4).toNat) ≠ x3 := c2
      refine hx_blk (npc := 44) (L' := [(0, .inr (.inl 86)), (1, .inl x1), (2, .inl x2), (3, .inl x3), (4, .inl (gx_w (x4 + 1)))]) (st' := []) (m' := m) [((63, .iinc 4 1, 3, 0, 0, 0, 0), (0, 0, 0)), ((66, .goto (-22), 3, 0, 0, 0, 0), (0, 0, 0))] (by decide +kernel) rfl ?_
      exact hx_pick [0, 1, 2, 3, 4] (h2 c1 c2)
    · have c2 : (m 112 (x4).toNat) = x3 := by have h : ¬ ((m 112 (x4).toNat) ≠ x3) := c2; omega
      refine hx_blk (npc := 62) (L' := [(0, .inr (.inl 86)), (1, .inl x1), (2, .inl x2), (3, .inl x3), (4, .inl x4)]) (st' := [.inl 0]) (m' := m) [((61, .iconst 0, 1, 0, 0, 0, 0), (0, 0, 0))] (by decide +kernel) rfl ?_
      exact hx_reti (by decide +kernel) (h3 c1 c2)

/-- soldBy from 0 on -/
theorem hr246_0 {xs : List Int32} {n : Nat} {Q : hQ} {m : gx_M} {x1 x2 x3 : Int}
    (h1 : (x2 ≠ 8) → (gx_and (gx_shr (m 86 38) x2) 1 = 1) → (gx_and (gx_shr x3 x2) 1 = 1) → Q (some (.inl (-1))) m)
    (h2 : (x2 ≠ 8) → (gx_and (gx_shr (m 86 38) x2) 1 = 1) → (¬ (gx_and (gx_shr x3 x2) 1 = 1)) → ((m 87 (gx_w (240 + (m 112 (x1).toNat))).toNat) ≠ x2) → Q (some (.inl (gx_w ((m 113 (gx_w ((gx_w (8 * x1)) + x2)).toNat) + (m 114 (gx_w ((gx_w (256 * (gx_w (x1 + 1)))) + (gx_or x3 (gx_shl 1 x2)))).toNat))))) m)
    (h3 : (x2 ≠ 8) → (gx_and (gx_shr (m 86 38) x2) 1 = 1) → (¬ (gx_and (gx_shr x3 x2) 1 = 1)) → ((m 87 (gx_w (240 + (m 112 (x1).toNat))).toNat) = x2) → Q (some (.inl (-1))) m)
    (h4 : (x2 ≠ 8) → (¬ (gx_and (gx_shr (m 86 38) x2) 1 = 1)) → Q (some (.inl (-1))) m)
    (h5 : (x2 = 8) → Q (some (.inl (m 114 (gx_w ((gx_w (256 * (gx_w (x1 + 1)))) + x3)).toNat))) m) : hxn xs (n + 1) yp_m246 0 [(0, .inr (.inl 86)), (1, .inl x1), (2, .inl x2), (3, .inl x3)] [] m Q := by
  refine hx_blks (npc := 3) (L' := [(0, .inr (.inl 86)), (1, .inl x1), (2, .inl x2), (3, .inl x3)]) (st' := [.inl 8, .inl x2]) (m' := m) ((0, .iload_n 2, 1, 0, 0, 0, 0), (0, 0, 0)) [((1, .bipush 8, 2, 0, 0, 0, 0), (0, 0, 0))] (by decide +kernel) rfl ?_
  refine hx_cmp .ne 21 (by decide +kernel) (fun c1 => ?_) (fun c1 => ?_)
  · have c1 : x2 ≠ 8 := c1
    refine hx_blk (npc := 26) (L' := [(0, .inr (.inl 86)), (1, .inl x1), (2, .inl x2), (3, .inl x3)]) (st' := [.inl x2, .inl (m 86 38)]) (m' := m) [((21, .aload_n 0, 1, 0, 0, 0, 0), (0, 0, 0)), ((22, .getfield 349, 3, 10, 38, 5151, 0), (0, 86, 0)), ((25, .iload_n 2, 1, 0, 0, 0, 0), (0, 0, 0))] (by decide +kernel) rfl ?_
    refine hx_call (E := (26, .invokestatic 104, 3, 165, 0, 6035, 0)) (M' := yp_m165) [.inl (m 86 38), .inl x2] [] rfl (by decide +kernel) rfl ⟨rfl, rfl⟩ rfl rfl (hs165 (fun c2 => ?_) (fun c2 => ?_))
    · have c2 : gx_and (gx_shr (m 86 38) x2) 1 = 1 := c2
      show hxn xs n yp_m246 29 [(0, .inr (.inl 86)), (1, .inl x1), (2, .inl x2), (3, .inl x3)] [.inl 1] m Q
      refine hx_if .eq 59 (by decide +kernel) (fun c3 => ?_) (fun c3 => ?_)
      · have c3 : (1 : Int) = 0 := c3
        exfalso; omega
      · have c3 : (1 : Int) ≠ 0 := c3
        refine hx_blk (npc := 34) (L' := [(0, .inr (.inl 86)), (1, .inl x1), (2, .inl x2), (3, .inl x3)]) (st' := [.inl x2, .inl x3]) (m' := m) [((32, .iload_n 3, 1, 0, 0, 0, 0), (0, 0, 0)), ((33, .iload_n 2, 1, 0, 0, 0, 0), (0, 0, 0))] (by decide +kernel) rfl ?_
        refine hx_call (E := (34, .invokestatic 104, 3, 165, 0, 6035, 0)) (M' := yp_m165) [.inl x3, .inl x2] [] rfl (by decide +kernel) rfl ⟨rfl, rfl⟩ rfl rfl (hs165 (fun c3 => ?_) (fun c3 => ?_))
        · have c3 : gx_and (gx_shr x3 x2) 1 = 1 := c3
          show hxn xs n yp_m246 37 [(0, .inr (.inl 86)), (1, .inl x1), (2, .inl x2), (3, .inl x3)] [.inl 1] m Q
          refine hx_if .ne 59 (by decide +kernel) (fun c4 => ?_) (fun c4 => ?_)
          · have c4 : (1 : Int) ≠ 0 := c4
            refine hx_blk (npc := 93) (L' := [(0, .inr (.inl 86)), (1, .inl x1), (2, .inl x2), (3, .inl x3)]) (st' := [.inl (-1)]) (m' := m) [((59, .iconst (-1), 1, 0, 0, 0, 0), (0, 0, 0)), ((60, .goto 33, 3, 0, 0, 0, 0), (0, 0, 0))] (by decide +kernel) rfl ?_
            exact hx_reti (by decide +kernel) (h1 c1 c2 c3)
          · have c4 : (1 : Int) = 0 := by have h : ¬ ((1 : Int) ≠ 0) := c4; omega
            exfalso; omega
        · have c3 : ¬ (gx_and (gx_shr x3 x2) 1 = 1) := c3
          show hxn xs n yp_m246 37 [(0, .inr (.inl 86)), (1, .inl x1), (2, .inl x2), (3, .inl x3)] [.inl 0] m Q
          refine hx_if .ne 59 (by decide +kernel) (fun c4 => ?_) (fun c4 => ?_)
          · have c4 : (0 : Int) ≠ 0 := c4
            exfalso; omega
          · have c4 : (0 : Int) = 0 := by have h : ¬ ((0 : Int) ≠ 0) := c4; omega
            refine hx_blk (npc := 56) (L' := [(0, .inr (.inl 86)), (1, .inl x1), (2, .inl x2), (3, .inl x3)]) (st' := [.inl x2, .inl (m 87 (gx_w (240 + (m 112 (x1).toNat))).toNat)]) (m' := m) [((40, .aload_n 0, 1, 0, 0, 0, 0), (0, 0, 0)), ((41, .getfield 7, 3, 10, 0, 5113, 0), (1, 86, 87)), ((44, .sipush 240, 3, 0, 0, 0, 0), (0, 0, 0)), ((47, .aload_n 0, 1, 0, 0, 0, 0), (0, 0, 0)), ((48, .getfield 86, 3, 10, 39, 5152, 0), (1, 86, 112)), ((51, .iload_n 1, 1, 0, 0, 0, 0), (0, 0, 0)), ((52, .iaload, 1, 0, 0, 0, 0), (0, 112, 0)), ((53, .iadd, 1, 0, 0, 0, 0), (0, 0, 0)), ((54, .iaload, 1, 0, 0, 0, 0), (0, 87, 0)), ((55, .iload_n 2, 1, 0, 0, 0, 0), (0, 0, 0))] (by decide +kernel) rfl ?_
            refine hx_cmp .ne 63 (by decide +kernel) (fun c4 => ?_) (fun c4 => ?_)
            · have c4 : (m 87 (gx_w (240 + (m 112 (x1).toNat))).toNat) ≠ x2 := c4
              refine hx_blk (npc := 93) (L' := [(0, .inr (.inl 86)), (1, .inl x1), (2, .inl x2), (3, .inl x3)]) (st' := [.inl (gx_w ((m 113 (gx_w ((gx_w (8 * x1)) + x2)).toNat) + (m 114 (gx_w ((gx_w (256 * (gx_w (x1 + 1)))) + (gx_or x3 (gx_shl 1 x2)))).toNat)))]) (m' := m) [((63, .aload_n 0, 1, 0, 0, 0, 0), (0, 0, 0)), ((64, .getfield 89, 3, 10, 40, 5153, 0), (1, 86, 113)), ((67, .bipush 8, 2, 0, 0, 0, 0), (0, 0, 0)), ((69, .iload_n 1, 1, 0, 0, 0, 0), (0, 0, 0)), ((70, .imul, 1, 0, 0, 0, 0), (0, 0, 0)), ((71, .iload_n 2, 1, 0, 0, 0, 0), (0, 0, 0)), ((72, .iadd, 1, 0, 0, 0, 0), (0, 0, 0)), ((73, .iaload, 1, 0, 0, 0, 0), (0, 113, 0)), ((74, .aload_n 0, 1, 0, 0, 0, 0), (0, 0, 0)), ((75, .getfield 92, 3, 10, 41, 5154, 0), (1, 86, 114)), ((78, .sipush 256, 3, 0, 0, 0, 0), (0, 0, 0)), ((81, .iload_n 1, 1, 0, 0, 0, 0), (0, 0, 0)), ((82, .iconst 1, 1, 0, 0, 0, 0), (0, 0, 0)), ((83, .iadd, 1, 0, 0, 0, 0), (0, 0, 0)), ((84, .imul, 1, 0, 0, 0, 0), (0, 0, 0)), ((85, .iload_n 3, 1, 0, 0, 0, 0), (0, 0, 0)), ((86, .iconst 1, 1, 0, 0, 0, 0), (0, 0, 0)), ((87, .iload_n 2, 1, 0, 0, 0, 0), (0, 0, 0)), ((88, .ishl, 1, 0, 0, 0, 0), (0, 0, 0)), ((89, .ior, 1, 0, 0, 0, 0), (0, 0, 0)), ((90, .iadd, 1, 0, 0, 0, 0), (0, 0, 0)), ((91, .iaload, 1, 0, 0, 0, 0), (0, 114, 0)), ((92, .iadd, 1, 0, 0, 0, 0), (0, 0, 0))] (by decide +kernel) rfl ?_
              exact hx_reti (by decide +kernel) (h2 c1 c2 c3 c4)
            · have c4 : (m 87 (gx_w (240 + (m 112 (x1).toNat))).toNat) = x2 := by have h : ¬ ((m 87 (gx_w (240 + (m 112 (x1).toNat))).toNat) ≠ x2) := c4; omega
              refine hx_blk (npc := 93) (L' := [(0, .inr (.inl 86)), (1, .inl x1), (2, .inl x2), (3, .inl x3)]) (st' := [.inl (-1)]) (m' := m) [((59, .iconst (-1), 1, 0, 0, 0, 0), (0, 0, 0)), ((60, .goto 33, 3, 0, 0, 0, 0), (0, 0, 0))] (by decide +kernel) rfl ?_
              exact hx_reti (by decide +kernel) (h3 c1 c2 c3 c4)
    · have c2 : ¬ (gx_and (gx_shr (m 86 38) x2) 1 = 1) := c2
      show hxn xs n yp_m246 29 [(0, .inr (.inl 86)), (1, .inl x1), (2, .inl x2), (3, .inl x3)] [.inl 0] m Q
      refine hx_if .eq 59 (by decide +kernel) (fun c3 => ?_) (fun c3 => ?_)
      · have c3 : (0 : Int) = 0 := c3
        refine hx_blk (npc := 93) (L' := [(0, .inr (.inl 86)), (1, .inl x1), (2, .inl x2), (3, .inl x3)]) (st' := [.inl (-1)]) (m' := m) [((59, .iconst (-1), 1, 0, 0, 0, 0), (0, 0, 0)), ((60, .goto 33, 3, 0, 0, 0, 0), (0, 0, 0))] (by decide +kernel) rfl ?_
        exact hx_reti (by decide +kernel) (h4 c1 c2)
      · have c3 : (0 : Int) ≠ 0 := c3
        exfalso; omega
  · have c1 : x2 = 8 := by have h : ¬ (x2 ≠ 8) := c1; omega
    refine hx_blk (npc := 20) (L' := [(0, .inr (.inl 86)), (1, .inl x1), (2, .inl x2), (3, .inl x3)]) (st' := [.inl (m 114 (gx_w ((gx_w (256 * (gx_w (x1 + 1)))) + x3)).toNat)]) (m' := m) [((6, .aload_n 0, 1, 0, 0, 0, 0), (0, 0, 0)), ((7, .getfield 92, 3, 10, 41, 5154, 0), (1, 86, 114)), ((10, .sipush 256, 3, 0, 0, 0, 0), (0, 0, 0)), ((13, .iload_n 1, 1, 0, 0, 0, 0), (0, 0, 0)), ((14, .iconst 1, 1, 0, 0, 0, 0), (0, 0, 0)), ((15, .iadd, 1, 0, 0, 0, 0), (0, 0, 0)), ((16, .imul, 1, 0, 0, 0, 0), (0, 0, 0)), ((17, .iload_n 3, 1, 0, 0, 0, 0), (0, 0, 0)), ((18, .iadd, 1, 0, 0, 0, 0), (0, 0, 0)), ((19, .iaload, 1, 0, 0, 0, 0), (0, 114, 0))] (by decide +kernel) rfl ?_
    exact hx_reti (by decide +kernel) (h5 c1)

/-- laysSold from 0 on -/
theorem hr245_0 {xs : List Int32} {n : Nat} {Q : hQ} {m : gx_M} {x1 : Int}
    (h1 : hxn xs n yp_m245 7 [(0, .inr (.inl 86)), (2, .inl 0)] [] (gx_u m 86 38 x1) Q) : hxn xs (n + 1) yp_m245 0 [(0, .inr (.inl 86)), (1, .inl x1)] [] m Q := by
  refine hx_blks (npc := 7) (L' := [(0, .inr (.inl 86)), (1, .inl x1), (2, .inl 0)]) (st' := []) (m' := (gx_u m 86 38 x1)) ((0, .aload_n 0, 1, 0, 0, 0, 0), (0, 0, 0)) [((1, .iload_n 1, 1, 0, 0, 0, 0), (0, 0, 0)), ((2, .putfield 349, 3, 10, 38, 5151, 0), (0, 86, 0)), ((5, .iconst 0, 1, 0, 0, 0, 0), (0, 0, 0)), ((6, .istore_n 2, 1, 0, 0, 0, 0), (0, 0, 0))] (by decide +kernel) rfl ?_
  exact hx_pick [0, 2] h1

/-- laysSold from 7 on -/
theorem hr245_7 {xs : List Int32} {n : Nat} {Q : hQ} {m : gx_M} {x2 : Int}
    (h1 : (256 ≤ x2) → hxn xs n yp_m245 43 [(0, .inr (.inl 86)), (2, .inl (gx_w ((m 86 37) - 1)))] [] m Q)
    (h2 : (x2 < 256) → hxn xs n yp_m245 7 [(0, .inr (.inl 86)), (2, .inl (gx_w (x2 + 1)))] [] (gx_u m 114 (gx_w ((gx_w (256 * (m 86 37))) + x2)).toNat 0) Q) : hxn xs (n + 1) yp_m245 7 [(0, .inr (.inl 86)), (2, .inl x2)] [] m Q := by
  refine hx_blks (npc := 11) (L' := [(0, .inr (.inl 86)), (2, .inl x2)]) (st' := [.inl 256, .inl x2]) (m' := m) ((7, .iload_n 2, 1, 0, 0, 0, 0), (0, 0, 0)) [((8, .sipush 256, 3, 0, 0, 0, 0), (0, 0, 0))] (by decide +kernel) rfl ?_
  refine hx_cmp .ge 36 (by decide +kernel) (fun c1 => ?_) (fun c1 => ?_)
  · have c1 : 256 ≤ x2 := c1
    refine hx_blk (npc := 43) (L' := [(0, .inr (.inl 86)), (2, .inl (gx_w ((m 86 37) - 1)))]) (st' := []) (m' := m) [((36, .aload_n 0, 1, 0, 0, 0, 0), (0, 0, 0)), ((37, .getfield 346, 3, 10, 37, 5150, 0), (0, 86, 0)), ((40, .iconst 1, 1, 0, 0, 0, 0), (0, 0, 0)), ((41, .isub, 1, 0, 0, 0, 0), (0, 0, 0)), ((42, .istore_n 2, 1, 0, 0, 0, 0), (0, 0, 0))] (by decide +kernel) rfl ?_
    exact hx_pick [0, 2] (h1 c1)
  · have c1 : x2 < 256 := by have h : ¬ (256 ≤ x2) := c1; omega
    refine hx_blk (npc := 7) (L' := [(0, .inr (.inl 86)), (2, .inl (gx_w (x2 + 1)))]) (st' := []) (m' := (gx_u m 114 (gx_w ((gx_w (256 * (m 86 37))) + x2)).toNat 0)) [((14, .aload_n 0, 1, 0, 0, 0, 0), (0, 0, 0)), ((15, .getfield 92, 3, 10, 41, 5154, 0), (1, 86, 114)), ((18, .sipush 256, 3, 0, 0, 0, 0), (0, 0, 0)), ((21, .aload_n 0, 1, 0, 0, 0, 0), (0, 0, 0)), ((22, .getfield 346, 3, 10, 37, 5150, 0), (0, 86, 0)), ((25, .imul, 1, 0, 0, 0, 0), (0, 0, 0)), ((26, .iload_n 2, 1, 0, 0, 0, 0), (0, 0, 0)), ((27, .iadd, 1, 0, 0, 0, 0), (0, 0, 0)), ((28, .iconst 0, 1, 0, 0, 0, 0), (0, 0, 0)), ((29, .iastore, 1, 0, 0, 0, 0), (0, 114, 0)), ((30, .iinc 2 1, 3, 0, 0, 0, 0), (0, 0, 0)), ((33, .goto (-26), 3, 0, 0, 0, 0), (0, 0, 0))] (by decide +kernel) rfl ?_
    exact hx_pick [0, 2] (h2 c1)

/-- laysSold from 43 on -/
theorem hr245_43 {xs : List Int32} {n : Nat} {Q : hQ} {m : gx_M} {x2 : Int}
    (h1 : (x2 < 0) → Q (some (.inl (m 114 0))) m)
    (h2 : (0 ≤ x2) → hxn xs n yp_m245 49 [(0, .inr (.inl 86)), (2, .inl x2), (3, .inl 0)] [] m Q) : hxn xs (n + 1) yp_m245 43 [(0, .inr (.inl 86)), (2, .inl x2)] [] m Q := by
  refine hx_blks (npc := 44) (L' := [(0, .inr (.inl 86)), (2, .inl x2)]) (st' := [.inl x2]) (m' := m) ((43, .iload_n 2, 1, 0, 0, 0, 0), (0, 0, 0)) [] (by decide +kernel) rfl ?_
  refine hx_if .lt 129 (by decide +kernel) (fun c1 => ?_) (fun c1 => ?_)
  · have c1 : x2 < 0 := c1
    refine hx_blk (npc := 135) (L' := [(0, .inr (.inl 86)), (2, .inl x2)]) (st' := [.inl (m 114 0)]) (m' := m) [((129, .aload_n 0, 1, 0, 0, 0, 0), (0, 0, 0)), ((130, .getfield 92, 3, 10, 41, 5154, 0), (1, 86, 114)), ((133, .iconst 0, 1, 0, 0, 0, 0), (0, 0, 0)), ((134, .iaload, 1, 0, 0, 0, 0), (0, 114, 0))] (by decide +kernel) rfl ?_
    exact hx_reti (by decide +kernel) (h1 c1)
  · have c1 : 0 ≤ x2 := by have h : ¬ (x2 < 0) := c1; omega
    refine hx_blk (npc := 49) (L' := [(0, .inr (.inl 86)), (2, .inl x2), (3, .inl 0)]) (st' := []) (m' := m) [((47, .iconst 0, 1, 0, 0, 0, 0), (0, 0, 0)), ((48, .istore_n 3, 1, 0, 0, 0, 0), (0, 0, 0))] (by decide +kernel) rfl ?_
    exact hx_pick [0, 2, 3] (h2 c1)

/-- laysSold from 49 on -/
theorem hr245_49 {xs : List Int32} {n : Nat} {Q : hQ} {m : gx_M} {x2 x3 : Int}
    (h1 : (256 ≤ x3) → hxn xs n yp_m245 43 [(0, .inr (.inl 86)), (2, .inl (gx_w (x2 + (-1))))] [] m Q)
    (h2 : (x3 < 256) → hxn xs n yp_m245 62 [(0, .inr (.inl 86)), (2, .inl x2), (3, .inl x3), (4, .inl 0), (5, .inl 0)] [] m Q) : hxn xs (n + 1) yp_m245 49 [(0, .inr (.inl 86)), (2, .inl x2), (3, .inl x3)] [] m Q := by
  refine hx_blks (npc := 53) (L' := [(0, .inr (.inl 86)), (2, .inl x2), (3, .inl x3)]) (st' := [.inl 256, .inl x3]) (m' := m) ((49, .iload_n 3, 1, 0, 0, 0, 0), (0, 0, 0)) [((50, .sipush 256, 3, 0, 0, 0, 0), (0, 0, 0))] (by decide +kernel) rfl ?_
  refine hx_cmp .ge 123 (by decide +kernel) (fun c1 => ?_) (fun c1 => ?_)
  · have c1 : 256 ≤ x3 := c1
    refine hx_blk (npc := 43) (L' := [(0, .inr (.inl 86)), (2, .inl (gx_w (x2 + (-1)))), (3, .inl x3)]) (st' := []) (m' := m) [((123, .iinc 2 (-1), 3, 0, 0, 0, 0), (0, 0, 0)), ((126, .goto (-83), 3, 0, 0, 0, 0), (0, 0, 0))] (by decide +kernel) rfl ?_
    exact hx_pick [0, 2] (h1 c1)
  · have c1 : x3 < 256 := by have h : ¬ (256 ≤ x3) := c1; omega
    refine hx_blk (npc := 62) (L' := [(0, .inr (.inl 86)), (2, .inl x2), (3, .inl x3), (4, .inl 0), (5, .inl 0)]) (st' := []) (m' := m) [((56, .iconst 0, 1, 0, 0, 0, 0), (0, 0, 0)), ((57, .istore 4, 2, 0, 0, 0, 0), (0, 0, 0)), ((59, .iconst 0, 1, 0, 0, 0, 0), (0, 0, 0)), ((60, .istore 5, 2, 0, 0, 0, 0), (0, 0, 0))] (by decide +kernel) rfl ?_
    exact hx_pick [0, 2, 3, 4, 5] (h2 c1)

/-- laysSold from 62 on -/
theorem hr245_62 {xs : List Int32} {n : Nat} {Q : hQ} {m : gx_M} {x2 x3 x4 x5 : Int}
    (h1 : (8 < x5) → hxn xs n yp_m245 49 [(0, .inr (.inl 86)), (2, .inl x2), (3, .inl (gx_w (x3 + 1)))] [] (gx_u m 114 (gx_w ((gx_w (256 * x2)) + x3)).toNat x4) Q)
    (h2 : (x5 ≤ 8) → hxn xs n yp_m246 0 [(0, .inr (.inl 86)), (1, .inl x2), (2, .inl x5), (3, .inl x3)] [] m (fun r m' => hxn xs n yp_m245 77 [(0, .inr (.inl 86)), (2, .inl x2), (3, .inl x3), (4, .inl x4), (5, .inl x5)] (hrs r ++ []) m' Q)) : hxn xs (n + 1) yp_m245 62 [(0, .inr (.inl 86)), (2, .inl x2), (3, .inl x3), (4, .inl x4), (5, .inl x5)] [] m Q := by
  refine hx_blks (npc := 66) (L' := [(0, .inr (.inl 86)), (2, .inl x2), (3, .inl x3), (4, .inl x4), (5, .inl x5)]) (st' := [.inl 8, .inl x5]) (m' := m) ((62, .iload 5, 2, 0, 0, 0, 0), (0, 0, 0)) [((64, .bipush 8, 2, 0, 0, 0, 0), (0, 0, 0))] (by decide +kernel) rfl ?_
  refine hx_cmp .gt 103 (by decide +kernel) (fun c1 => ?_) (fun c1 => ?_)
  · have c1 : 8 < x5 := c1
    refine hx_blk (npc := 49) (L' := [(0, .inr (.inl 86)), (2, .inl x2), (3, .inl (gx_w (x3 + 1))), (4, .inl x4), (5, .inl x5)]) (st' := []) (m' := (gx_u m 114 (gx_w ((gx_w (256 * x2)) + x3)).toNat x4)) [((103, .aload_n 0, 1, 0, 0, 0, 0), (0, 0, 0)), ((104, .getfield 92, 3, 10, 41, 5154, 0), (1, 86, 114)), ((107, .sipush 256, 3, 0, 0, 0, 0), (0, 0, 0)), ((110, .iload_n 2, 1, 0, 0, 0, 0), (0, 0, 0)), ((111, .imul, 1, 0, 0, 0, 0), (0, 0, 0)), ((112, .iload_n 3, 1, 0, 0, 0, 0), (0, 0, 0)), ((113, .iadd, 1, 0, 0, 0, 0), (0, 0, 0)), ((114, .iload 4, 2, 0, 0, 0, 0), (0, 0, 0)), ((116, .iastore, 1, 0, 0, 0, 0), (0, 114, 0)), ((117, .iinc 3 1, 3, 0, 0, 0, 0), (0, 0, 0)), ((120, .goto (-71), 3, 0, 0, 0, 0), (0, 0, 0))] (by decide +kernel) rfl ?_
    exact hx_pick [0, 2, 3] (h1 c1)
  · have c1 : x5 ≤ 8 := by have h : ¬ (8 < x5) := c1; omega
    refine hx_blk (npc := 74) (L' := [(0, .inr (.inl 86)), (2, .inl x2), (3, .inl x3), (4, .inl x4), (5, .inl x5)]) (st' := [.inl x3, .inl x5, .inl x2, .inr (.inl 86)]) (m' := m) [((69, .aload_n 0, 1, 0, 0, 0, 0), (0, 0, 0)), ((70, .iload_n 2, 1, 0, 0, 0, 0), (0, 0, 0)), ((71, .iload 5, 2, 0, 0, 0, 0), (0, 0, 0)), ((73, .iload_n 3, 1, 0, 0, 0, 0), (0, 0, 0))] (by decide +kernel) rfl ?_
    exact hx_call (E := (74, .invokevirtual 352, 3, 246, 0, 7111, 0)) (M' := yp_m246) [.inr (.inl 86), .inl x2, .inl x5, .inl x3] [] rfl (by decide +kernel) rfl ⟨rfl, rfl⟩ rfl rfl (hx_mono (h2 c1) (fun r m' h' => hx_pick [0, 2, 3, 4, 5] h'))

/-- laysSold from 77 on -/
theorem hr245_77 {xs : List Int32} {n : Nat} {Q : hQ} {m : gx_M} {x2 x3 x4 x5 s0 : Int}
    (h1 : (s0 ≤ x4) → hxn xs n yp_m245 62 [(0, .inr (.inl 86)), (2, .inl x2), (3, .inl x3), (4, .inl x4), (5, .inl (gx_w (x5 + 1)))] [] m Q)
    (h2 : (x4 < s0) → hxn xs n yp_m246 0 [(0, .inr (.inl 86)), (1, .inl x2), (2, .inl x5), (3, .inl x3)] [] m (fun r m' => hxn xs n yp_m245 90 [(0, .inr (.inl 86)), (2, .inl x2), (3, .inl x3), (5, .inl x5)] (hrs r ++ []) m' Q)) : hxn xs (n + 1) yp_m245 77 [(0, .inr (.inl 86)), (2, .inl x2), (3, .inl x3), (4, .inl x4), (5, .inl x5)] [.inl s0] m Q := by
  refine hx_blks (npc := 79) (L' := [(0, .inr (.inl 86)), (2, .inl x2), (3, .inl x3), (4, .inl x4), (5, .inl x5)]) (st' := [.inl x4, .inl s0]) (m' := m) ((77, .iload 4, 2, 0, 0, 0, 0), (0, 0, 0)) [] (by decide +kernel) rfl ?_
  refine hx_cmp .le 93 (by decide +kernel) (fun c1 => ?_) (fun c1 => ?_)
  · have c1 : s0 ≤ x4 := c1
    refine hx_blk (npc := 62) (L' := [(0, .inr (.inl 86)), (2, .inl x2), (3, .inl x3), (4, .inl x4), (5, .inl (gx_w (x5 + 1)))]) (st' := []) (m' := m) [((93, .iload 4, 2, 0, 0, 0, 0), (0, 0, 0)), ((95, .istore 4, 2, 0, 0, 0, 0), (0, 0, 0)), ((97, .iinc 5 1, 3, 0, 0, 0, 0), (0, 0, 0)), ((100, .goto (-38), 3, 0, 0, 0, 0), (0, 0, 0))] (by decide +kernel) rfl ?_
    exact hx_pick [0, 2, 3, 4, 5] (h1 c1)
  · have c1 : x4 < s0 := by have h : ¬ (s0 ≤ x4) := c1; omega
    refine hx_blk (npc := 87) (L' := [(0, .inr (.inl 86)), (2, .inl x2), (3, .inl x3), (4, .inl x4), (5, .inl x5)]) (st' := [.inl x3, .inl x5, .inl x2, .inr (.inl 86)]) (m' := m) [((82, .aload_n 0, 1, 0, 0, 0, 0), (0, 0, 0)), ((83, .iload_n 2, 1, 0, 0, 0, 0), (0, 0, 0)), ((84, .iload 5, 2, 0, 0, 0, 0), (0, 0, 0)), ((86, .iload_n 3, 1, 0, 0, 0, 0), (0, 0, 0))] (by decide +kernel) rfl ?_
    exact hx_call (E := (87, .invokevirtual 352, 3, 246, 0, 7111, 0)) (M' := yp_m246) [.inr (.inl 86), .inl x2, .inl x5, .inl x3] [] rfl (by decide +kernel) rfl ⟨rfl, rfl⟩ rfl rfl (hx_mono (h2 c1) (fun r m' h' => hx_pick [0, 2, 3, 5] h'))

/-- laysSold from 90 on -/
theorem hr245_90 {xs : List Int32} {n : Nat} {Q : hQ} {m : gx_M} {x2 x3 x5 s0 : Int}
    (h1 : hxn xs n yp_m245 62 [(0, .inr (.inl 86)), (2, .inl x2), (3, .inl x3), (4, .inl s0), (5, .inl (gx_w (x5 + 1)))] [] m Q) : hxn xs (n + 1) yp_m245 90 [(0, .inr (.inl 86)), (2, .inl x2), (3, .inl x3), (5, .inl x5)] [.inl s0] m Q := by
  refine hx_blks (npc := 62) (L' := [(0, .inr (.inl 86)), (2, .inl x2), (3, .inl x3), (5, .inl (gx_w (x5 + 1))), (4, .inl s0)]) (st' := []) (m' := m) ((90, .goto 5, 3, 0, 0, 0, 0), (0, 0, 0)) [((95, .istore 4, 2, 0, 0, 0, 0), (0, 0, 0)), ((97, .iinc 5 1, 3, 0, 0, 0, 0), (0, 0, 0)), ((100, .goto (-38), 3, 0, 0, 0, 0), (0, 0, 0))] (by decide +kernel) rfl ?_
  exact hx_pick [0, 2, 3, 4, 5] h1

/-- getsYear from 0 on -/
theorem hr247_0 {xs : List Int32} {n : Nat} {Q : hQ} {m : gx_M} {x1 : Int}
    (h1 : hxn xs n yp_m247 8 [(0, .inr (.inl 86)), (1, .inl x1), (2, .inl 0), (3, .inl 8), (4, .inl 0)] [] m Q) : hxn xs (n + 1) yp_m247 0 [(0, .inr (.inl 86)), (1, .inl x1)] [] m Q := by
  refine hx_blks (npc := 8) (L' := [(0, .inr (.inl 86)), (1, .inl x1), (2, .inl 0), (3, .inl 8), (4, .inl 0)]) (st' := []) (m' := m) ((0, .iconst 0, 1, 0, 0, 0, 0), (0, 0, 0)) [((1, .istore_n 2, 1, 0, 0, 0, 0), (0, 0, 0)), ((2, .bipush 8, 2, 0, 0, 0, 0), (0, 0, 0)), ((4, .istore_n 3, 1, 0, 0, 0, 0), (0, 0, 0)), ((5, .iconst 0, 1, 0, 0, 0, 0), (0, 0, 0)), ((6, .istore 4, 2, 0, 0, 0, 0), (0, 0, 0))] (by decide +kernel) rfl ?_
  exact hx_pick [0, 1, 2, 3, 4] h1

/-- getsYear from 8 on -/
theorem hr247_8 {xs : List Int32} {n : Nat} {Q : hQ} {m : gx_M} {x1 x2 x3 x4 : Int}
    (h1 : (x1 < x4) → Q (some (.inl x3)) m)
    (h2 : (x4 ≤ x1) → hxn xs n yp_m247 16 [(0, .inr (.inl 86)), (1, .inl x1), (2, .inl x2), (3, .inl 0), (4, .inl x4)] [] m Q) : hxn xs (n + 1) yp_m247 8 [(0, .inr (.inl 86)), (1, .inl x1), (2, .inl x2), (3, .inl x3), (4, .inl x4)] [] m Q := by
  refine hx_blks (npc := 11) (L' := [(0, .inr (.inl 86)), (1, .inl x1), (2, .inl x2), (3, .inl x3), (4, .inl x4)]) (st' := [.inl x1, .inl x4]) (m' := m) ((8, .iload 4, 2, 0, 0, 0, 0), (0, 0, 0)) [((10, .iload_n 1, 1, 0, 0, 0, 0), (0, 0, 0))] (by decide +kernel) rfl ?_
  refine hx_cmp .gt 69 (by decide +kernel) (fun c1 => ?_) (fun c1 => ?_)
  · have c1 : x1 < x4 := c1
    refine hx_blk (npc := 70) (L' := [(0, .inr (.inl 86)), (1, .inl x1), (2, .inl x2), (3, .inl x3), (4, .inl x4)]) (st' := [.inl x3]) (m' := m) [((69, .iload_n 3, 1, 0, 0, 0, 0), (0, 0, 0))] (by decide +kernel) rfl ?_
    exact hx_reti (by decide +kernel) (h1 c1)
  · have c1 : x4 ≤ x1 := by have h : ¬ (x1 < x4) := c1; omega
    refine hx_blk (npc := 16) (L' := [(0, .inr (.inl 86)), (1, .inl x1), (2, .inl x2), (3, .inl 0), (4, .inl x4)]) (st' := []) (m' := m) [((14, .iconst 0, 1, 0, 0, 0, 0), (0, 0, 0)), ((15, .istore_n 3, 1, 0, 0, 0, 0), (0, 0, 0))] (by decide +kernel) rfl ?_
    exact hx_pick [0, 1, 2, 3, 4] (h2 c1)

/-- getsYear from 16 on -/
theorem hr247_16 {xs : List Int32} {n : Nat} {Q : hQ} {m : gx_M} {x1 x2 x3 x4 : Int}
    (h1 : hxn xs n yp_m246 0 [(0, .inr (.inl 86)), (1, .inl x4), (2, .inl x3), (3, .inl x2)] [] m (fun r m' => hxn xs n yp_m247 24 [(0, .inr (.inl 86)), (1, .inl x1), (2, .inl x2), (3, .inl x3), (4, .inl x4)] (hrs r ++ []) m' Q)) : hxn xs (n + 1) yp_m247 16 [(0, .inr (.inl 86)), (1, .inl x1), (2, .inl x2), (3, .inl x3), (4, .inl x4)] [] m Q := by
  refine hx_blks (npc := 21) (L' := [(0, .inr (.inl 86)), (1, .inl x1), (2, .inl x2), (3, .inl x3), (4, .inl x4)]) (st' := [.inl x2, .inl x3, .inl x4, .inr (.inl 86)]) (m' := m) ((16, .aload_n 0, 1, 0, 0, 0, 0), (0, 0, 0)) [((17, .iload 4, 2, 0, 0, 0, 0), (0, 0, 0)), ((19, .iload_n 3, 1, 0, 0, 0, 0), (0, 0, 0)), ((20, .iload_n 2, 1, 0, 0, 0, 0), (0, 0, 0))] (by decide +kernel) rfl ?_
  exact hx_call (E := (21, .invokevirtual 352, 3, 246, 0, 7111, 0)) (M' := yp_m246) [.inr (.inl 86), .inl x4, .inl x3, .inl x2] [] rfl (by decide +kernel) rfl ⟨rfl, rfl⟩ rfl rfl (hx_mono h1 (fun r m' h' => hx_pick [0, 1, 2, 3, 4] h'))

/-- getsYear from 24 on -/
theorem hr247_24 {xs : List Int32} {n : Nat} {Q : hQ} {m : gx_M} {x1 x2 x3 x4 s0 : Int}
    (h1 : (s0 = (m 114 (gx_w ((gx_w (256 * x4)) + x2)).toNat)) → (x3 ≠ 8) → hxn xs n yp_m247 8 [(0, .inr (.inl 86)), (1, .inl x1), (2, .inl (gx_or x2 (gx_shl 1 x3))), (3, .inl x3), (4, .inl (gx_w (x4 + 1)))] [] m Q)
    (h2 : (s0 = (m 114 (gx_w ((gx_w (256 * x4)) + x2)).toNat)) → (x3 = 8) → hxn xs n yp_m247 8 [(0, .inr (.inl 86)), (1, .inl x1), (2, .inl x2), (3, .inl x3), (4, .inl (gx_w (x4 + 1)))] [] m Q)
    (h3 : (s0 ≠ (m 114 (gx_w ((gx_w (256 * x4)) + x2)).toNat)) → hxn xs n yp_m247 16 [(0, .inr (.inl 86)), (1, .inl x1), (2, .inl x2), (3, .inl (gx_w (x3 + 1))), (4, .inl x4)] [] m Q) : hxn xs (n + 1) yp_m247 24 [(0, .inr (.inl 86)), (1, .inl x1), (2, .inl x2), (3, .inl x3), (4, .inl x4)] [.inl s0] m Q := by
  refine hx_blks (npc := 37) (L' := [(0, .inr (.inl 86)), (1, .inl x1), (2, .inl x2), (3, .inl x3), (4, .inl x4)]) (st' := [.inl (m 114 (gx_w ((gx_w (256 * x4)) + x2)).toNat), .inl s0]) (m' := m) ((24, .aload_n 0, 1, 0, 0, 0, 0), (0, 0, 0)) [((25, .getfield 92, 3, 10, 41, 5154, 0), (1, 86, 114)), ((28, .sipush 256, 3, 0, 0, 0, 0), (0, 0, 0)), ((31, .iload 4, 2, 0, 0, 0, 0), (0, 0, 0)), ((33, .imul, 1, 0, 0, 0, 0), (0, 0, 0)), ((34, .iload_n 2, 1, 0, 0, 0, 0), (0, 0, 0)), ((35, .iadd, 1, 0, 0, 0, 0), (0, 0, 0)), ((36, .iaload, 1, 0, 0, 0, 0), (0, 114, 0))] (by decide +kernel) rfl ?_
  refine hx_cmp .eq 47 (by decide +kernel) (fun c1 => ?_) (fun c1 => ?_)
  · have c1 : s0 = (m 114 (gx_w ((gx_w (256 * x4)) + x2)).toNat) := c1
    refine hx_blk (npc := 50) (L' := [(0, .inr (.inl 86)), (1, .inl x1), (2, .inl x2), (3, .inl x3), (4, .inl x4)]) (st' := [.inl 8, .inl x3]) (m' := m) [((47, .iload_n 3, 1, 0, 0, 0, 0), (0, 0, 0)), ((48, .bipush 8, 2, 0, 0, 0, 0), (0, 0, 0))] (by decide +kernel) rfl ?_
    refine hx_cmp .ne 57 (by decide +kernel) (fun c2 => ?_) (fun c2 => ?_)
    · have c2 : x3 ≠ 8 := c2
      refine hx_blk (npc := 8) (L' := [(0, .inr (.inl 86)), (1, .inl x1), (2, .inl (gx_or x2 (gx_shl 1 x3))), (3, .inl x3), (4, .inl (gx_w (x4 + 1)))]) (st' := []) (m' := m) [((57, .iload_n 2, 1, 0, 0, 0, 0), (0, 0, 0)), ((58, .iconst 1, 1, 0, 0, 0, 0), (0, 0, 0)), ((59, .iload_n 3, 1, 0, 0, 0, 0), (0, 0, 0)), ((60, .ishl, 1, 0, 0, 0, 0), (0, 0, 0)), ((61, .ior, 1, 0, 0, 0, 0), (0, 0, 0)), ((62, .istore_n 2, 1, 0, 0, 0, 0), (0, 0, 0)), ((63, .iinc 4 1, 3, 0, 0, 0, 0), (0, 0, 0)), ((66, .goto (-58), 3, 0, 0, 0, 0), (0, 0, 0))] (by decide +kernel) rfl ?_
      exact hx_pick [0, 1, 2, 3, 4] (h1 c1 c2)
    · have c2 : x3 = 8 := by have h : ¬ (x3 ≠ 8) := c2; omega
      refine hx_blk (npc := 8) (L' := [(0, .inr (.inl 86)), (1, .inl x1), (2, .inl x2), (3, .inl x3), (4, .inl (gx_w (x4 + 1)))]) (st' := []) (m' := m) [((53, .iload_n 2, 1, 0, 0, 0, 0), (0, 0, 0)), ((54, .goto 8, 3, 0, 0, 0, 0), (0, 0, 0)), ((62, .istore_n 2, 1, 0, 0, 0, 0), (0, 0, 0)), ((63, .iinc 4 1, 3, 0, 0, 0, 0), (0, 0, 0)), ((66, .goto (-58), 3, 0, 0, 0, 0), (0, 0, 0))] (by decide +kernel) rfl ?_
      exact hx_pick [0, 1, 2, 3, 4] (h2 c1 c2)
  · have c1 : s0 ≠ (m 114 (gx_w ((gx_w (256 * x4)) + x2)).toNat) := c1
    refine hx_blk (npc := 16) (L' := [(0, .inr (.inl 86)), (1, .inl x1), (2, .inl x2), (3, .inl (gx_w (x3 + 1))), (4, .inl x4)]) (st' := []) (m' := m) [((40, .iload_n 3, 1, 0, 0, 0, 0), (0, 0, 0)), ((41, .iconst 1, 1, 0, 0, 0, 0), (0, 0, 0)), ((42, .iadd, 1, 0, 0, 0, 0), (0, 0, 0)), ((43, .istore_n 3, 1, 0, 0, 0, 0), (0, 0, 0)), ((44, .goto (-28), 3, 0, 0, 0, 0), (0, 0, 0))] (by decide +kernel) rfl ?_
    exact hx_pick [0, 1, 2, 3, 4] (h3 c1)

/-- pays from 0 on -/
theorem hr244_0 {xs : List Int32} {n : Nat} {Q : hQ} {m : gx_M} {x1 x2 : Int}
    (h1 : hxn xs n yp_m245 0 [(0, .inr (.inl 86)), (1, .inl x1)] [] m (fun r m' => hxn xs n yp_m244 5 [(0, .inr (.inl 86)), (1, .inl x1), (2, .inl x2)] (hrs r ++ []) m' Q)) : hxn xs (n + 1) yp_m244 0 [(0, .inr (.inl 86)), (1, .inl x1), (2, .inl x2)] [] m Q := by
  refine hx_blks (npc := 2) (L' := [(0, .inr (.inl 86)), (1, .inl x1), (2, .inl x2)]) (st' := [.inl x1, .inr (.inl 86)]) (m' := m) ((0, .aload_n 0, 1, 0, 0, 0, 0), (0, 0, 0)) [((1, .iload_n 1, 1, 0, 0, 0, 0), (0, 0, 0))] (by decide +kernel) rfl ?_
  exact hx_call (E := (2, .invokevirtual 355, 3, 245, 0, 7107, 0)) (M' := yp_m245) [.inr (.inl 86), .inl x1] [] rfl (by decide +kernel) rfl ⟨rfl, rfl⟩ rfl rfl (hx_mono h1 (fun r m' h' => hx_pick [0, 1, 2] h'))

/-- pays from 5 on -/
theorem hr244_5 {xs : List Int32} {n : Nat} {Q : hQ} {m : gx_M} {x1 x2 s0 : Int}
    (h1 : hxn xs n yp_m244 12 [(0, .inr (.inl 86)), (1, .inl x1), (2, .inl x2), (3, .inl s0), (4, .inl 0), (5, .inl 0)] [] m Q) : hxn xs (n + 1) yp_m244 5 [(0, .inr (.inl 86)), (1, .inl x1), (2, .inl x2)] [.inl s0] m Q := by
  refine hx_blks (npc := 12) (L' := [(0, .inr (.inl 86)), (1, .inl x1), (2, .inl x2), (3, .inl s0), (4, .inl 0), (5, .inl 0)]) (st' := []) (m' := m) ((5, .istore_n 3, 1, 0, 0, 0, 0), (0, 0, 0)) [((6, .iconst 0, 1, 0, 0, 0, 0), (0, 0, 0)), ((7, .istore 4, 2, 0, 0, 0, 0), (0, 0, 0)), ((9, .iconst 0, 1, 0, 0, 0, 0), (0, 0, 0)), ((10, .istore 5, 2, 0, 0, 0, 0), (0, 0, 0))] (by decide +kernel) rfl ?_
  exact hx_pick [0, 1, 2, 3, 4, 5] h1

/-- pays from 12 on -/
theorem hr244_12 {xs : List Int32} {n : Nat} {Q : hQ} {m : gx_M} {x1 x2 x3 x4 x5 : Int}
    (h1 : ((m 86 37) ≤ x5) → hxn xs n yp_m245 0 [(0, .inr (.inl 86)), (1, .inl (gx_and x1 (gx_xor (gx_shl 1 x2) (-1))))] [] m (fun r m' => hxn xs n yp_m244 69 [(3, .inl x3), (4, .inl x4)] (hrs r ++ []) m' Q))
    (h2 : (x5 < (m 86 37)) → hxn xs n yp_m247 0 [(0, .inr (.inl 86)), (1, .inl x5)] [] m (fun r m' => hxn xs n yp_m244 29 [(0, .inr (.inl 86)), (1, .inl x1), (2, .inl x2), (3, .inl x3), (5, .inl x5)] (hrs r ++ [.inl x4]) m' Q)) : hxn xs (n + 1) yp_m244 12 [(0, .inr (.inl 86)), (1, .inl x1), (2, .inl x2), (3, .inl x3), (4, .inl x4), (5, .inl x5)] [] m Q := by
  refine hx_blks (npc := 18) (L' := [(0, .inr (.inl 86)), (1, .inl x1), (2, .inl x2), (3, .inl x3), (4, .inl x4), (5, .inl x5)]) (st' := [.inl (m 86 37), .inl x5]) (m' := m) ((12, .iload 5, 2, 0, 0, 0, 0), (0, 0, 0)) [((14, .aload_n 0, 1, 0, 0, 0, 0), (0, 0, 0)), ((15, .getfield 346, 3, 10, 37, 5150, 0), (0, 86, 0))] (by decide +kernel) rfl ?_
  refine hx_cmp .ge 58 (by decide +kernel) (fun c1 => ?_) (fun c1 => ?_)
  · have c1 : (m 86 37) ≤ x5 := c1
    refine hx_blk (npc := 66) (L' := [(0, .inr (.inl 86)), (1, .inl x1), (2, .inl x2), (3, .inl x3), (4, .inl x4), (5, .inl x5)]) (st' := [.inl (gx_and x1 (gx_xor (gx_shl 1 x2) (-1))), .inr (.inl 86)]) (m' := m) [((58, .aload_n 0, 1, 0, 0, 0, 0), (0, 0, 0)), ((59, .iload_n 1, 1, 0, 0, 0, 0), (0, 0, 0)), ((60, .iconst 1, 1, 0, 0, 0, 0), (0, 0, 0)), ((61, .iload_n 2, 1, 0, 0, 0, 0), (0, 0, 0)), ((62, .ishl, 1, 0, 0, 0, 0), (0, 0, 0)), ((63, .iconst (-1), 1, 0, 0, 0, 0), (0, 0, 0)), ((64, .ixor, 1, 0, 0, 0, 0), (0, 0, 0)), ((65, .iand, 1, 0, 0, 0, 0), (0, 0, 0))] (by decide +kernel) rfl ?_
    exact hx_call (E := (66, .invokevirtual 355, 3, 245, 0, 7107, 0)) (M' := yp_m245) [.inr (.inl 86), .inl (gx_and x1 (gx_xor (gx_shl 1 x2) (-1)))] [] rfl (by decide +kernel) rfl ⟨rfl, rfl⟩ rfl rfl (hx_mono (h1 c1) (fun r m' h' => hx_pick [3, 4] h'))
  · have c1 : x5 < (m 86 37) := by have h : ¬ ((m 86 37) ≤ x5) := c1; omega
    refine hx_blk (npc := 26) (L' := [(0, .inr (.inl 86)), (1, .inl x1), (2, .inl x2), (3, .inl x3), (4, .inl x4), (5, .inl x5)]) (st' := [.inl x5, .inr (.inl 86), .inl x4]) (m' := m) [((21, .iload 4, 2, 0, 0, 0, 0), (0, 0, 0)), ((23, .aload_n 0, 1, 0, 0, 0, 0), (0, 0, 0)), ((24, .iload 5, 2, 0, 0, 0, 0), (0, 0, 0))] (by decide +kernel) rfl ?_
    exact hx_call (E := (26, .invokevirtual 358, 3, 247, 0, 7115, 0)) (M' := yp_m247) [.inr (.inl 86), .inl x5] [.inl x4] rfl (by decide +kernel) rfl ⟨rfl, rfl⟩ rfl rfl (hx_mono (h2 c1) (fun r m' h' => hx_pick [0, 1, 2, 3, 5] h'))

/-- pays from 29 on -/
theorem hr244_29 {xs : List Int32} {n : Nat} {Q : hQ} {m : gx_M} {x1 x2 x3 x5 s0 s1 : Int}
    (h1 : (s1 ≠ x2) → hxn xs n yp_m244 12 [(0, .inr (.inl 86)), (1, .inl x1), (2, .inl x2), (3, .inl x3), (4, .inl (gx_w (s0 + 0))), (5, .inl (gx_w (x5 + 1)))] [] m Q)
    (h2 : (s1 = x2) → hxn xs n yp_m244 12 [(0, .inr (.inl 86)), (1, .inl x1), (2, .inl x2), (3, .inl x3), (4, .inl (gx_w (s0 + (m 113 (gx_w ((gx_w (8 * x5)) + x2)).toNat)))), (5, .inl (gx_w (x5 + 1)))] [] m Q) : hxn xs (n + 1) yp_m244 29 [(0, .inr (.inl 86)), (1, .inl x1), (2, .inl x2), (3, .inl x3), (5, .inl x5)] [.inl s1, .inl s0] m Q := by
  refine hx_blks (npc := 30) (L' := [(0, .inr (.inl 86)), (1, .inl x1), (2, .inl x2), (3, .inl x3), (5, .inl x5)]) (st' := [.inl x2, .inl s1, .inl s0]) (m' := m) ((29, .iload_n 2, 1, 0, 0, 0, 0), (0, 0, 0)) [] (by decide +kernel) rfl ?_
  refine hx_cmp .ne 48 (by decide +kernel) (fun c1 => ?_) (fun c1 => ?_)
  · have c1 : s1 ≠ x2 := c1
    refine hx_blk (npc := 12) (L' := [(0, .inr (.inl 86)), (1, .inl x1), (2, .inl x2), (3, .inl x3), (5, .inl (gx_w (x5 + 1))), (4, .inl (gx_w (s0 + 0)))]) (st' := []) (m' := m) [((48, .iconst 0, 1, 0, 0, 0, 0), (0, 0, 0)), ((49, .iadd, 1, 0, 0, 0, 0), (0, 0, 0)), ((50, .istore 4, 2, 0, 0, 0, 0), (0, 0, 0)), ((52, .iinc 5 1, 3, 0, 0, 0, 0), (0, 0, 0)), ((55, .goto (-43), 3, 0, 0, 0, 0), (0, 0, 0))] (by decide +kernel) rfl ?_
    exact hx_pick [0, 1, 2, 3, 4, 5] (h1 c1)
  · have c1 : s1 = x2 := by have h : ¬ (s1 ≠ x2) := c1; omega
    refine hx_blk (npc := 12) (L' := [(0, .inr (.inl 86)), (1, .inl x1), (2, .inl x2), (3, .inl x3), (5, .inl (gx_w (x5 + 1))), (4, .inl (gx_w (s0 + (m 113 (gx_w ((gx_w (8 * x5)) + x2)).toNat))))]) (st' := []) (m' := m) [((33, .aload_n 0, 1, 0, 0, 0, 0), (0, 0, 0)), ((34, .getfield 89, 3, 10, 40, 5153, 0), (1, 86, 113)), ((37, .bipush 8, 2, 0, 0, 0, 0), (0, 0, 0)), ((39, .iload 5, 2, 0, 0, 0, 0), (0, 0, 0)), ((41, .imul, 1, 0, 0, 0, 0), (0, 0, 0)), ((42, .iload_n 2, 1, 0, 0, 0, 0), (0, 0, 0)), ((43, .iadd, 1, 0, 0, 0, 0), (0, 0, 0)), ((44, .iaload, 1, 0, 0, 0, 0), (0, 113, 0)), ((45, .goto 4, 3, 0, 0, 0, 0), (0, 0, 0)), ((49, .iadd, 1, 0, 0, 0, 0), (0, 0, 0)), ((50, .istore 4, 2, 0, 0, 0, 0), (0, 0, 0)), ((52, .iinc 5 1, 3, 0, 0, 0, 0), (0, 0, 0)), ((55, .goto (-43), 3, 0, 0, 0, 0), (0, 0, 0))] (by decide +kernel) rfl ?_
    exact hx_pick [0, 1, 2, 3, 4, 5] (h2 c1)

/-- pays from 69 on -/
theorem hr244_69 {xs : List Int32} {n : Nat} {Q : hQ} {m : gx_M} {x3 x4 s0 : Int}
    (h1 : Q (some (.inl (gx_w (s0 - (gx_w (x3 - x4)))))) m) : hxn xs (n + 1) yp_m244 69 [(3, .inl x3), (4, .inl x4)] [.inl s0] m Q := by
  refine hx_blks (npc := 74) (L' := [(3, .inl x3), (4, .inl x4)]) (st' := [.inl (gx_w (s0 - (gx_w (x3 - x4))))]) (m' := m) ((69, .iload_n 3, 1, 0, 0, 0, 0), (0, 0, 0)) [((70, .iload 4, 2, 0, 0, 0, 0), (0, 0, 0)), ((72, .isub, 1, 0, 0, 0, 0), (0, 0, 0)), ((73, .isub, 1, 0, 0, 0, 0), (0, 0, 0))] (by decide +kernel) rfl ?_
  exact hx_reti (by decide +kernel) h1

/-- sold from 0 on -/
theorem hr242_0 {xs : List Int32} {n : Nat} {Q : hQ} {m : gx_M} {x1 x2 x3 : Int}
    (h1 : (1 ≤ x1 ∧ x1 ≤ 6) → (x1 ≤ (m 86 4)) → hxn xs n yp_m243 0 [(0, .inr (.inl 86)), (1, .inl x1)] [] (gx_u m 86 4 0) (fun r m' => hxn xs n yp_m242 30 [(0, .inr (.inl 86)), (1, .inl x1), (2, .inl x2), (3, .inl x3)] (hrs r ++ []) m' Q))
    (h2 : (1 ≤ x1 ∧ x1 ≤ 6) → ((m 86 4) < x1) → Q (some (.inl (-1))) m)
    (h3 : (¬ (1 ≤ x1 ∧ x1 ≤ 6)) → Q (some (.inl (-1))) m) : hxn xs (n + 1) yp_m242 0 [(0, .inr (.inl 86)), (1, .inl x1), (2, .inl x2), (3, .inl x3)] [] m Q := by
  refine hx_blks (npc := 4) (L' := [(0, .inr (.inl 86)), (1, .inl x1), (2, .inl x2), (3, .inl x3)]) (st' := [.inl 6, .inl 1, .inl x1]) (m' := m) ((0, .iload_n 1, 1, 0, 0, 0, 0), (0, 0, 0)) [((1, .iconst 1, 1, 0, 0, 0, 0), (0, 0, 0)), ((2, .bipush 6, 2, 0, 0, 0, 0), (0, 0, 0))] (by decide +kernel) rfl ?_
  refine hx_call (E := (4, .invokestatic 108, 3, 162, 0, 6023, 0)) (M' := yp_m162) [.inl x1, .inl 1, .inl 6] [] rfl (by decide +kernel) rfl ⟨rfl, rfl⟩ rfl rfl (hs162 (fun c1 => ?_) (fun c1 => ?_))
  · have c1 : 1 ≤ x1 ∧ x1 ≤ 6 := c1
    show hxn xs n yp_m242 7 [(0, .inr (.inl 86)), (1, .inl x1), (2, .inl x2), (3, .inl x3)] [.inl 1] m Q
    refine hx_if .eq 18 (by decide +kernel) (fun c2 => ?_) (fun c2 => ?_)
    · have c2 : (1 : Int) = 0 := c2
      exfalso; omega
    · have c2 : (1 : Int) ≠ 0 := c2
      refine hx_blk (npc := 15) (L' := [(0, .inr (.inl 86)), (1, .inl x1), (2, .inl x2), (3, .inl x3)]) (st' := [.inl (m 86 4), .inl x1]) (m' := m) [((10, .iload_n 1, 1, 0, 0, 0, 0), (0, 0, 0)), ((11, .aload_n 0, 1, 0, 0, 0, 0), (0, 0, 0)), ((12, .getfield 124, 3, 10, 4, 5117, 0), (0, 86, 0))] (by decide +kernel) rfl ?_
      refine hx_cmp .le 20 (by decide +kernel) (fun c2 => ?_) (fun c2 => ?_)
      · have c2 : x1 ≤ (m 86 4) := c2
        refine hx_blk (npc := 27) (L' := [(0, .inr (.inl 86)), (1, .inl x1), (2, .inl x2), (3, .inl x3)]) (st' := [.inl x1, .inr (.inl 86)]) (m' := (gx_u m 86 4 0)) [((20, .aload_n 0, 1, 0, 0, 0, 0), (0, 0, 0)), ((21, .iconst 0, 1, 0, 0, 0, 0), (0, 0, 0)), ((22, .putfield 124, 3, 10, 4, 5117, 0), (0, 86, 0)), ((25, .aload_n 0, 1, 0, 0, 0, 0), (0, 0, 0)), ((26, .iload_n 1, 1, 0, 0, 0, 0), (0, 0, 0))] (by decide +kernel) rfl ?_
        exact hx_call (E := (27, .invokevirtual 361, 3, 243, 0, 7099, 0)) (M' := yp_m243) [.inr (.inl 86), .inl x1] [] rfl (by decide +kernel) rfl ⟨rfl, rfl⟩ rfl rfl (hx_mono (h1 c1 c2) (fun r m' h' => hx_pick [0, 1, 2, 3] h'))
      · have c2 : (m 86 4) < x1 := by have h : ¬ (x1 ≤ (m 86 4)) := c2; omega
        refine hx_blk (npc := 19) (L' := [(0, .inr (.inl 86)), (1, .inl x1), (2, .inl x2), (3, .inl x3)]) (st' := [.inl (-1)]) (m' := m) [((18, .iconst (-1), 1, 0, 0, 0, 0), (0, 0, 0))] (by decide +kernel) rfl ?_
        exact hx_reti (by decide +kernel) (h2 c1 c2)
  · have c1 : ¬ (1 ≤ x1 ∧ x1 ≤ 6) := c1
    show hxn xs n yp_m242 7 [(0, .inr (.inl 86)), (1, .inl x1), (2, .inl x2), (3, .inl x3)] [.inl 0] m Q
    refine hx_if .eq 18 (by decide +kernel) (fun c2 => ?_) (fun c2 => ?_)
    · have c2 : (0 : Int) = 0 := c2
      refine hx_blk (npc := 19) (L' := [(0, .inr (.inl 86)), (1, .inl x1), (2, .inl x2), (3, .inl x3)]) (st' := [.inl (-1)]) (m' := m) [((18, .iconst (-1), 1, 0, 0, 0, 0), (0, 0, 0))] (by decide +kernel) rfl ?_
      exact hx_reti (by decide +kernel) (h3 c1)
    · have c2 : (0 : Int) ≠ 0 := c2
      exfalso; omega

/-- sold from 30 on -/
theorem hr242_30 {xs : List Int32} {n : Nat} {Q : hQ} {m : gx_M} {x1 x2 x3 s0 : Int}
    (h1 : (s0 ≠ 0) → (x3 = 10) → ((gx_and x2 (gx_xor (m 87 1128) (-1))) ≠ 0) → Q (some (.inl (-3))) m)
    (h2 : (s0 ≠ 0) → (x3 = 10) → ((gx_and x2 (gx_xor (m 87 1128) (-1))) = 0) → hxn xs n yp_m242 108 [(0, .inr (.inl 86)), (1, .inl x1), (2, .inl x2), (3, .inl x3), (5, .inl 0)] [] m Q)
    (h3 : (s0 ≠ 0) → (x3 ≠ 10) → (0 ≤ x3 ∧ x3 ≤ (gx_w (x1 - 1))) → ((gx_and x2 (gx_xor (m 87 1128) (-1))) ≠ 0) → Q (some (.inl (-3))) m)
    (h4 : (s0 ≠ 0) → (x3 ≠ 10) → (0 ≤ x3 ∧ x3 ≤ (gx_w (x1 - 1))) → ((gx_and x2 (gx_xor (m 87 1128) (-1))) = 0) → hxn xs n yp_m242 108 [(0, .inr (.inl 86)), (1, .inl x1), (2, .inl x2), (3, .inl x3), (5, .inl 0)] [] m Q)
    (h5 : (s0 ≠ 0) → (x3 ≠ 10) → (¬ (0 ≤ x3 ∧ x3 ≤ (gx_w (x1 - 1)))) → (20 ≤ x3 ∧ x3 ≤ 27) → (gx_and (gx_shr x2 (gx_w (x3 - 20))) 1 = 1) → ((gx_and x2 (gx_xor (m 87 1128) (-1))) ≠ 0) → Q (some (.inl (-3))) m)
    (h6 : (s0 ≠ 0) → (x3 ≠ 10) → (¬ (0 ≤ x3 ∧ x3 ≤ (gx_w (x1 - 1)))) → (20 ≤ x3 ∧ x3 ≤ 27) → (gx_and (gx_shr x2 (gx_w (x3 - 20))) 1 = 1) → ((gx_and x2 (gx_xor (m 87 1128) (-1))) = 0) → hxn xs n yp_m242 108 [(0, .inr (.inl 86)), (1, .inl x1), (2, .inl x2), (3, .inl x3), (5, .inl 0)] [] m Q)
    (h7 : (s0 ≠ 0) → (x3 ≠ 10) → (¬ (0 ≤ x3 ∧ x3 ≤ (gx_w (x1 - 1)))) → (20 ≤ x3 ∧ x3 ≤ 27) → (¬ (gx_and (gx_shr x2 (gx_w (x3 - 20))) 1 = 1)) → ((gx_and x2 (gx_xor (m 87 1128) (-1))) ≠ 0) → Q (some (.inl (-3))) m)
    (h8 : (s0 ≠ 0) → (x3 ≠ 10) → (¬ (0 ≤ x3 ∧ x3 ≤ (gx_w (x1 - 1)))) → (20 ≤ x3 ∧ x3 ≤ 27) → (¬ (gx_and (gx_shr x2 (gx_w (x3 - 20))) 1 = 1)) → ((gx_and x2 (gx_xor (m 87 1128) (-1))) = 0) → Q (some (.inl (-3))) m)
    (h9 : (s0 ≠ 0) → (x3 ≠ 10) → (¬ (0 ≤ x3 ∧ x3 ≤ (gx_w (x1 - 1)))) → (¬ (20 ≤ x3 ∧ x3 ≤ 27)) → ((gx_and x2 (gx_xor (m 87 1128) (-1))) ≠ 0) → Q (some (.inl (-3))) m)
    (h10 : (s0 ≠ 0) → (x3 ≠ 10) → (¬ (0 ≤ x3 ∧ x3 ≤ (gx_w (x1 - 1)))) → (¬ (20 ≤ x3 ∧ x3 ≤ 27)) → ((gx_and x2 (gx_xor (m 87 1128) (-1))) = 0) → Q (some (.inl (-3))) m)
    (h11 : (s0 = 0) → Q (some (.inl (-2))) m) : hxn xs (n + 1) yp_m242 30 [(0, .inr (.inl 86)), (1, .inl x1), (2, .inl x2), (3, .inl x3)] [.inl s0] m Q := by
  refine hx_ifs .ne 36 (by decide +kernel) (fun c1 => ?_) (fun c1 => ?_)
  · have c1 : s0 ≠ 0 := c1
    refine hx_blk (npc := 39) (L' := [(0, .inr (.inl 86)), (1, .inl x1), (2, .inl x2), (3, .inl x3)]) (st' := [.inl 10, .inl x3]) (m' := m) [((36, .iload_n 3, 1, 0, 0, 0, 0), (0, 0, 0)), ((37, .bipush 10, 2, 0, 0, 0, 0), (0, 0, 0))] (by decide +kernel) rfl ?_
    refine hx_cmp .eq 75 (by decide +kernel) (fun c2 => ?_) (fun c2 => ?_)
    · have c2 : x3 = 10 := c2
      refine hx_blk (npc := 94) (L' := [(0, .inr (.inl 86)), (1, .inl x1), (2, .inl x2), (3, .inl x3), (4, .inl 1)]) (st' := [.inl (gx_and x2 (gx_xor (m 87 1128) (-1)))]) (m' := m) [((75, .iconst 1, 1, 0, 0, 0, 0), (0, 0, 0)), ((76, .goto 4, 3, 0, 0, 0, 0), (0, 0, 0)), ((80, .istore 4, 2, 0, 0, 0, 0), (0, 0, 0)), ((82, .iload_n 2, 1, 0, 0, 0, 0), (0, 0, 0)), ((83, .aload_n 0, 1, 0, 0, 0, 0), (0, 0, 0)), ((84, .getfield 7, 3, 10, 0, 5113, 0), (1, 86, 87)), ((87, .sipush 1128, 3, 0, 0, 0, 0), (0, 0, 0)), ((90, .iaload, 1, 0, 0, 0, 0), (0, 87, 0)), ((91, .iconst (-1), 1, 0, 0, 0, 0), (0, 0, 0)), ((92, .ixor, 1, 0, 0, 0, 0), (0, 0, 0)), ((93, .iand, 1, 0, 0, 0, 0), (0, 0, 0))] (by decide +kernel) rfl ?_
      refine hx_if .ne 102 (by decide +kernel) (fun c3 => ?_) (fun c3 => ?_)
      · have c3 : (gx_and x2 (gx_xor (m 87 1128) (-1))) ≠ 0 := c3
        refine hx_blk (npc := 104) (L' := [(0, .inr (.inl 86)), (1, .inl x1), (2, .inl x2), (3, .inl x3), (4, .inl 1)]) (st' := [.inl (-3)]) (m' := m) [((102, .bipush (-3), 2, 0, 0, 0, 0), (0, 0, 0))] (by decide +kernel) rfl ?_
        exact hx_reti (by decide +kernel) (h1 c1 c2 c3)
      · have c3 : (gx_and x2 (gx_xor (m 87 1128) (-1))) = 0 := by have h : ¬ ((gx_and x2 (gx_xor (m 87 1128) (-1))) ≠ 0) := c3; omega
        refine hx_blk (npc := 99) (L' := [(0, .inr (.inl 86)), (1, .inl x1), (2, .inl x2), (3, .inl x3), (4, .inl 1)]) (st' := [.inl 1]) (m' := m) [((97, .iload 4, 2, 0, 0, 0, 0), (0, 0, 0))] (by decide +kernel) rfl ?_
        refine hx_if .ne 105 (by decide +kernel) (fun c4 => ?_) (fun c4 => ?_)
        · have c4 : (1 : Int) ≠ 0 := c4
          refine hx_blk (npc := 108) (L' := [(0, .inr (.inl 86)), (1, .inl x1), (2, .inl x2), (3, .inl x3), (4, .inl 1), (5, .inl 0)]) (st' := []) (m' := m) [((105, .iconst 0, 1, 0, 0, 0, 0), (0, 0, 0)), ((106, .istore 5, 2, 0, 0, 0, 0), (0, 0, 0))] (by decide +kernel) rfl ?_
          exact hx_pick [0, 1, 2, 3, 5] (h2 c1 c2 c3)
        · have c4 : (1 : Int) = 0 := by have h : ¬ ((1 : Int) ≠ 0) := c4; omega
          exfalso; omega
    · have c2 : x3 ≠ 10 := c2
      refine hx_blk (npc := 47) (L' := [(0, .inr (.inl 86)), (1, .inl x1), (2, .inl x2), (3, .inl x3)]) (st' := [.inl (gx_w (x1 - 1)), .inl 0, .inl x3]) (m' := m) [((42, .iload_n 3, 1, 0, 0, 0, 0), (0, 0, 0)), ((43, .iconst 0, 1, 0, 0, 0, 0), (0, 0, 0)), ((44, .iload_n 1, 1, 0, 0, 0, 0), (0, 0, 0)), ((45, .iconst 1, 1, 0, 0, 0, 0), (0, 0, 0)), ((46, .isub, 1, 0, 0, 0, 0), (0, 0, 0))] (by decide +kernel) rfl ?_
      refine hx_call (E := (47, .invokestatic 108, 3, 162, 0, 6023, 0)) (M' := yp_m162) [.inl x3, .inl 0, .inl (gx_w (x1 - 1))] [] rfl (by decide +kernel) rfl ⟨rfl, rfl⟩ rfl rfl (hs162 (fun c3 => ?_) (fun c3 => ?_))
      · have c3 : 0 ≤ x3 ∧ x3 ≤ (gx_w (x1 - 1)) := c3
        show hxn xs n yp_m242 50 [(0, .inr (.inl 86)), (1, .inl x1), (2, .inl x2), (3, .inl x3)] [.inl 1] m Q
        refine hx_if .ne 75 (by decide +kernel) (fun c4 => ?_) (fun c4 => ?_)
        · have c4 : (1 : Int) ≠ 0 := c4
          refine hx_blk (npc := 94) (L' := [(0, .inr (.inl 86)), (1, .inl x1), (2, .inl x2), (3, .inl x3), (4, .inl 1)]) (st' := [.inl (gx_and x2 (gx_xor (m 87 1128) (-1)))]) (m' := m) [((75, .iconst 1, 1, 0, 0, 0, 0), (0, 0, 0)), ((76, .goto 4, 3, 0, 0, 0, 0), (0, 0, 0)), ((80, .istore 4, 2, 0, 0, 0, 0), (0, 0, 0)), ((82, .iload_n 2, 1, 0, 0, 0, 0), (0, 0, 0)), ((83, .aload_n 0, 1, 0, 0, 0, 0), (0, 0, 0)), ((84, .getfield 7, 3, 10, 0, 5113, 0), (1, 86, 87)), ((87, .sipush 1128, 3, 0, 0, 0, 0), (0, 0, 0)), ((90, .iaload, 1, 0, 0, 0, 0), (0, 87, 0)), ((91, .iconst (-1), 1, 0, 0, 0, 0), (0, 0, 0)), ((92, .ixor, 1, 0, 0, 0, 0), (0, 0, 0)), ((93, .iand, 1, 0, 0, 0, 0), (0, 0, 0))] (by decide +kernel) rfl ?_
          refine hx_if .ne 102 (by decide +kernel) (fun c4 => ?_) (fun c4 => ?_)
          · have c4 : (gx_and x2 (gx_xor (m 87 1128) (-1))) ≠ 0 := c4
            refine hx_blk (npc := 104) (L' := [(0, .inr (.inl 86)), (1, .inl x1), (2, .inl x2), (3, .inl x3), (4, .inl 1)]) (st' := [.inl (-3)]) (m' := m) [((102, .bipush (-3), 2, 0, 0, 0, 0), (0, 0, 0))] (by decide +kernel) rfl ?_
            exact hx_reti (by decide +kernel) (h3 c1 c2 c3 c4)
          · have c4 : (gx_and x2 (gx_xor (m 87 1128) (-1))) = 0 := by have h : ¬ ((gx_and x2 (gx_xor (m 87 1128) (-1))) ≠ 0) := c4; omega
            refine hx_blk (npc := 99) (L' := [(0, .inr (.inl 86)), (1, .inl x1), (2, .inl x2), (3, .inl x3), (4, .inl 1)]) (st' := [.inl 1]) (m' := m) [((97, .iload 4, 2, 0, 0, 0, 0), (0, 0, 0))] (by decide +kernel) rfl ?_
            refine hx_if .ne 105 (by decide +kernel) (fun c5 => ?_) (fun c5 => ?_)
            · have c5 : (1 : Int) ≠ 0 := c5
              refine hx_blk (npc := 108) (L' := [(0, .inr (.inl 86)), (1, .inl x1), (2, .inl x2), (3, .inl x3), (4, .inl 1), (5, .inl 0)]) (st' := []) (m' := m) [((105, .iconst 0, 1, 0, 0, 0, 0), (0, 0, 0)), ((106, .istore 5, 2, 0, 0, 0, 0), (0, 0, 0))] (by decide +kernel) rfl ?_
              exact hx_pick [0, 1, 2, 3, 5] (h4 c1 c2 c3 c4)
            · have c5 : (1 : Int) = 0 := by have h : ¬ ((1 : Int) ≠ 0) := c5; omega
              exfalso; omega
        · have c4 : (1 : Int) = 0 := by have h : ¬ ((1 : Int) ≠ 0) := c4; omega
          exfalso; omega
      · have c3 : ¬ (0 ≤ x3 ∧ x3 ≤ (gx_w (x1 - 1))) := c3
        show hxn xs n yp_m242 50 [(0, .inr (.inl 86)), (1, .inl x1), (2, .inl x2), (3, .inl x3)] [.inl 0] m Q
        refine hx_if .ne 75 (by decide +kernel) (fun c4 => ?_) (fun c4 => ?_)
        · have c4 : (0 : Int) ≠ 0 := c4
          exfalso; omega
        · have c4 : (0 : Int) = 0 := by have h : ¬ ((0 : Int) ≠ 0) := c4; omega
          refine hx_blk (npc := 58) (L' := [(0, .inr (.inl 86)), (1, .inl x1), (2, .inl x2), (3, .inl x3)]) (st' := [.inl 27, .inl 20, .inl x3]) (m' := m) [((53, .iload_n 3, 1, 0, 0, 0, 0), (0, 0, 0)), ((54, .bipush 20, 2, 0, 0, 0, 0), (0, 0, 0)), ((56, .bipush 27, 2, 0, 0, 0, 0), (0, 0, 0))] (by decide +kernel) rfl ?_
          refine hx_call (E := (58, .invokestatic 108, 3, 162, 0, 6023, 0)) (M' := yp_m162) [.inl x3, .inl 20, .inl 27] [] rfl (by decide +kernel) rfl ⟨rfl, rfl⟩ rfl rfl (hs162 (fun c4 => ?_) (fun c4 => ?_))
          · have c4 : 20 ≤ x3 ∧ x3 ≤ 27 := c4
            show hxn xs n yp_m242 61 [(0, .inr (.inl 86)), (1, .inl x1), (2, .inl x2), (3, .inl x3)] [.inl 1] m Q
            refine hx_if .eq 79 (by decide +kernel) (fun c5 => ?_) (fun c5 => ?_)
            · have c5 : (1 : Int) = 0 := c5
              exfalso; omega
            · have c5 : (1 : Int) ≠ 0 := c5
              refine hx_blk (npc := 69) (L' := [(0, .inr (.inl 86)), (1, .inl x1), (2, .inl x2), (3, .inl x3)]) (st' := [.inl (gx_w (x3 - 20)), .inl x2]) (m' := m) [((64, .iload_n 2, 1, 0, 0, 0, 0), (0, 0, 0)), ((65, .iload_n 3, 1, 0, 0, 0, 0), (0, 0, 0)), ((66, .bipush 20, 2, 0, 0, 0, 0), (0, 0, 0)), ((68, .isub, 1, 0, 0, 0, 0), (0, 0, 0))] (by decide +kernel) rfl ?_
              refine hx_call (E := (69, .invokestatic 104, 3, 165, 0, 6035, 0)) (M' := yp_m165) [.inl x2, .inl (gx_w (x3 - 20))] [] rfl (by decide +kernel) rfl ⟨rfl, rfl⟩ rfl rfl (hs165 (fun c5 => ?_) (fun c5 => ?_))
              · have c5 : gx_and (gx_shr x2 (gx_w (x3 - 20))) 1 = 1 := c5
                show hxn xs n yp_m242 72 [(0, .inr (.inl 86)), (1, .inl x1), (2, .inl x2), (3, .inl x3)] [.inl 1] m Q
                refine hx_if .eq 79 (by decide +kernel) (fun c6 => ?_) (fun c6 => ?_)
                · have c6 : (1 : Int) = 0 := c6
                  exfalso; omega
                · have c6 : (1 : Int) ≠ 0 := c6
                  refine hx_blk (npc := 94) (L' := [(0, .inr (.inl 86)), (1, .inl x1), (2, .inl x2), (3, .inl x3), (4, .inl 1)]) (st' := [.inl (gx_and x2 (gx_xor (m 87 1128) (-1)))]) (m' := m) [((75, .iconst 1, 1, 0, 0, 0, 0), (0, 0, 0)), ((76, .goto 4, 3, 0, 0, 0, 0), (0, 0, 0)), ((80, .istore 4, 2, 0, 0, 0, 0), (0, 0, 0)), ((82, .iload_n 2, 1, 0, 0, 0, 0), (0, 0, 0)), ((83, .aload_n 0, 1, 0, 0, 0, 0), (0, 0, 0)), ((84, .getfield 7, 3, 10, 0, 5113, 0), (1, 86, 87)), ((87, .sipush 1128, 3, 0, 0, 0, 0), (0, 0, 0)), ((90, .iaload, 1, 0, 0, 0, 0), (0, 87, 0)), ((91, .iconst (-1), 1, 0, 0, 0, 0), (0, 0, 0)), ((92, .ixor, 1, 0, 0, 0, 0), (0, 0, 0)), ((93, .iand, 1, 0, 0, 0, 0), (0, 0, 0))] (by decide +kernel) rfl ?_
                  refine hx_if .ne 102 (by decide +kernel) (fun c6 => ?_) (fun c6 => ?_)
                  · have c6 : (gx_and x2 (gx_xor (m 87 1128) (-1))) ≠ 0 := c6
                    refine hx_blk (npc := 104) (L' := [(0, .inr (.inl 86)), (1, .inl x1), (2, .inl x2), (3, .inl x3), (4, .inl 1)]) (st' := [.inl (-3)]) (m' := m) [((102, .bipush (-3), 2, 0, 0, 0, 0), (0, 0, 0))] (by decide +kernel) rfl ?_
                    exact hx_reti (by decide +kernel) (h5 c1 c2 c3 c4 c5 c6)
                  · have c6 : (gx_and x2 (gx_xor (m 87 1128) (-1))) = 0 := by have h : ¬ ((gx_and x2 (gx_xor (m 87 1128) (-1))) ≠ 0) := c6; omega
                    refine hx_blk (npc := 99) (L' := [(0, .inr (.inl 86)), (1, .inl x1), (2, .inl x2), (3, .inl x3), (4, .inl 1)]) (st' := [.inl 1]) (m' := m) [((97, .iload 4, 2, 0, 0, 0, 0), (0, 0, 0))] (by decide +kernel) rfl ?_
                    refine hx_if .ne 105 (by decide +kernel) (fun c7 => ?_) (fun c7 => ?_)
                    · have c7 : (1 : Int) ≠ 0 := c7
                      refine hx_blk (npc := 108) (L' := [(0, .inr (.inl 86)), (1, .inl x1), (2, .inl x2), (3, .inl x3), (4, .inl 1), (5, .inl 0)]) (st' := []) (m' := m) [((105, .iconst 0, 1, 0, 0, 0, 0), (0, 0, 0)), ((106, .istore 5, 2, 0, 0, 0, 0), (0, 0, 0))] (by decide +kernel) rfl ?_
                      exact hx_pick [0, 1, 2, 3, 5] (h6 c1 c2 c3 c4 c5 c6)
                    · have c7 : (1 : Int) = 0 := by have h : ¬ ((1 : Int) ≠ 0) := c7; omega
                      exfalso; omega
              · have c5 : ¬ (gx_and (gx_shr x2 (gx_w (x3 - 20))) 1 = 1) := c5
                show hxn xs n yp_m242 72 [(0, .inr (.inl 86)), (1, .inl x1), (2, .inl x2), (3, .inl x3)] [.inl 0] m Q
                refine hx_if .eq 79 (by decide +kernel) (fun c6 => ?_) (fun c6 => ?_)
                · have c6 : (0 : Int) = 0 := c6
                  refine hx_blk (npc := 94) (L' := [(0, .inr (.inl 86)), (1, .inl x1), (2, .inl x2), (3, .inl x3), (4, .inl 0)]) (st' := [.inl (gx_and x2 (gx_xor (m 87 1128) (-1)))]) (m' := m) [((79, .iconst 0, 1, 0, 0, 0, 0), (0, 0, 0)), ((80, .istore 4, 2, 0, 0, 0, 0), (0, 0, 0)), ((82, .iload_n 2, 1, 0, 0, 0, 0), (0, 0, 0)), ((83, .aload_n 0, 1, 0, 0, 0, 0), (0, 0, 0)), ((84, .getfield 7, 3, 10, 0, 5113, 0), (1, 86, 87)), ((87, .sipush 1128, 3, 0, 0, 0, 0), (0, 0, 0)), ((90, .iaload, 1, 0, 0, 0, 0), (0, 87, 0)), ((91, .iconst (-1), 1, 0, 0, 0, 0), (0, 0, 0)), ((92, .ixor, 1, 0, 0, 0, 0), (0, 0, 0)), ((93, .iand, 1, 0, 0, 0, 0), (0, 0, 0))] (by decide +kernel) rfl ?_
                  refine hx_if .ne 102 (by decide +kernel) (fun c6 => ?_) (fun c6 => ?_)
                  · have c6 : (gx_and x2 (gx_xor (m 87 1128) (-1))) ≠ 0 := c6
                    refine hx_blk (npc := 104) (L' := [(0, .inr (.inl 86)), (1, .inl x1), (2, .inl x2), (3, .inl x3), (4, .inl 0)]) (st' := [.inl (-3)]) (m' := m) [((102, .bipush (-3), 2, 0, 0, 0, 0), (0, 0, 0))] (by decide +kernel) rfl ?_
                    exact hx_reti (by decide +kernel) (h7 c1 c2 c3 c4 c5 c6)
                  · have c6 : (gx_and x2 (gx_xor (m 87 1128) (-1))) = 0 := by have h : ¬ ((gx_and x2 (gx_xor (m 87 1128) (-1))) ≠ 0) := c6; omega
                    refine hx_blk (npc := 99) (L' := [(0, .inr (.inl 86)), (1, .inl x1), (2, .inl x2), (3, .inl x3), (4, .inl 0)]) (st' := [.inl 0]) (m' := m) [((97, .iload 4, 2, 0, 0, 0, 0), (0, 0, 0))] (by decide +kernel) rfl ?_
                    refine hx_if .ne 105 (by decide +kernel) (fun c7 => ?_) (fun c7 => ?_)
                    · have c7 : (0 : Int) ≠ 0 := c7
                      exfalso; omega
                    · have c7 : (0 : Int) = 0 := by have h : ¬ ((0 : Int) ≠ 0) := c7; omega
                      refine hx_blk (npc := 104) (L' := [(0, .inr (.inl 86)), (1, .inl x1), (2, .inl x2), (3, .inl x3), (4, .inl 0)]) (st' := [.inl (-3)]) (m' := m) [((102, .bipush (-3), 2, 0, 0, 0, 0), (0, 0, 0))] (by decide +kernel) rfl ?_
                      exact hx_reti (by decide +kernel) (h8 c1 c2 c3 c4 c5 c6)
                · have c6 : (0 : Int) ≠ 0 := c6
                  exfalso; omega
          · have c4 : ¬ (20 ≤ x3 ∧ x3 ≤ 27) := c4
            show hxn xs n yp_m242 61 [(0, .inr (.inl 86)), (1, .inl x1), (2, .inl x2), (3, .inl x3)] [.inl 0] m Q
            refine hx_if .eq 79 (by decide +kernel) (fun c5 => ?_) (fun c5 => ?_)
            · have c5 : (0 : Int) = 0 := c5
              refine hx_blk (npc := 94) (L' := [(0, .inr (.inl 86)), (1, .inl x1), (2, .inl x2), (3, .inl x3), (4, .inl 0)]) (st' := [.inl (gx_and x2 (gx_xor (m 87 1128) (-1)))]) (m' := m) [((79, .iconst 0, 1, 0, 0, 0, 0), (0, 0, 0)), ((80, .istore 4, 2, 0, 0, 0, 0), (0, 0, 0)), ((82, .iload_n 2, 1, 0, 0, 0, 0), (0, 0, 0)), ((83, .aload_n 0, 1, 0, 0, 0, 0), (0, 0, 0)), ((84, .getfield 7, 3, 10, 0, 5113, 0), (1, 86, 87)), ((87, .sipush 1128, 3, 0, 0, 0, 0), (0, 0, 0)), ((90, .iaload, 1, 0, 0, 0, 0), (0, 87, 0)), ((91, .iconst (-1), 1, 0, 0, 0, 0), (0, 0, 0)), ((92, .ixor, 1, 0, 0, 0, 0), (0, 0, 0)), ((93, .iand, 1, 0, 0, 0, 0), (0, 0, 0))] (by decide +kernel) rfl ?_
              refine hx_if .ne 102 (by decide +kernel) (fun c5 => ?_) (fun c5 => ?_)
              · have c5 : (gx_and x2 (gx_xor (m 87 1128) (-1))) ≠ 0 := c5
                refine hx_blk (npc := 104) (L' := [(0, .inr (.inl 86)), (1, .inl x1), (2, .inl x2), (3, .inl x3), (4, .inl 0)]) (st' := [.inl (-3)]) (m' := m) [((102, .bipush (-3), 2, 0, 0, 0, 0), (0, 0, 0))] (by decide +kernel) rfl ?_
                exact hx_reti (by decide +kernel) (h9 c1 c2 c3 c4 c5)
              · have c5 : (gx_and x2 (gx_xor (m 87 1128) (-1))) = 0 := by have h : ¬ ((gx_and x2 (gx_xor (m 87 1128) (-1))) ≠ 0) := c5; omega
                refine hx_blk (npc := 99) (L' := [(0, .inr (.inl 86)), (1, .inl x1), (2, .inl x2), (3, .inl x3), (4, .inl 0)]) (st' := [.inl 0]) (m' := m) [((97, .iload 4, 2, 0, 0, 0, 0), (0, 0, 0))] (by decide +kernel) rfl ?_
                refine hx_if .ne 105 (by decide +kernel) (fun c6 => ?_) (fun c6 => ?_)
                · have c6 : (0 : Int) ≠ 0 := c6
                  exfalso; omega
                · have c6 : (0 : Int) = 0 := by have h : ¬ ((0 : Int) ≠ 0) := c6; omega
                  refine hx_blk (npc := 104) (L' := [(0, .inr (.inl 86)), (1, .inl x1), (2, .inl x2), (3, .inl x3), (4, .inl 0)]) (st' := [.inl (-3)]) (m' := m) [((102, .bipush (-3), 2, 0, 0, 0, 0), (0, 0, 0))] (by decide +kernel) rfl ?_
                  exact hx_reti (by decide +kernel) (h10 c1 c2 c3 c4 c5)
            · have c5 : (0 : Int) ≠ 0 := c5
              exfalso; omega
  · have c1 : s0 = 0 := by have h : ¬ (s0 ≠ 0) := c1; omega
    refine hx_blk (npc := 35) (L' := [(0, .inr (.inl 86)), (1, .inl x1), (2, .inl x2), (3, .inl x3)]) (st' := [.inl (-2)]) (m' := m) [((33, .bipush (-2), 2, 0, 0, 0, 0), (0, 0, 0))] (by decide +kernel) rfl ?_
    exact hx_reti (by decide +kernel) (h11 c1)

/-- sold from 108 on -/
theorem hr242_108 {xs : List Int32} {n : Nat} {Q : hQ} {m : gx_M} {x1 x2 x3 x5 : Int}
    (h1 : (x1 ≤ x5) → (x3 < 20) → hxn xs n yp_m245 0 [(0, .inr (.inl 86)), (1, .inl x2)] [] m (fun r m' => hxn xs n yp_m242 196 [(0, .inr (.inl 86)), (3, .inl x3)] (hrs r ++ []) m' Q))
    (h2 : (x1 ≤ x5) → (20 ≤ x3) → hxn xs n yp_m244 0 [(0, .inr (.inl 86)), (1, .inl x2), (2, .inl (gx_w (x3 - 20)))] [] m (fun r m' => hxn xs n yp_m242 190 [] (hrs r ++ []) m' Q))
    (h3 : (x5 < x1) → hxn xs n yp_m242 117 [(0, .inr (.inl 86)), (1, .inl x1), (2, .inl x2), (3, .inl x3), (5, .inl x5), (6, .inl 0)] [] m Q) : hxn xs (n + 1) yp_m242 108 [(0, .inr (.inl 86)), (1, .inl x1), (2, .inl x2), (3, .inl x3), (5, .inl x5)] [] m Q := by
  refine hx_blks (npc := 111) (L' := [(0, .inr (.inl 86)), (1, .inl x1), (2, .inl x2), (3, .inl x3), (5, .inl x5)]) (st' := [.inl x1, .inl x5]) (m' := m) ((108, .iload 5, 2, 0, 0, 0, 0), (0, 0, 0)) [((110, .iload_n 1, 1, 0, 0, 0, 0), (0, 0, 0))] (by decide +kernel) rfl ?_
  refine hx_cmp .ge 175 (by decide +kernel) (fun c1 => ?_) (fun c1 => ?_)
  · have c1 : x1 ≤ x5 := c1
    refine hx_blk (npc := 178) (L' := [(0, .inr (.inl 86)), (1, .inl x1), (2, .inl x2), (3, .inl x3), (5, .inl x5)]) (st' := [.inl 20, .inl x3]) (m' := m) [((175, .iload_n 3, 1, 0, 0, 0, 0), (0, 0, 0)), ((176, .bipush 20, 2, 0, 0, 0, 0), (0, 0, 0))] (by decide +kernel) rfl ?_
    refine hx_cmp .lt 191 (by decide +kernel) (fun c2 => ?_) (fun c2 => ?_)
    · have c2 : x3 < 20 := c2
      refine hx_blk (npc := 193) (L' := [(0, .inr (.inl 86)), (1, .inl x1), (2, .inl x2), (3, .inl x3), (5, .inl x5)]) (st' := [.inl x2, .inr (.inl 86)]) (m' := m) [((191, .aload_n 0, 1, 0, 0, 0, 0), (0, 0, 0)), ((192, .iload_n 2, 1, 0, 0, 0, 0), (0, 0, 0))] (by decide +kernel) rfl ?_
      exact hx_call (E := (193, .invokevirtual 355, 3, 245, 0, 7107, 0)) (M' := yp_m245) [.inr (.inl 86), .inl x2] [] rfl (by decide +kernel) rfl ⟨rfl, rfl⟩ rfl rfl (hx_mono (h1 c1 c2) (fun r m' h' => hx_pick [0, 3] h'))
    · have c2 : 20 ≤ x3 := by have h : ¬ (x3 < 20) := c2; omega
      refine hx_blk (npc := 187) (L' := [(0, .inr (.inl 86)), (1, .inl x1), (2, .inl x2), (3, .inl x3), (5, .inl x5)]) (st' := [.inl (gx_w (x3 - 20)), .inl x2, .inr (.inl 86)]) (m' := m) [((181, .aload_n 0, 1, 0, 0, 0, 0), (0, 0, 0)), ((182, .iload_n 2, 1, 0, 0, 0, 0), (0, 0, 0)), ((183, .iload_n 3, 1, 0, 0, 0, 0), (0, 0, 0)), ((184, .bipush 20, 2, 0, 0, 0, 0), (0, 0, 0)), ((186, .isub, 1, 0, 0, 0, 0), (0, 0, 0))] (by decide +kernel) rfl ?_
      exact hx_call (E := (187, .invokevirtual 364, 3, 244, 0, 7103, 0)) (M' := yp_m244) [.inr (.inl 86), .inl x2, .inl (gx_w (x3 - 20))] [] rfl (by decide +kernel) rfl ⟨rfl, rfl⟩ rfl rfl (hx_mono (h2 c1 c2) (fun r m' h' => hx_pick [] h'))
  · have c1 : x5 < x1 := by have h : ¬ (x1 ≤ x5) := c1; omega
    refine hx_blk (npc := 117) (L' := [(0, .inr (.inl 86)), (1, .inl x1), (2, .inl x2), (3, .inl x3), (5, .inl x5), (6, .inl 0)]) (st' := []) (m' := m) [((114, .iconst 0, 1, 0, 0, 0, 0), (0, 0, 0)), ((115, .istore 6, 2, 0, 0, 0, 0), (0, 0, 0))] (by decide +kernel) rfl ?_
    exact hx_pick [0, 1, 2, 3, 5, 6] (h3 c1)

/-- sold from 117 on -/
theorem hr242_117 {xs : List Int32} {n : Nat} {Q : hQ} {m : gx_M} {x1 x2 x3 x5 x6 : Int}
    (h1 : (8 ≤ x6) → hxn xs n yp_m242 108 [(0, .inr (.inl 86)), (1, .inl x1), (2, .inl x2), (3, .inl x3), (5, .inl (gx_w (x5 + 1)))] [] m Q)
    (h2 : (x6 < 8) → (gx_and (gx_shr x2 x6) 1 = 1) → hxn xs n yp_m224 0 [(0, .inr (.inl 86)), (1, .inl (m 112 (x5).toNat)), (2, .inl x6)] [] m (fun r m' => hxn xs n yp_m242 158 [(0, .inr (.inl 86)), (1, .inl x1), (2, .inl x2), (3, .inl x3), (5, .inl x5), (6, .inl x6)] (hrs r ++ [.inl (gx_w ((gx_w (8 * x5)) + x6)), .inr (.inl 113)]) m' Q))
    (h3 : (x6 < 8) → (¬ (gx_and (gx_shr x2 x6) 1 = 1)) → hxn xs n yp_m242 117 [(0, .inr (.inl 86)), (1, .inl x1), (2, .inl x2), (3, .inl x3), (5, .inl x5), (6, .inl (gx_w (x6 + 1)))] [] (gx_u m 113 (gx_w ((gx_w (8 * x5)) + x6)).toNat 0) Q) : hxn xs (n + 1) yp_m242 117 [(0, .inr (.inl 86)), (1, .inl x1), (2, .inl x2), (3, .inl x3), (5, .inl x5), (6, .inl x6)] [] m Q := by
  refine hx_blks (npc := 121) (L' := [(0, .inr (.inl 86)), (1, .inl x1), (2, .inl x2), (3, .inl x3), (5, .inl x5), (6, .inl x6)]) (st' := [.inl 8, .inl x6]) (m' := m) ((117, .iload 6, 2, 0, 0, 0, 0), (0, 0, 0)) [((119, .bipush 8, 2, 0, 0, 0, 0), (0, 0, 0))] (by decide +kernel) rfl ?_
  refine hx_cmp .ge 169 (by decide +kernel) (fun c1 => ?_) (fun c1 => ?_)
  · have c1 : 8 ≤ x6 := c1
    refine hx_blk (npc := 108) (L' := [(0, .inr (.inl 86)), (1, .inl x1), (2, .inl x2), (3, .inl x3), (5, .inl (gx_w (x5 + 1))), (6, .inl x6)]) (st' := []) (m' := m) [((169, .iinc 5 1, 3, 0, 0, 0, 0), (0, 0, 0)), ((172, .goto (-64), 3, 0, 0, 0, 0), (0, 0, 0))] (by decide +kernel) rfl ?_
    exact hx_pick [0, 1, 2, 3, 5] (h1 c1)
  · have c1 : x6 < 8 := by have h : ¬ (8 ≤ x6) := c1; omega
    refine hx_blk (npc := 139) (L' := [(0, .inr (.inl 86)), (1, .inl x1), (2, .inl x2), (3, .inl x3), (5, .inl x5), (6, .inl x6)]) (st' := [.inl x6, .inl x2, .inl (gx_w ((gx_w (8 * x5)) + x6)), .inr (.inl 113)]) (m' := m) [((124, .aload_n 0, 1, 0, 0, 0, 0), (0, 0, 0)), ((125, .getfield 89, 3, 10, 40, 5153, 0), (1, 86, 113)), ((128, .bipush 8, 2, 0, 0, 0, 0), (0, 0, 0)), ((130, .iload 5, 2, 0, 0, 0, 0), (0, 0, 0)), ((132, .imul, 1, 0, 0, 0, 0), (0, 0, 0)), ((133, .iload 6, 2, 0, 0, 0, 0), (0, 0, 0)), ((135, .iadd, 1, 0, 0, 0, 0), (0, 0, 0)), ((136, .iload_n 2, 1, 0, 0, 0, 0), (0, 0, 0)), ((137, .iload 6, 2, 0, 0, 0, 0), (0, 0, 0))] (by decide +kernel) rfl ?_
    refine hx_call (E := (139, .invokestatic 104, 3, 165, 0, 6035, 0)) (M' := yp_m165) [.inl x2, .inl x6] [.inl (gx_w ((gx_w (8 * x5)) + x6)), .inr (.inl 113)] rfl (by decide +kernel) rfl ⟨rfl, rfl⟩ rfl rfl (hs165 (fun c2 => ?_) (fun c2 => ?_))
    · have c2 : gx_and (gx_shr x2 x6) 1 = 1 := c2
      show hxn xs n yp_m242 142 [(0, .inr (.inl 86)), (1, .inl x1), (2, .inl x2), (3, .inl x3), (5, .inl x5), (6, .inl x6)] [.inl 1, .inl (gx_w ((gx_w (8 * x5)) + x6)), .inr (.inl 113)] m Q
      refine hx_if .eq 161 (by decide +kernel) (fun c3 => ?_) (fun c3 => ?_)
      · have c3 : (1 : Int) = 0 := c3
        exfalso; omega
      · have c3 : (1 : Int) ≠ 0 := c3
        refine hx_blk (npc := 155) (L' := [(0, .inr (.inl 86)), (1, .inl x1), (2, .inl x2), (3, .inl x3), (5, .inl x5), (6, .inl x6)]) (st' := [.inl x6, .inl (m 112 (x5).toNat), .inr (.inl 86), .inl (gx_w ((gx_w (8 * x5)) + x6)), .inr (.inl 113)]) (m' := m) [((145, .aload_n 0, 1, 0, 0, 0, 0), (0, 0, 0)), ((146, .aload_n 0, 1, 0, 0, 0, 0), (0, 0, 0)), ((147, .getfield 86, 3, 10, 39, 5152, 0), (1, 86, 112)), ((150, .iload 5, 2, 0, 0, 0, 0), (0, 0, 0)), ((152, .iaload, 1, 0, 0, 0, 0), (0, 112, 0)), ((153, .iload 6, 2, 0, 0, 0, 0), (0, 0, 0))] (by decide +kernel) rfl ?_
        exact hx_call (E := (155, .invokevirtual 312, 3, 224, 0, 7024, 0)) (M' := yp_m224) [.inr (.inl 86), .inl (m 112 (x5).toNat), .inl x6] [.inl (gx_w ((gx_w (8 * x5)) + x6)), .inr (.inl 113)] rfl (by decide +kernel) rfl ⟨rfl, rfl⟩ rfl rfl (hx_mono (h2 c1 c2) (fun r m' h' => hx_pick [0, 1, 2, 3, 5, 6] h'))
    · have c2 : ¬ (gx_and (gx_shr x2 x6) 1 = 1) := c2
      show hxn xs n yp_m242 142 [(0, .inr (.inl 86)), (1, .inl x1), (2, .inl x2), (3, .inl x3), (5, .inl x5), (6, .inl x6)] [.inl 0, .inl (gx_w ((gx_w (8 * x5)) + x6)), .inr (.inl 113)] m Q
      refine hx_if .eq 161 (by decide +kernel) (fun c3 => ?_) (fun c3 => ?_)
      · have c3 : (0 : Int) = 0 := c3
        refine hx_blk (npc := 117) (L' := [(0, .inr (.inl 86)), (1, .inl x1), (2, .inl x2), (3, .inl x3), (5, .inl x5), (6, .inl (gx_w (x6 + 1)))]) (st' := []) (m' := (gx_u m 113 (gx_w ((gx_w (8 * x5)) + x6)).toNat 0)) [((161, .iconst 0, 1, 0, 0, 0, 0), (0, 0, 0)), ((162, .iastore, 1, 0, 0, 0, 0), (0, 113, 0)), ((163, .iinc 6 1, 3, 0, 0, 0, 0), (0, 0, 0)), ((166, .goto (-49), 3, 0, 0, 0, 0), (0, 0, 0))] (by decide +kernel) rfl ?_
        exact hx_pick [0, 1, 2, 3, 5, 6] (h3 c1 c2)
      · have c3 : (0 : Int) ≠ 0 := c3
        exfalso; omega

/-- sold from 158 on -/
theorem hr242_158 {xs : List Int32} {n : Nat} {Q : hQ} {m : gx_M} {x1 x2 x3 x5 x6 s1 s2 : Int}
    (h1 : hxn xs n yp_m242 117 [(0, .inr (.inl 86)), (1, .inl x1), (2, .inl x2), (3, .inl x3), (5, .inl x5), (6, .inl (gx_w (x6 + 1)))] [] (gx_u m 113 (s1).toNat s2) Q) : hxn xs (n + 1) yp_m242 158 [(0, .inr (.inl 86)), (1, .inl x1), (2, .inl x2), (3, .inl x3), (5, .inl x5), (6, .inl x6)] [.inl s2, .inl s1, .inr (.inl 113)] m Q := by
  refine hx_blks (npc := 117) (L' := [(0, .inr (.inl 86)), (1, .inl x1), (2, .inl x2), (3, .inl x3), (5, .inl x5), (6, .inl (gx_w (x6 + 1)))]) (st' := []) (m' := (gx_u m 113 (s1).toNat s2)) ((158, .goto 4, 3, 0, 0, 0, 0), (0, 0, 0)) [((162, .iastore, 1, 0, 0, 0, 0), (0, 113, 0)), ((163, .iinc 6 1, 3, 0, 0, 0, 0), (0, 0, 0)), ((166, .goto (-49), 3, 0, 0, 0, 0), (0, 0, 0))] (by decide +kernel) rfl ?_
  exact hx_pick [0, 1, 2, 3, 5, 6] h1

/-- sold from 190 on -/
theorem hr242_190 {xs : List Int32} {n : Nat} {Q : hQ} {m : gx_M} {s0 : Int}
    (h1 : Q (some (.inl s0)) m) : hxn xs (n + 1) yp_m242 190 [] [.inl s0] m Q := by
  exact hx_reti (by decide +kernel) h1

/-- sold from 196 on -/
theorem hr242_196 {xs : List Int32} {n : Nat} {Q : hQ} {m : gx_M} {x3 s0 : Int}
    (h1 : (x3 ≠ 10) → hxn xs n yp_m247 0 [(0, .inr (.inl 86)), (1, .inl x3)] [] m (fun r m' => hxn xs n yp_m242 214 [] (hrs r ++ []) m' Q))
    (h2 : (x3 = 10) → Q (some (.inl s0)) m) : hxn xs (n + 1) yp_m242 196 [(0, .inr (.inl 86)), (3, .inl x3)] [.inl s0] m Q := by
  refine hx_blks (npc := 201) (L' := [(0, .inr (.inl 86)), (3, .inl x3), (5, .inl s0)]) (st' := [.inl 10, .inl x3]) (m' := m) ((196, .istore 5, 2, 0, 0, 0, 0), (0, 0, 0)) [((198, .iload_n 3, 1, 0, 0, 0, 0), (0, 0, 0)), ((199, .bipush 10, 2, 0, 0, 0, 0), (0, 0, 0))] (by decide +kernel) rfl ?_
  refine hx_cmp .ne 209 (by decide +kernel) (fun c1 => ?_) (fun c1 => ?_)
  · have c1 : x3 ≠ 10 := c1
    refine hx_blk (npc := 211) (L' := [(0, .inr (.inl 86)), (3, .inl x3), (5, .inl s0)]) (st' := [.inl x3, .inr (.inl 86)]) (m' := m) [((209, .aload_n 0, 1, 0, 0, 0, 0), (0, 0, 0)), ((210, .iload_n 3, 1, 0, 0, 0, 0), (0, 0, 0))] (by decide +kernel) rfl ?_
    exact hx_call (E := (211, .invokevirtual 358, 3, 247, 0, 7115, 0)) (M' := yp_m247) [.inr (.inl 86), .inl x3] [] rfl (by decide +kernel) rfl ⟨rfl, rfl⟩ rfl rfl (hx_mono (h1 c1) (fun r m' h' => hx_pick [] h'))
  · have c1 : x3 = 10 := by have h : ¬ (x3 ≠ 10) := c1; omega
    refine hx_blk (npc := 214) (L' := [(0, .inr (.inl 86)), (3, .inl x3), (5, .inl s0)]) (st' := [.inl s0]) (m' := m) [((204, .iload 5, 2, 0, 0, 0, 0), (0, 0, 0)), ((206, .goto 8, 3, 0, 0, 0, 0), (0, 0, 0))] (by decide +kernel) rfl ?_
    exact hx_reti (by decide +kernel) (h2 c1)

/-- sold from 214 on -/
theorem hr242_214 {xs : List Int32} {n : Nat} {Q : hQ} {m : gx_M} {s0 : Int}
    (h1 : Q (some (.inl s0)) m) : hxn xs (n + 1) yp_m242 214 [] [.inl s0] m Q := by
  exact hx_reti (by decide +kernel) h1
end
section
/-! sold: the most that a row of years brings -/
def dl (L p : Nat) : Nat := L &&& (2 ^ 32 - (2 ^ p + 1))
def cmpl (P S : Nat) : Nat := P &&& (2 ^ 32 - (S + 1))
theorem pw_lt {p : Nat} (h : p ≤ 8) : 2 ^ p < 2 ^ 31 := Nat.pow_lt_pow_right (by decide) (by omega)
theorem dl_bit {L p j : Nat} (hp : p ≤ 8) (hj : j < 31) : (dl L p).testBit j = (L.testBit j && !(decide (p = j))) := by
  unfold dl
  rw [hnot_bit (pw_lt hp) hj, Nat.testBit_two_pow]
theorem dl_lt {L p : Nat} (h : L < 256) : dl L p < 256 := Nat.lt_of_le_of_lt Nat.and_le_left h
theorem cmpl_lt {P S : Nat} (h : P < 256) : cmpl P S < 256 := Nat.lt_of_le_of_lt Nat.and_le_left h
theorem cmpl_bit {P S j : Nat} (hS : S < 256) (hj : j < 31) : (cmpl P S).testBit j = (P.testBit j && !(S.testBit j)) := hnot_bit (by omega) hj
theorem bit8 {X j : Nat} (hX : X < 256) (h : 8 ≤ j) : X.testBit j = false := Nat.testBit_lt_two_pow (Nat.lt_of_lt_of_le hX (show 2 ^ 8 ≤ 2 ^ j from Nat.pow_le_pow_right (by decide) h))
theorem ext8 {A B : Nat} (hA : A < 256) (hB : B < 256) (h : ∀ j, j < 8 → A.testBit j = B.testBit j) : A = B := Nat.eq_of_testBit_eq (fun j => by
  rcases Nat.lt_or_ge j 8 with q | q
  · exact h j q
  · rw [bit8 hA q, bit8 hB q])
theorem cmpl_put {P S p : Nat} (hP : P < 256) (hS : S < 256) (hp : p < 8) : cmpl P (S ||| 2 ^ p) = dl (cmpl P S) p := by
  have l : S ||| 2 ^ p < 256 := Nat.or_lt_two_pow (n := 8) hS (p2_lt hp)
  refine ext8 (cmpl_lt hP) (dl_lt (cmpl_lt hP)) (fun j hj => ?_)
  rw [cmpl_bit l (by omega), dl_bit (by omega) (by omega), cmpl_bit hS (by omega), Nat.testBit_or, Nat.testBit_two_pow]
  cases P.testBit j <;> cases S.testBit j <;> cases decide (p = j) <;> rfl
theorem cmpl_0 {P : Nat} (hP : P < 256) : cmpl P 0 = P := by
  refine ext8 (cmpl_lt hP) hP (fun j hj => ?_)
  rw [cmpl_bit (by decide) (by omega), Nat.zero_testBit, Bool.not_false, Bool.and_true]
theorem dl_8 {L : Nat} (h : L < 256) : dl L 8 = L := by
  refine ext8 (dl_lt h) h (fun j hj => ?_)
  rw [dl_bit (by omega) (by omega), decide_eq_false (by omega), Bool.not_false, Bool.and_true]
def sPw (P L : Nat) : Prop := ∀ q, q < 8 → L.testBit q = true → P.testBit q = true
theorem sPw_dl {P L p : Nat} (h : sPw P L) (hp : p ≤ 8) : sPw P (dl L p) := fun q hq hb => by
  rw [dl_bit hp (by omega), Bool.and_eq_true] at hb
  exact h q hq hb.1
theorem sPw_r {P : Nat} : sPw P P := fun _ _ h => h
def wB (V : Nat → Nat → Nat) (ow : Nat → Int) (G : Nat → Int) (i L p : Nat) : Int := if L.testBit p = true ∧ ow i ≠ (p : Int) then (V i p : Int) + G (dl L p) else -1
def mx (b : Int) (w : Nat → Int) : Nat → Int
  | 0 => b
  | p + 1 => if mx b w p < w p then w p else mx b w p
theorem mx_s {b : Int} {w : Nat → Int} {p : Nat} : mx b w (p + 1) = if mx b w p < w p then w p else mx b w p := rfl
theorem mx_le {b X : Int} {w : Nat → Int} : ∀ k, mx b w k ≤ X ↔ b ≤ X ∧ ∀ p, p < k → w p ≤ X
  | 0 => ⟨fun h => ⟨h, fun p hp => absurd hp (Nat.not_lt_zero _)⟩, fun h => h.1⟩
  | k + 1 => by
    have ih := mx_le (b := b) (X := X) (w := w) k
    rw [mx_s]
    constructor
    · intro h
      have h2 : mx b w k ≤ X ∧ w k ≤ X := by
        split at h <;> omega
      obtain ⟨i1, i2⟩ := ih.mp h2.1
      refine ⟨i1, fun p hp => ?_⟩
      by_cases e : p = k
      · rw [e]
        exact h2.2
      · exact i2 p (by omega)
    · rintro ⟨h1, h2⟩
      have a := ih.mpr ⟨h1, fun p hp => h2 p (by omega)⟩
      have c := h2 k (by omega)
      split <;> omega
theorem mx_at {b : Int} {w : Nat → Int} : ∀ k, mx b w k = b ∨ ∃ p, p < k ∧ mx b w k = w p
  | 0 => .inl rfl
  | k + 1 => by
    rw [mx_s]
    split
    · exact .inr ⟨k, by omega, rfl⟩
    · rcases mx_at (b := b) (w := w) k with e | ⟨p, hp, e⟩
      · exact .inl e
      · exact .inr ⟨p, by omega, e⟩
theorem mx_ref {b : Int} {w : Nat → Int} {k : Nat} (hb : 0 ≤ b) : (if mx 0 w k < b then b else mx 0 w k) = mx b w k := by
  have a := (mx_le (b := b) (X := mx b w k) (w := w) k).mp (Int.le_refl _)
  have c := (mx_le (b := 0) (X := mx 0 w k) (w := w) k).mp (Int.le_refl _)
  have d : mx 0 w k ≤ mx b w k := (mx_le k).mpr ⟨by omega, a.2⟩
  split
  · have : mx b w k ≤ b := (mx_le k).mpr ⟨Int.le_refl _, fun p hp => by have := c.2 p hp; omega⟩
    omega
  · have : mx b w k ≤ mx 0 w k := (mx_le k).mpr ⟨by omega, c.2⟩
    omega
def fSo (V : Nat → Nat → Nat) (ow : Nat → Int) : Nat → Nat → Nat → Int
  | 0, _, _ => 0
  | d + 1, i, L => mx (fSo V ow d (i + 1) L) (wB V ow (fSo V ow d (i + 1)) i L) 8
section PS
variable {V : Nat → Nat → Nat} {ow : Nat → Int}
theorem fSo_bd (hV : ∀ i p, V i p ≤ 999) : ∀ d i L, 0 ≤ fSo V ow d i L ∧ fSo V ow d i L ≤ 999 * (d : Int)
  | 0, _, _ => ⟨Int.le_refl _, Int.le_refl _⟩
  | d + 1, i, L => by
    have ih := fSo_bd hV d (i + 1)
    show 0 ≤ mx _ _ 8 ∧ mx _ _ 8 ≤ 999 * ((d + 1 : Nat) : Int)
    have a := (mx_le (b := fSo V ow d (i + 1) L) (X := mx (fSo V ow d (i + 1) L) (wB V ow (fSo V ow d (i + 1)) i L) 8) (w := wB V ow (fSo V ow d (i + 1)) i L) 8).mp (Int.le_refl _)
    have b := ih L
    refine ⟨by omega, (mx_le 8).mpr ⟨by omega, fun p _ => ?_⟩⟩
    unfold wB
    split
    · have v := hV i p
      have g := ih (dl L p)
      omega
    · omega
theorem wB_t {G : Nat → Int} {i L p : Nat} (h : L.testBit p = true) (h2 : ow i ≠ (p : Int)) : wB V ow G i L p = (V i p : Int) + G (dl L p) := if_pos ⟨h, h2⟩
theorem wB_f {G : Nat → Int} {i L p : Nat} (h : ¬ (L.testBit p = true ∧ ow i ≠ (p : Int))) : wB V ow G i L p = -1 := if_neg h
def pk (w : Nat → Int) (v : Int) : Nat → Nat → Nat
  | _, 0 => 8
  | k, d + 1 => if w k = v then k else pk w v (k + 1) d
theorem pk_t {w : Nat → Int} {v : Int} {k d : Nat} (h : w k = v) : pk w v k (d + 1) = k := if_pos h
theorem pk_f {w : Nat → Int} {v : Int} {k d : Nat} (h : ¬ w k = v) : pk w v k (d + 1) = pk w v (k + 1) d := if_neg h
theorem pkf_le {w : Nat → Int} {v : Int} : ∀ d k, k + d = 8 → pk w v k d ≤ 8 ∧ (pk w v k d < 8 → w (pk w v k d) = v)
  | 0, _, _ => ⟨Nat.le_refl _, fun h => absurd h (Nat.lt_irrefl _)⟩
  | d + 1, k, h => by
    by_cases c : w k = v
    · rw [pk_t c]
      exact ⟨by omega, fun _ => c⟩
    · rw [pk_f c]
      exact pkf_le d (k + 1) (by omega)
/-- who is left, and who gets the year at a place -/
def gLf (V : Nat → Nat → Nat) (ow : Nat → Int) (n P : Nat) : Nat → Nat
  | 0 => P
  | i + 1 => dl (gLf V ow n P i) (pk (wB V ow (fSo V ow (n - 1 - i) (i + 1)) i (gLf V ow n P i)) (fSo V ow (n - i) i (gLf V ow n P i)) 0 8)
def gGt (V : Nat → Nat → Nat) (ow : Nat → Int) (n P i : Nat) : Nat := pk (wB V ow (fSo V ow (n - 1 - i) (i + 1)) i (gLf V ow n P i)) (fSo V ow (n - i) i (gLf V ow n P i)) 0 8
theorem gLf_s {n P i : Nat} : gLf V ow n P (i + 1) = dl (gLf V ow n P i) (gGt V ow n P i) := rfl
theorem gGt_le {n P i : Nat} : gGt V ow n P i ≤ 8 := (pkf_le 8 0 rfl).1
theorem gLf_ok {n P : Nat} (hP : P < 256) : ∀ i, gLf V ow n P i < 256 ∧ sPw P (gLf V ow n P i)
  | 0 => ⟨hP, sPw_r⟩
  | i + 1 => by
    obtain ⟨a, b⟩ := gLf_ok hP i
    rw [gLf_s]
    exact ⟨dl_lt a, sPw_dl b gGt_le⟩
theorem gGt_in (hV : ∀ i p, V i p ≤ 999) {n P i : Nat} (h : gGt V ow n P i < 8) : (gLf V ow n P i).testBit (gGt V ow n P i) = true ∧ ow i ≠ ((gGt V ow n P i : Nat) : Int) := by
  have e := (pkf_le (w := wB V ow (fSo V ow (n - 1 - i) (i + 1)) i (gLf V ow n P i)) (v := fSo V ow (n - i) i (gLf V ow n P i)) 8 0 rfl).2 h
  have e : wB V ow (fSo V ow (n - 1 - i) (i + 1)) i (gLf V ow n P i) (gGt V ow n P i) = fSo V ow (n - i) i (gLf V ow n P i) := e
  have b := fSo_bd (ow := ow) hV (n - i) i (gLf V ow n P i)
  rcases Classical.em ((gLf V ow n P i).testBit (gGt V ow n P i) = true ∧ ow i ≠ ((gGt V ow n P i : Nat) : Int)) with q | q
  · exact q
  · rw [wB_f q] at e
    omega
def oS (V : Nat → Nat → Nat) (ow : Nat → Int) (n P p : Nat) : Nat → Int
  | 0 => 0
  | i + 1 => if gGt V ow n P i = p then (V i p : Int) else oS V ow n P p i
def oT (V : Nat → Nat → Nat) (ow : Nat → Int) (n P p : Nat) : Nat → Int
  | 0 => 0
  | i + 1 => oT V ow n P p i + (if gGt V ow n P i = p then (V i p : Int) else 0)
theorem oS_eq (hV : ∀ i p, V i p ≤ 999) {n P p : Nat} (hp : p < 8) : ∀ i, ((gLf V ow n P i).testBit p = true → oS V ow n P p i = 0 ∧ oT V ow n P p i = 0) ∧ oS V ow n P p i = oT V ow n P p i
  | 0 => ⟨fun _ => ⟨rfl, rfl⟩, rfl⟩
  | i + 1 => by
    obtain ⟨a, b⟩ := oS_eq hV (n := n) (P := P) hp i
    rw [gLf_s, dl_bit gGt_le (by omega)]
    show (((gLf V ow n P i).testBit p && !(decide (gGt V ow n P i = p))) = true → (if gGt V ow n P i = p then (V i p : Int) else oS V ow n P p i) = 0 ∧ oT V ow n P p i + (if gGt V ow n P i = p then (V i p : Int) else 0) = 0) ∧ (if gGt V ow n P i = p then (V i p : Int) else oS V ow n P p i) = oT V ow n P p i + (if gGt V ow n P i = p then (V i p : Int) else 0)
    by_cases e : gGt V ow n P i = p
    · have hi := (gGt_in (ow := ow) hV (n := n) (P := P) (i := i) (by omega)).1
      rw [e] at hi
      obtain ⟨z1, z2⟩ := a hi
      rw [if_pos e, if_pos e, z2, decide_eq_true e]
      exact ⟨fun q => (by rw [Bool.not_true, Bool.and_false] at q; cases q), by omega⟩
    · rw [if_neg e, if_neg e, decide_eq_false e, Bool.not_false, Bool.and_true]
      refine ⟨fun q => ?_, by omega⟩
      have := a q
      omega
theorem oS_bd (hV : ∀ i p, V i p ≤ 999) {n P p : Nat} : ∀ i, 0 ≤ oS V ow n P p i ∧ oS V ow n P p i ≤ 999
  | 0 => ⟨Int.le_refl _, by show (0 : Int) ≤ 999; decide⟩
  | i + 1 => by
    have ih := oS_bd hV (n := n) (P := P) (p := p) i
    show 0 ≤ (if gGt V ow n P i = p then (V i p : Int) else oS V ow n P p i) ∧ (if gGt V ow n P i = p then (V i p : Int) else oS V ow n P p i) ≤ 999
    have := hV i p
    split <;> omega
def sAn (V : Nat → Nat → Nat) (ow : Nat → Int) (n P : Nat) (w : Int) : Int := if 20 ≤ w then fSo V ow n 0 (dl P (w - 20).toNat) - (fSo V ow n 0 P - oS V ow n P (w - 20).toNat n) else if w = 10 then fSo V ow n 0 P else ((gGt V ow n P w.toNat : Nat) : Int)
end PS
end
section
/-! rows of years: read by both -/
def rwOk (s T : Nat → Int) (k : Nat) : Prop := ∀ i, i < k → aYr s (T i) ∧ ¬ 0 ≤ s (280 + (T i).toNat)
def rwDs (T : Nat → Int) (k : Nat) : Prop := ∀ i j, i < k → j < i → T j ≠ T i
def seen (T : Nat → Int) (i y : Nat) : Bool := hAnyB (fun j => decide (T j = (y : Int))) i
theorem seen_iff {T : Nat → Int} {i y : Nat} : seen T i y = true ↔ ∃ j, j < i ∧ T j = (y : Int) := by
  unfold seen
  rw [hAnyB_iff]
  constructor
  · rintro ⟨j, h1, h2⟩
    exact ⟨j, h1, of_decide_eq_true h2⟩
  · rintro ⟨j, h1, h2⟩
    exact ⟨j, h1, decide_eq_true h2⟩
section RW
variable {xs : List Int32} {n : Nat} {Q : hQ} {m m0 : gx_M} {s T : Nat → Int} {N : Nat}
theorem rwOk_nat (h : rwOk s T N) {i : Nat} (hi : i < N) : ∃ Y : Nat, T i = (Y : Int) ∧ Y < 40 ∧ s (440 + Y) = 1 ∧ ¬ 0 ≤ s (280 + Y) := by
  obtain ⟨h1, h2⟩ := h i hi
  obtain ⟨Y, e, hY, ht⟩ := aYr_nat h1
  rw [e, Int.toNat_natCast] at h2
  exact ⟨Y, e, hY, ht, h2⟩
theorem rwOk_s {k : Nat} (h : rwOk s T k) (h1 : aYr s (T k)) (h2 : ¬ 0 ≤ s (280 + (T k).toNat)) : rwOk s T (k + 1) := fun i hi => by
  by_cases e : i = k
  · rw [e]
    exact ⟨h1, h2⟩
  · exact h i (by omega)
def cRf (m0 m : gx_M) : Prop := ∀ c, c ≠ 81 → c ≠ 82 → m c = m0 c
theorem cRf_B (h : cRf m0 m) (hB : sBk 5 s m0) : sBk 5 s m := sBk_c (fun c h1 h2 => h c (by omega) (by omega)) hB
theorem c109 (hs : sOK s) (hB : sBk 5 s m0) (hN : N ≤ 8) (x1 : m0 3 1 = (N : Int)) (x2 : ∀ k, k < N → m0 4 k = T k) (h1 : ∀ m', cRf m0 m' → m' 81 1 = (N : Int) → (∀ i, i < N → m' 82 i = T i) → rwOk s T N → Q (some (.inl 1)) m') (h0 : ∀ m', cRf m0 m' → ¬ rwOk s T N → Q (some (.inl 0)) m') : hxn xs n yp_m109 0 [(0, .inr (.inl 81)), (1, .inr (.inl 5)), (2, .inr (.inl 3))] [] m0 Q := by
  refine hx_dn (hr109_0 ?_)
  rw [x1, if_neg (by omega)]
  refine hloop (N := N) (P := fun i => ∀ m1 : gx_M, cRf m0 m1 → m1 81 1 = (N : Int) → (∀ j, j < i → m1 82 j = T j) → rwOk s T i → hxn xs n yp_m109 15 [(0, .inr (.inl 81)), (1, .inr (.inl 5)), (2, .inr (.inl 3)), (3, .inl (i : Int))] [] m1 Q) (fun m1 f g1 g2 g3 => ?_) (fun i hi ih m1 f g1 g2 g3 => ?_) 0 (Nat.zero_le _) _ (fun c c1 c2 => gx_u_off c1) gx_u_self (fun j hj => absurd hj (Nat.not_lt_zero _)) (fun j hj => absurd hj (Nat.not_lt_zero _))
  · exact hx_dn (hr109_15 (fun _ => h1 m1 f g1 g2 g3) (fun c => absurd c (by omega)) (fun c => absurd c (by omega)))
  · refine hx_dn (hr109_15 (fun c => absurd c (by omega)) (fun _ c => absurd c (by omega)) (fun _ _ => ?_))
    refine cs25 (p := i) (T := T) (L := N) (by rw [f 3 (by decide) (by decide)]; exact x1) (fun k hk => by rw [f 4 (by decide) (by decide)]; exact x2 k hk) (by omega) ?_
    rw [tx_eq hi]
    obtain ⟨M, hM⟩ : ∃ M, M = gx_u m1 82 i (T i) := ⟨_, rfl⟩
    have fM : cRf m0 M := fun c c1 c2 => by
      rw [hM, gx_u_off c2]
      exact f c c1 c2
    have hBM := cRf_B fM hB
    have no : ¬ (aYr s (T i) ∧ ¬ 0 ≤ s (280 + (T i).toNat)) → Q (some (.inl 0)) M := fun c => h0 M fM (fun k => c (k i hi))
    refine hx_dn (hr109_39 (fun c d => ?_) (fun c d => ?_) (fun c => ?_))
    · rw [Int.toNat_natCast, ← hM] at c d ⊢
      have e : M 82 i = T i := by rw [hM, gx_u_self]
      rw [e] at c d
      obtain ⟨Y, eY, hY, ht⟩ := aYr_nat ((cYr_iff hBM).mp c)
      refine no (fun q => q.2 ?_)
      rw [eY] at d ⊢
      rw [Int.toNat_natCast]
      exact ((cPw5_iff hs hBM hY).mp d).2
    · rw [Int.toNat_natCast, ← hM] at c d ⊢
      have e : M 82 i = T i := by rw [hM, gx_u_self]
      rw [e] at c d
      have ya := (cYr_iff hBM).mp c
      obtain ⟨Y, eY, hY, ht⟩ := aYr_nat ya
      rw [ew_u (by omega)]
      refine ih M fM ?_ (fun j hj => ?_) (rwOk_s g3 ya (fun q => d ?_))
      · rw [hM, gx_u_off (by decide)]
        exact g1
      · by_cases q : j = i
        · subst q
          exact e
        · rw [hM, gx_u_ne (by omega)]
          exact g2 j (by omega)
      · rw [eY]
        rw [eY, Int.toNat_natCast] at q
        exact (cPw5_iff hs hBM hY).mpr ⟨ht, q⟩
    · rw [Int.toNat_natCast, ← hM] at c ⊢
      have e : M 82 i = T i := by rw [hM, gx_u_self]
      rw [e] at c
      exact no (fun q => c ((cYr_iff hBM).mpr q.1))
theorem c108 (hs : sOK s) (hB : sBk 5 s m0) (hN : N ≤ 8) (x1 : m0 3 1 = (N : Int)) (x2 : ∀ k, k < N → m0 4 k = T k) (h1 : ∀ m', cRf m0 m' → m' 81 1 = (N : Int) → (∀ i, i < N → m' 82 i = T i) → rwOk s T N → rwDs T N → Q (some (.inl 1)) m') (h0 : ∀ m', cRf m0 m' → ¬ (rwOk s T N ∧ rwDs T N) → Q (some (.inl 0)) m') : hxn xs n yp_m108 0 [(0, .inr (.inl 81)), (1, .inr (.inl 5)), (2, .inr (.inl 3))] [] m0 Q := by
  refine hx_dn (hr108_0 (c109 hs hB hN x1 x2 (fun m1 f g1 g2 g3 => hx_dn (hr108_6 (fun _ => ?_) (fun c => absurd c (by decide)))) (fun m1 f k => hx_dn (hr108_6 (fun c => absurd rfl c) (fun _ => h0 m1 f (fun q => k q.1))))))
  have z0 : (0 : Int) = ((hmask (seen T 0) 40 : Nat) : Int) := by
    rw [hmask_z (f := seen T 0) 40 (fun j _ => rfl)]
    rfl
  rw [z0]
  refine hloop (N := N) (P := fun i => rwDs T i → hxn xs n yp_m108 16 [(0, .inr (.inl 81)), (3, .inr (.inr ((hmask (seen T i) 40 : Nat) : Int))), (5, .inl (i : Int))] [] m1 Q) (fun q => hx_dn (hr108_16 (fun _ => h1 m1 f g1 g2 g3 q) (fun c => absurd c (by omega)) (fun c => absurd c (by omega)) (fun c => absurd c (by omega)))) (fun i hi ih q => ?_) 0 (Nat.zero_le _) (fun i j hi => absurd hi (Nat.not_lt_zero _))
  obtain ⟨Y, eY, hY, ht, hp⟩ := rwOk_nat g3 hi
  have e82 : m1 82 ((i : Int)).toNat = (Y : Int) := by
    rw [Int.toNat_natCast, g2 i hi]
    exact eY
  refine hx_dn (hr108_16 (fun c => absurd c (by omega)) (fun _ c => absurd c (by omega)) (fun _ _ c => ?_) (fun _ _ c => ?_))
  · rw [e82, hmask_test hY] at c
    have sf : ¬ seen T i Y = true := fun k => by
      rw [if_pos k] at c
      cases c
    rw [e82, hmask_put hY, ew_u (by omega)]
    have ee : hmask (fun j => seen T i j || decide (j = Y)) 40 = hmask (seen T (i + 1)) 40 := hmask_ext 40 (fun j _ => by
      show (seen T i j || decide (j = Y)) = (seen T i j || decide (T i = (j : Int)))
      congr 1
      exact decide_eq_decide.mpr ⟨fun h => by omega, fun h => by omega⟩)
    rw [ee]
    refine ih (fun a b ha hb => ?_)
    by_cases e : a = i
    · subst e
      intro k
      exact sf (seen_iff.mpr ⟨b, hb, by omega⟩)
    · exact q a b (by omega) hb
  · rw [e82, hmask_test hY] at c
    have st : seen T i Y = true := by
      split at c
      · assumption
      · exact absurd rfl c
    obtain ⟨j, hj, ej⟩ := seen_iff.mp st
    exact h0 m1 f (fun k => k.2 i j hi hj (by omega))
/-! the reference -/
def rRf (m0 m : gx_M) : Prop := (∀ c, c ≠ 86 → c ≠ 112 → m c = m0 c) ∧ ∀ k, k ≠ 37 → m 86 k = m0 86 k
theorem r243 (hs : sOK (m0 87)) (hN : N ≤ 8) (hT : ∀ k, k < N → gx_and (m0 90 k) 255 = T k) (h1 : ∀ m', rRf m0 m' → m' 86 37 = (N : Int) → (∀ i, i < N → m' 112 i = T i) → rwOk (m0 87) T N → rwDs T N → Q (some (.inl 1)) m') (h0 : ∀ m', rRf m0 m' → ¬ (rwOk (m0 87) T N ∧ rwDs T N) → Q (some (.inl 0)) m') : hxn xs n yp_m243 0 [(0, .inr (.inl 86)), (1, .inl (N : Int))] [] m0 Q := by
  refine hx_dn (hr243_0 ?_)
  refine hloop (N := N) (P := fun i => ∀ m1 : gx_M, rRf m0 m1 → m1 86 37 = (N : Int) → (∀ j, j < i → m1 112 j = T j) → rwOk (m0 87) T i → rwDs T i → hxn xs n yp_m243 7 [(0, .inr (.inl 86)), (1, .inl (N : Int)), (2, .inl (i : Int))] [] m1 Q) (fun m1 f g1 g2 g3 g4 => hx_dn (hr243_7 (fun _ => h1 m1 f g1 g2 g3 g4) (fun c => absurd c (by omega)) (fun c => absurd c (by omega)) (fun c => absurd c (by omega)))) (fun i hi ih m1 f g1 g2 g3 g4 => ?_) 0 (Nat.zero_le _) _ ⟨fun c c1 c2 => gx_u_off c1, fun k hk => gx_u_ne (by omega)⟩ gx_u_self (fun j hj => absurd hj (Nat.not_lt_zero _)) (fun j hj => absurd hj (Nat.not_lt_zero _)) (fun j k hj => absurd hj (Nat.not_lt_zero _))
  have e90 : gx_and (m1 90 ((i : Int)).toNat) 255 = T i := by
    rw [Int.toNat_natCast, f.1 90 (by decide) (by decide)]
    exact hT i hi
  have e87 : m1 87 = m0 87 := f.1 87 (by decide) (by decide)
  refine hx_dn (hr243_7 (fun c => absurd c (by omega)) (fun _ c d => ?_) (fun _ c d => ?_) (fun _ c => ?_))
  · rw [e90, e87] at c d
    obtain ⟨Y, eY, hY, ht⟩ := aYr_nat c
    refine h0 m1 f (fun k => (k.1 i hi).2 ?_)
    rw [eY] at d ⊢
    rw [Int.toNat_natCast]
    unfold aPw at d
    rw [w280 hY] at d
    exact d
  · rw [e90, e87] at c d
    obtain ⟨Y, eY, hY, ht⟩ := aYr_nat c
    have np : ¬ 0 ≤ m0 87 (280 + (T i).toNat) := fun q => d (by
      rw [eY] at q ⊢
      rw [Int.toNat_natCast] at q
      unfold aPw
      rw [w280 hY]
      exact q)
    rw [e90]
    refine hloop (N := i) (P := fun j => (∀ b, b < j → T b ≠ T i) → hxn xs n yp_m243 44 [(0, .inr (.inl 86)), (1, .inl (N : Int)), (2, .inl (i : Int)), (3, .inl (T i)), (4, .inl (j : Int))] [] m1 Q) (fun q => ?_) (fun j hj ih2 q => ?_) 0 (Nat.zero_le _) (fun b hb => absurd hb (Nat.not_lt_zero _))
    · refine hx_dn (hr243_44 (fun _ => ?_) (fun c => absurd c (by omega)) (fun c => absurd c (by omega)))
      rw [ew_u (by omega), Int.toNat_natCast]
      refine ih _ ⟨fun c c1 c2 => by rw [gx_u_off c2]; exact f.1 c c1 c2, fun k hk => by rw [gx_u_off (by decide)]; exact f.2 k hk⟩ (by rw [gx_u_off (by decide)]; exact g1) (fun j hj => ?_) (rwOk_s g3 c np) (fun a b ha hb => ?_)
      · by_cases e : j = i
        · subst e
          exact gx_u_self
        · rw [gx_u_ne (by omega)]
          exact g2 j (by omega)
      · by_cases e : a = i
        · subst e
          exact q b hb
        · exact g4 a b (by omega) hb
    · refine hx_dn (hr243_44 (fun c => absurd c (by omega)) (fun _ c => ?_) (fun _ c => ?_))
      · rw [Int.toNat_natCast, g2 j hj] at c
        rw [ew_u (by omega)]
        refine ih2 (fun b hb => ?_)
        by_cases e : b = j
        · subst e
          exact c
        · exact q b (by omega)
      · rw [Int.toNat_natCast, g2 j hj] at c
        exact h0 m1 f (fun k => k.2 i j hi hj c)
  · rw [e90, e87] at c
    exact h0 m1 f (fun k => c (k.1 i hi).1)
end RW
end
section
/-! sold, by the class: what each is worth, the most of all rows, who gets what -/
theorem lClip_999 (o : Option Int) : 0 ≤ lClip 999 o ∧ lClip 999 o ≤ 999 := by
  cases o with
  | none => exact ⟨Int.le_refl _, by decide⟩
  | some v =>
    unfold lClip
    dsimp only
    split
    · omega
    · split <;> omega
def vW (W : (Int → Int) → Int → Option Int) (s T : Nat → Int) (i p : Nat) : Nat := (lClip 999 (W (env1 s (T i).toNat (p : Int) 0) 118)).toNat
def oW (s T : Nat → Int) (i : Nat) : Int := s (240 + (T i).toNat)
theorem vW_le {W : (Int → Int) → Int → Option Int} {s T : Nat → Int} (i p : Nat) : vW W s T i p ≤ 999 := by
  have := lClip_999 (W (env1 s (T i).toNat (p : Int) 0) 118)
  unfold vW
  omega
theorem vW_eq {W : (Int → Int) → Int → Option Int} {s T : Nat → Int} {i p : Nat} : lClip 999 (W (env1 s (T i).toNat (p : Int) 0) 118) = ((vW W s T i p : Nat) : Int) := (Int.toNat_of_nonneg (lClip_999 _).1).symm
def vS (V : Nat → Nat → Nat) (ow : Nat → Int) (P i p : Nat) : Int := if P.testBit p = true ∧ ow i ≠ (p : Int) then (V i p : Int) else -1
section SL
variable {xs : List Int32} {n : Nat} {Q : hQ} {m m0 : gx_M} {s T : Nat → Int} {N P : Nat} {W : (Int → Int) → Int → Option Int} {V : Nat → Nat → Nat} {ow : Nat → Int}
def cVf (m0 m : gx_M) : Prop := ∀ c k, c ≠ 51 → ¬ (c = 44 ∧ 9 ≤ k ∧ k ≤ 11) → c ≠ 83 → c ≠ 84 → c ≠ 85 → m c k = m0 c k
theorem cVf_B (h : cVf m0 m) (hB : sBk 5 s m0) : sBk 5 s m := sBk_c (fun c h1 h2 => funext (fun k => h c k (by omega) (by omega) (by omega) (by omega) (by omega))) hB
theorem cVf_L (h : cVf m0 m) (hL : lawR xs W m0) : lawR xs W m := lawR_c (hPL_of (fun c k hc => h c k (by omega) (by omega) (by omega) (by omega) (by omega))) hL
theorem gw8 {i p : Nat} (hi : i < 8) (hp : p < 8) : (gx_w ((gx_w ((i : Int) * 8)) + (p : Int))).toNat = 8 * i + p := by
  rw [gx_w_id (x := (i : Int) * 8) (by omega) (by omega), gx_w_id (by omega) (by omega)]
  omega
theorem gw256 {i L : Nat} (hi : i ≤ 6) (hL : L < 256) : gx_w ((gx_w ((i : Int) * 256)) + (L : Int)) = ((256 * i + L : Nat) : Int) := by
  rw [gx_w_id (x := (i : Int) * 256) (by omega) (by omega), gx_w_id (by omega) (by omega)]
  omega
theorem c110v (hL : lawR xs W m0) (hs : sOK s) (hB : sBk 5 s m0) (hN : N ≤ 6) (hP : P < 256) (x1 : m0 81 1 = (N : Int)) (x2 : ∀ i, i < N → m0 82 i = T i) (hR : rwOk s T N) (h : ∀ m', cVf m0 m' → (∀ i p, i < N → p < 8 → m' 83 (8 * i + p) = vS (vW W s T) (oW s T) P i p) → hxn xs n yp_m110 118 [(0, .inr (.inl 81)), (3, .inl (P : Int)), (4, .inl (N : Int))] [] m' Q) : hxn xs n yp_m110 0 [(0, .inr (.inl 81)), (1, .inr (.inl 5)), (2, .inr (.inl 44)), (3, .inl (P : Int))] [] m0 Q := by
  refine hx_dn (hr110_0 ?_)
  refine hloop (N := N) (P := fun i => ∀ m1 : gx_M, cVf m0 m1 → (∀ a p, a < i → p < 8 → m1 83 (8 * a + p) = vS (vW W s T) (oW s T) P a p) → hxn xs n yp_m110 3 [(0, .inr (.inl 81)), (1, .inr (.inl 5)), (2, .inr (.inl 44)), (3, .inl (P : Int)), (4, .inl (i : Int))] [] m1 Q) (fun m1 f g => ?_) (fun i hi ih m1 f g => ?_) 0 (Nat.zero_le _) m0 (fun _ _ _ _ _ _ _ => rfl) (fun a p ha => absurd ha (Nat.not_lt_zero _))
  · have e : m1 81 1 = (N : Int) := by rw [f 81 1 (by decide) (by decide) (by decide) (by decide) (by decide)]; exact x1
    refine hx_dn (hr110_3 (fun _ => ?_) (fun c => absurd c (by omega)) (fun c => absurd c (by omega)))
    rw [e]
    exact h m1 f g
  · have e : m1 81 1 = (N : Int) := by rw [f 81 1 (by decide) (by decide) (by decide) (by decide) (by decide)]; exact x1
    have e82 : ∀ M : gx_M, cVf m0 M → M 82 ((i : Int)).toNat = T i := fun M fM => by
      rw [Int.toNat_natCast, fM 82 i (by decide) (by omega) (by decide) (by decide) (by decide)]
      exact x2 i hi
    obtain ⟨Y, eY, hY, ht, hpw⟩ := rwOk_nat hR hi
    refine hx_dn (hr110_3 (fun c => absurd c (by omega)) (fun _ c => absurd c (by omega)) (fun _ _ => ?_))
    have hB1 := cVf_B f hB
    have eo : oW s T i = s (240 + Y) := by
      unfold oW
      rw [eY, Int.toNat_natCast]
    refine hx_dn (hr111_0 (fun c => absurd c (by omega)) (fun _ c => absurd c (by omega)) (fun _ _ _ => ?_) (fun _ _ c => absurd (by rw [e82 m1 f, eY]; exact (cY_iff hB1 hY).mpr ht) c))
    rw [e82 m1 f, eY, Int.toNat_natCast, sB5_own hB1 Y hY]
    refine hx_dn (hr110_26 ?_)
    refine hloop (N := 8) (P := fun p => ∀ m2 : gx_M, cVf m0 m2 → (∀ a b, a < i → b < 8 → m2 83 (8 * a + b) = vS (vW W s T) (oW s T) P a b) → (∀ b, b < p → m2 83 (8 * i + b) = vS (vW W s T) (oW s T) P i b) → hxn xs n yp_m110 31 [(0, .inr (.inl 81)), (1, .inr (.inl 5)), (2, .inr (.inl 44)), (3, .inl (P : Int)), (4, .inl (i : Int)), (5, .inl (s (240 + Y))), (6, .inl (p : Int))] [] m2 Q) (fun m2 f2 k1 k2 => ?_) (fun p hp ih2 m2 f2 k1 k2 => ?_) 0 (Nat.zero_le _) m1 f g (fun b hb => absurd hb (Nat.not_lt_zero _))
    · refine hx_dn (hr110_31 (fun _ => ?_) (fun c => absurd c (by decide)) (fun c => absurd c (by decide)) (fun c => absurd c (by decide)))
      rw [ew_u (by omega)]
      refine ih m2 f2 (fun a b ha hb => ?_)
      by_cases q : a = i
      · rw [q]
        exact k2 b hb
      · exact k1 a b (by omega) hb
    · have put : ∀ (M : gx_M) (v : Int), (∀ c k, c ≠ 51 → ¬ (c = 44 ∧ 9 ≤ k ∧ k ≤ 11) → M c k = m2 c k) → v = vS (vW W s T) (oW s T) P i p → hxn xs n yp_m110 31 [(0, .inr (.inl 81)), (1, .inr (.inl 5)), (2, .inr (.inl 44)), (3, .inl (P : Int)), (4, .inl (i : Int)), (5, .inl (s (240 + Y))), (6, .inl (gx_w ((p : Int) + 1)))] [] (gx_u M 83 (8 * i + p) v) Q := fun M v fM ev => by
        rw [ew_u (by omega)]
        refine ih2 _ (fun c k a b d1 d2 d3 => by rw [gx_u_ne (by omega), fM c k a b]; exact f2 c k a b d1 d2 d3) (fun a b ha hb => ?_) (fun b hb => ?_)
        · rw [gx_u_ne (by omega), fM 83 _ (by decide) (by omega)]
          exact k1 a b ha hb
        · by_cases q : b = p
          · rw [q, gx_u_self, ev]
          · rw [gx_u_ne (by omega), fM 83 _ (by decide) (by omega)]
            exact k2 b (by omega)
      have et := hibit (X := P) (y := p) (by omega) (by omega)
      refine hx_dn (hr110_31 (fun c => absurd c (by omega)) (fun _ c => ?_) (fun _ _ c => ?_) (fun _ c d => ?_))
      · rw [gw8 (by omega) hp]
        refine put m2 _ (fun _ _ _ _ => rfl) ?_
        unfold vS
        rw [if_neg (fun q => q.2 (by rw [eo]; exact c.symm))]
      · rw [gw8 (by omega) hp]
        refine put m2 _ (fun _ _ _ _ => rfl) ?_
        unfold vS
        rw [et] at c
        rw [if_neg (fun q => by rw [if_pos q.1] at c; cases c)]
      · have hb : P.testBit p = true := by
          rw [et] at d
          split at d
          · assumption
          · exact absurd rfl d
        have hB2 := cVf_B f2 hB
        rw [e82 m2 f2, eY]
        refine cAm1 (.inl rfl) (by decide) (cVf_L f2 hL) hs hB2 hY (by omega) (fun m3 f3 => hx_dn (hr110_95 ?_))
        have e118 : lHi 118 = 999 := by decide
        rw [e118, gw8 (by omega) hp]
        refine put m3 _ (fun c k a b => f3 c k a b) ?_
        unfold vS
        rw [if_pos ⟨hb, fun q => c (by rw [eo] at q; exact q.symm)⟩, ← vW_eq, eY, Int.toNat_natCast]
/-! the table -/
theorem c113 {i L : Nat} (hi : i ≤ 6) (hL : L < 256) (h : Q (some (.inl (m 84 (256 * i + L)))) m) : hxn xs n yp_m113 0 [(0, .inr (.inl 81)), (1, .inl (i : Int)), (2, .inl (L : Int))] [] m Q := by
  have e := gw256 hi hL
  refine hx_dn (hr113_0 (fun c => ?_) (fun _ c => ?_) (fun _ _ => ?_))
  · rw [e] at c
    exact absurd c (by omega)
  · rw [e] at c
    exact absurd c (by omega)
  · rw [e, Int.toNat_natCast]
    exact h
theorem e_dl {L p : Nat} (hL : L < 256) (hp : p < 8) : gx_and (L : Int) (gx_xor (gx_shl 1 (p : Int)) (-1)) = ((dl L p : Nat) : Int) := by
  rw [hshl_one p (by omega), hand_not (by omega) (pw_lt (by omega))]
  rfl
theorem c114 {i L p : Nat} {G : Nat → Int} (hV : ∀ i p, V i p ≤ 999) (hN : N ≤ 6) (hi : i < N) (hL : L < 256) (hs : sPw P L) (hp : p < 8) (hK : ∀ i p, i < N → p < 8 → m 83 (8 * i + p) = vS V ow P i p) (hT : ∀ L', L' < 256 → sPw P L' → m 84 (256 * (i + 1) + L') = G L') (hG : ∀ L', 0 ≤ G L' ∧ G L' ≤ 10000) (h : Q (some (.inl (wB V ow G i L p))) m) : hxn xs n yp_m114 0 [(0, .inr (.inl 81)), (1, .inl (i : Int)), (2, .inl (L : Int)), (3, .inl (p : Int))] [] m Q := by
  have e := gw8 (i := i) (p := p) (by omega) hp
  have ei : gx_w ((gx_w ((i : Int) * 8)) + (p : Int)) = ((8 * i + p : Nat) : Int) := by
    rw [gx_w_id (x := (i : Int) * 8) (by omega) (by omega), gx_w_id (by omega) (by omega)]
    omega
  have et := hibit (X := L) (y := p) (by omega) (by omega)
  have k := hK i p hi hp
  refine hx_dn (hr114_0 (fun c => ?_) (fun _ c => ?_) (fun _ _ c => ?_) (fun c _ _ d => ?_) (fun c _ _ d => ?_))
  · rw [et] at c
    rw [wB_f (fun q => by rw [if_pos q.1] at c; cases c)] at h
    exact h
  · rw [ei] at c
    exact absurd c (by omega)
  · rw [ei] at c
    exact absurd c (by omega)
  · have hb : L.testBit p = true := by
      rw [et] at c
      split at c
      · assumption
      · exact absurd rfl c
    rw [e, k] at d ⊢
    have ho : ow i ≠ (p : Int) := fun q => d (if_neg (fun z => z.2 q))
    have ev : vS V ow P i p = (V i p : Int) := if_pos ⟨hs p hp hb, ho⟩
    rw [wB_t hb ho] at h
    rw [ev, e_dl hL hp, ew_u (by omega)]
    refine c113 (by omega) (dl_lt hL) (hx_dn (hr114_65 ?_))
    rw [hT _ (dl_lt hL) (sPw_dl hs (by omega))]
    have b := hG (dl L p)
    have v := hV i p
    rw [gx_w_id (by omega) (by omega)]
    exact h
  · have hb : L.testBit p = true := by
      rw [et] at c
      split at c
      · assumption
      · exact absurd rfl c
    rw [e, k] at d
    rw [wB_f (fun q => by
      have ev : vS V ow P i p = (V i p : Int) := if_pos ⟨hs p hp hb, q.2⟩
      rw [ev] at d
      omega)] at h
    exact h
def tRw (V : Nat → Nat → Nat) (ow : Nat → Int) (N P : Nat) (m : gx_M) (i k : Nat) : Prop := ∀ L, L < k → L < 256 → sPw P L → m 84 (256 * i + L) = fSo V ow (N - i) i L
theorem c112 {i L : Nat} (hV : ∀ i p, V i p ≤ 999) (hN : N ≤ 6) (hi : i < N) (hL : L < 256) (hs : sPw P L) (hK : ∀ i p, i < N → p < 8 → m 83 (8 * i + p) = vS V ow P i p) (hT : tRw V ow N P m (i + 1) 256) (h : Q (some (.inl (fSo V ow (N - i) i L))) m) : hxn xs n yp_m112 0 [(0, .inr (.inl 81)), (1, .inl (i : Int)), (2, .inl (L : Int))] [] m Q := by
  have ed : N - i = (N - (i + 1)) + 1 := by omega
  rw [ed] at h
  have bd := fSo_bd (ow := ow) hV (N - (i + 1)) (i + 1)
  refine hx_dn (hr112_0 ?_)
  rw [ew_u (by omega)]
  refine c113 (by omega) hL (hx_dn (hr112_8 ?_))
  rw [hT L hL hL hs]
  refine hloop (N := 8) (P := fun p => hxn xs n yp_m112 12 [(0, .inr (.inl 81)), (1, .inl (i : Int)), (2, .inl (L : Int)), (3, .inl (mx (fSo V ow (N - (i + 1)) (i + 1) L) (wB V ow (fSo V ow (N - (i + 1)) (i + 1)) i L) p)), (4, .inl (p : Int))] [] m Q) (hx_dn (hr112_12 (fun _ => h) (fun c => absurd c (by decide)))) (fun p hp ih => ?_) 0 (Nat.zero_le _)
  refine hx_dn (hr112_12 (fun c => absurd c (by omega)) (fun _ => ?_))
  refine c114 (G := fSo V ow (N - (i + 1)) (i + 1)) hV hN hi hL hs hp hK (fun L' a b => hT L' a a b) (fun L' => ⟨(bd L').1, by have := (bd L').2; omega⟩) (hx_dn (hr112_28 ?_))
  rw [ew_u (by omega)]
  exact ih
theorem c115 {i L : Nat} {v : Int} (hi : i ≤ 6) (hL : L < 256) (h : Q none (gx_u m 84 (256 * i + L) v)) : hxn xs n yp_m115 0 [(0, .inr (.inl 81)), (1, .inl (i : Int)), (2, .inl (L : Int)), (3, .inl v)] [] m Q := by
  have e := gw256 hi hL
  refine hx_dn (hr115_0 (fun c => ?_) (fun _ c => ?_) (fun _ _ => ?_))
  · rw [e] at c
    exact absurd c (by omega)
  · rw [e] at c
    exact absurd c (by omega)
  · rw [e, Int.toNat_natCast]
    exact h
theorem sPw_iff {L : Nat} (hP : P < 256) (hL : L < 256) : gx_and (L : Int) (gx_xor (P : Int) (-1)) = 0 ↔ sPw P L := by
  rw [sub_iff hP hL, sB_iff]
  exact Iff.rfl
theorem c110t (hV : ∀ i p, V i p ≤ 999) (hN : N ≤ 6) (hP : P < 256) (x1 : m0 81 1 = (N : Int)) (hK : ∀ i p, i < N → p < 8 → m0 83 (8 * i + p) = vS V ow P i p) (h : ∀ m', (∀ c, c ≠ 84 → m' c = m0 c) → (∀ i, i ≤ N → tRw V ow N P m' i 256) → hxn xs n yp_m116 0 [(0, .inr (.inl 81)), (1, .inl (P : Int))] [] m' (fun r m' => hxn xs n yp_m110 189 [] (hrs r ++ []) m' Q)) : hxn xs n yp_m110 118 [(0, .inr (.inl 81)), (3, .inl (P : Int)), (4, .inl (N : Int))] [] m0 Q := by
  have L : ∀ k : Nat, k ≤ N + 1 → ∀ m1 : gx_M, (∀ c, c ≠ 84 → m1 c = m0 c) → (∀ i, k ≤ i → i ≤ N → tRw V ow N P m1 i 256) → hxn xs n yp_m110 118 [(0, .inr (.inl 81)), (3, .inl (P : Int)), (4, .inl ((k : Int) - 1))] [] m1 Q := by
    intro k
    induction k with
    | zero =>
      intro _ m1 f g
      exact hx_dn (hr110_118 (fun _ => h m1 f (fun i hi => g i (Nat.zero_le _) hi)) (fun c => absurd c (by omega)))
    | succ k ih =>
      intro hk m1 f g
      have ek : ((k + 1 : Nat) : Int) - 1 = (k : Int) := by omega
      have ew : gx_w ((k : Int) + (-1)) = (k : Int) - 1 := by
        rw [gx_w_id (by omega) (by omega)]
        omega
      rw [ek]
      refine hx_dn (hr110_118 (fun c => absurd c (by omega)) (fun _ => ?_))
      refine hloop (N := 256) (P := fun L => ∀ m2 : gx_M, (∀ c, c ≠ 84 → m2 c = m0 c) → (∀ i, k + 1 ≤ i → i ≤ N → tRw V ow N P m2 i 256) → tRw V ow N P m2 k L → hxn xs n yp_m110 126 [(0, .inr (.inl 81)), (3, .inl (P : Int)), (4, .inl (k : Int)), (5, .inl (L : Int))] [] m2 Q) (fun m2 f2 g2 g3 => ?_) (fun L hL ih2 m2 f2 g2 g3 => ?_) 0 (Nat.zero_le _) m1 f g (fun L hL => absurd hL (Nat.not_lt_zero _))
      · refine hx_dn (hr110_126 (fun _ => ?_) (fun c => absurd c (by decide)) (fun c => absurd c (by decide)) (fun c => absurd c (by decide)))
        rw [ew]
        refine ih (by omega) m2 f2 (fun i hi hn => ?_)
        by_cases q : i = k
        · rw [q]
          exact g3
        · exact g2 i (by omega) hn
      · have e81 : m2 81 1 = (N : Int) := by
          rw [f2 81 (by decide)]
          exact x1
        have put : ∀ v : Int, v = fSo V ow (N - k) k L → hxn xs n yp_m115 0 [(0, .inr (.inl 81)), (1, .inl (k : Int)), (2, .inl (L : Int)), (3, .inl v)] [] m2 (fun r m' => hxn xs n yp_m110 172 [(0, .inr (.inl 81)), (3, .inl (P : Int)), (4, .inl (k : Int)), (5, .inl (L : Int))] (hrs r ++ []) m' Q) := fun v ev => by
          refine c115 (by omega) hL (hx_dn (hr110_172 ?_))
          rw [ew_u (by omega)]
          refine ih2 _ (fun c hc => by rw [gx_u_off hc]; exact f2 c hc) (fun i hi hn L' a b d => ?_) (fun L' a b d => ?_)
          · rw [gx_u_ne (by omega)]
            exact g2 i hi hn L' a b d
          · by_cases q : L' = L
            · rw [q, gx_u_self, ev]
            · rw [gx_u_ne (by omega)]
              exact g3 L' (by omega) b d
        refine hx_dn (hr110_126 (fun c => absurd c (by omega)) (fun _ c => ?_) (fun _ c d => ?_) (fun _ c d => ?_))
        · rw [ew_u (by omega)]
          refine ih2 m2 f2 g2 (fun L' a b d => ?_)
          by_cases q : L' = L
          · exact absurd ((sPw_iff hP hL).mpr (by rw [← q]; exact d)) c
          · exact g3 L' (by omega) b d
        · have sp := (sPw_iff hP hL).mp c
          refine c112 hV hN (by omega) hL sp (fun i p a b => by rw [f2 83 (by decide)]; exact hK i p a b) (g2 (k + 1) (by omega) (by omega)) (hx_dn (hr110_169 (put _ rfl)))
        · have e : k = N := by omega
          refine put 0 ?_
          rw [e, Nat.sub_self]
          rfl
  have e0 : ((N + 1 : Nat) : Int) - 1 = (N : Int) := by omega
  have l := L (N + 1) (Nat.le_refl _) m0 (fun _ _ => rfl) (fun i hi hn => absurd hi (by omega))
  rw [e0] at l
  exact l
/-! who gets what -/
theorem c116 (hV : ∀ i p, V i p ≤ 999) (hN : N ≤ 6) (hP : P < 256) (x1 : m0 81 1 = (N : Int)) (hK : ∀ i p, i < N → p < 8 → m0 83 (8 * i + p) = vS V ow P i p) (hT : ∀ i, i ≤ N → tRw V ow N P m0 i 256) (h : ∀ m', (∀ c, c ≠ 85 → m' c = m0 c) → (∀ i, i < N → m' 85 i = ((gGt V ow N P i : Nat) : Int)) → Q none m') : hxn xs n yp_m116 0 [(0, .inr (.inl 81)), (1, .inl (P : Int))] [] m0 Q := by
  refine hx_dn (hr116_0 ?_)
  refine hloop (N := N) (P := fun i => ∀ m1 : gx_M, (∀ c, c ≠ 85 → m1 c = m0 c) → (∀ j, j < i → m1 85 j = ((gGt V ow N P j : Nat) : Int)) → hxn xs n yp_m116 4 [(0, .inr (.inl 81)), (2, .inl ((gLf V ow N P i : Nat) : Int)), (3, .inl (i : Int))] [] m1 Q) (fun m1 f g => ?_) (fun i hi ih m1 f g => ?_) 0 (Nat.zero_le _) m0 (fun _ _ => rfl) (fun j hj => absurd hj (Nat.not_lt_zero _))
  · have e : m1 81 1 = (N : Int) := by rw [f 81 (by decide)]; exact x1
    exact hx_dn (hr116_4 (fun _ => h m1 f g) (fun c => absurd c (by omega)) (fun c => absurd c (by omega)))
  · have e : m1 81 1 = (N : Int) := by rw [f 81 (by decide)]; exact x1
    obtain ⟨l1, l2⟩ := gLf_ok (V := V) (ow := ow) (n := N) hP i
    refine hx_dn (hr116_4 (fun c => absurd c (by omega)) (fun _ c => absurd c (by omega)) (fun _ _ => ?_))
    rw [Int.toNat_natCast]
    have gle := gGt_le (V := V) (ow := ow) (n := N) (P := P) (i := i)
    have out : ∀ (m2 : gx_M) (k : Nat), (∀ c, c ≠ 85 → m2 c = m0 c) → (∀ j, j < i → m2 85 j = ((gGt V ow N P j : Nat) : Int)) → m2 85 i = ((gGt V ow N P i : Nat) : Int) → hxn xs n yp_m116 4 [(0, .inr (.inl 81)), (2, .inl (gx_and ((gLf V ow N P i : Nat) : Int) (gx_xor (gx_shl 1 (m2 85 ((i : Int)).toNat)) (-1)))), (3, .inl (gx_w ((i : Int) + 1)))] [] m2 Q := fun m2 k f2 g2 g3 => by
      have el : gx_and ((gLf V ow N P i : Nat) : Int) (gx_xor (gx_shl 1 (m2 85 ((i : Int)).toNat)) (-1)) = ((gLf V ow N P (i + 1) : Nat) : Int) := by
        rw [Int.toNat_natCast, g3, hshl_one _ (by omega), hand_not (by omega) (pw_lt gle)]
        rfl
      rw [el, ew_u (by omega)]
      refine ih m2 f2 (fun j hj => ?_)
      by_cases q : j = i
      · rw [q]
        exact g3
      · exact g2 j (by omega)
    have L : ∀ d p : Nat, p + d = 8 → ∀ m2 : gx_M, (∀ c, c ≠ 85 → m2 c = m0 c) → (∀ j, j < i → m2 85 j = ((gGt V ow N P j : Nat) : Int)) → m2 85 i = 8 → gGt V ow N P i = pk (wB V ow (fSo V ow (N - 1 - i) (i + 1)) i (gLf V ow N P i)) (fSo V ow (N - i) i (gLf V ow N P i)) p d → hxn xs n yp_m116 29 [(0, .inr (.inl 81)), (2, .inl ((gLf V ow N P i : Nat) : Int)), (3, .inl (i : Int)), (4, .inl (p : Int))] [] m2 Q := by
      intro d
      induction d with
      | zero =>
        intro p hp m2 f2 g2 g3 ge
        refine hx_dn (hr116_29 (fun _ => out m2 0 f2 g2 ?_) (fun c => absurd c (by omega)) (fun c => absurd c (by omega)))
        have ge : gGt V ow N P i = 8 := ge
        rw [g3, ge]
        rfl
      | succ d ih2 =>
        intro p hp m2 f2 g2 g3 ge
        have bd := fSo_bd (ow := ow) hV (N - (i + 1)) (i + 1)
        have en : N - 1 - i = N - (i + 1) := by omega
        refine hx_dn (hr116_29 (fun c => absurd c (by omega)) (fun _ c => ?_) (fun _ _ => ?_))
        · rw [Int.toNat_natCast] at c
          exact absurd g3 c
        · refine c114 (G := fSo V ow (N - (i + 1)) (i + 1)) hV hN hi l1 l2 (by omega) (fun a b ha hb => by rw [f2 83 (by decide)]; exact hK a b ha hb) (fun L' a b => by rw [f2 84 (by decide)]; exact hT (i + 1) (by omega) L' a a b) (fun L' => ⟨(bd L').1, by have := (bd L').2; omega⟩) (hx_dn (hr116_55 ?_))
          refine c113 (by omega) l1 (hx_dn (hr116_61 (fun c => ?_) (fun c => ?_)))
          · rw [f2 84 (by decide), hT i (by omega) _ l1 l1 l2] at c
            rw [en, pk_f c] at ge
            rw [ew_u (by omega)]
            exact ih2 (p + 1) (by omega) m2 f2 g2 g3 (by rw [en]; exact ge)
          · rw [f2 84 (by decide), hT i (by omega) _ l1 l1 l2] at c
            rw [en, pk_t c] at ge
            rw [ew_u (by omega), Int.toNat_natCast]
            have fin := out (gx_u m2 85 i (p : Int)) 0 (fun c hc => by rw [gx_u_off hc]; exact f2 c hc) (fun j hj => by rw [gx_u_ne (by omega)]; exact g2 j hj) (by rw [gx_u_self, ge])
            refine hx_dn (hr116_29 (fun _ => fin) (fun _ _ => fin) (fun _ c => ?_))
            rw [Int.toNat_natCast, gx_u_self] at c
            exact absurd c (by omega)
    exact L 8 0 rfl _ (fun c hc => by rw [gx_u_off hc]; exact f c hc) (fun j hj => by rw [gx_u_ne (by omega)]; exact g j hj) gx_u_self rfl
/-! what is asked -/
theorem c117 {p : Nat} (hV : ∀ i p, V i p ≤ 999) (hN : N ≤ 6) (hP : P < 256) (hp : p < 8) (x1 : m 81 1 = (N : Int)) (hK : ∀ i p, i < N → p < 8 → m 83 (8 * i + p) = vS V ow P i p) (hT : tRw V ow N P m 0 256) (hG : ∀ i, i < N → m 85 i = ((gGt V ow N P i : Nat) : Int)) (h : Q (some (.inl (fSo V ow N 0 (dl P p) - (fSo V ow N 0 P - oS V ow N P p N)))) m) : hxn xs n yp_m117 0 [(0, .inr (.inl 81)), (1, .inl (P : Int)), (2, .inl (p : Int))] [] m Q := by
  have bd := fSo_bd (ow := ow) hV N 0
  refine hx_dn (hr117_0 ?_)
  refine hloop (N := N) (P := fun i => hxn xs n yp_m117 5 [(0, .inr (.inl 81)), (1, .inl (P : Int)), (2, .inl (p : Int)), (3, .inl (oS V ow N P p i)), (4, .inl (i : Int))] [] m Q) (hx_dn (hr117_5 (fun _ => ?_) (fun c => absurd c (by omega)) (fun c => absurd c (by omega)) (fun c => absurd c (by omega)) (fun c => absurd c (by omega)) (fun c => absurd c (by omega)))) (fun i hi ih => ?_) 0 (Nat.zero_le _)
  · rw [e_dl hP hp]
    refine c113 (i := 0) (by omega) (dl_lt hP) (hx_dn (hr117_73 (hx_dn (hr118_0 (c113 (i := 0) (by omega) hP (hx_dn (hr118_6 (hx_dn (hr117_78 ?_)))))))))
    rw [hT _ (dl_lt hP) (dl_lt hP) (sPw_dl sPw_r (by omega)), hT P hP hP sPw_r, Nat.sub_zero]
    have b1 := bd (dl P p)
    have b2 := bd P
    have b3 := oS_bd (ow := ow) hV (n := N) (P := P) (p := p) N
    rw [gx_w_id (x := fSo V ow N 0 P - oS V ow N P p N) (by omega) (by omega), gx_w_id (by omega) (by omega)]
    exact h
  · have g := hG i hi
    have ih : hxn xs n yp_m117 5 [(0, .inr (.inl 81)), (1, .inl (P : Int)), (2, .inl (p : Int)), (3, .inl (if gGt V ow N P i = p then (V i p : Int) else oS V ow N P p i)), (4, .inl ((i + 1 : Nat) : Int))] [] m Q := ih
    refine hx_dn (hr117_5 (fun c => absurd c (by omega)) (fun _ c => absurd c (by omega)) (fun _ _ c => ?_) (fun _ _ _ c => absurd c (by omega)) (fun _ _ _ _ c => absurd c (by omega)) (fun _ _ c _ _ => ?_))
    · rw [Int.toNat_natCast, g] at c
      rw [if_neg (by omega)] at ih
      rw [ew_u (by omega)]
      exact ih
    · rw [Int.toNat_natCast, g] at c
      have e : gGt V ow N P i = p := by omega
      rw [if_pos e] at ih
      obtain ⟨k1, k2⟩ := gGt_in hV (ow := ow) (n := N) (P := P) (i := i) (by omega)
      rw [e] at k1 k2
      have sp := (gLf_ok (V := V) (ow := ow) (n := N) hP i).2 p hp k1
      have ev : vS V ow P i p = (V i p : Int) := if_pos ⟨sp, k2⟩
      rw [gw8 (by omega) hp, hK i p hi hp, ev, ew_u (by omega)]
      exact ih
end SL
end
