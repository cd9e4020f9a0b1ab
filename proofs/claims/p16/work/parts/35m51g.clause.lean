/-! clauses as the class reads them: roads -/
/-- clause from 0 on -/
theorem hr27_0 {xs : List Int32} {n : Nat} {Q : hQ} {m : gx_M} {x2 : Int}
    (h1 : ((m 3 3) = 110) → (x2 < 16) → hxn xs n yp_m30 0 [(0, .inr (.inl 3))] [] m (fun r m' => hxn xs n yp_m27 60 [(0, .inr (.inl 52)), (1, .inr (.inl 3)), (3, .inl (m 3 3))] (hrs r ++ []) m' Q))
    (h2 : ((m 3 3) = 110) → (16 ≤ x2) → hxn xs n yp_m29 0 [(0, .inr (.inl 3)), (1, .inl 4), (2, .inl (m 3 2))] [] m (fun r m' => hxn xs n yp_m27 55 [] (hrs r ++ []) m' Q))
    (h3 : ((m 3 3) ≠ 110) → ((m 3 3) = 118) → (x2 < 16) → hxn xs n yp_m30 0 [(0, .inr (.inl 3))] [] m (fun r m' => hxn xs n yp_m27 60 [(0, .inr (.inl 52)), (1, .inr (.inl 3)), (3, .inl (m 3 3))] (hrs r ++ []) m' Q))
    (h4 : ((m 3 3) ≠ 110) → ((m 3 3) = 118) → (16 ≤ x2) → hxn xs n yp_m29 0 [(0, .inr (.inl 3)), (1, .inl 4), (2, .inl (m 3 2))] [] m (fun r m' => hxn xs n yp_m27 55 [] (hrs r ++ []) m' Q))
    (h5 : ((m 3 3) ≠ 110) → ((m 3 3) ≠ 118) → ((m 3 3) = 105) → (x2 < 16) → hxn xs n yp_m30 0 [(0, .inr (.inl 3))] [] m (fun r m' => hxn xs n yp_m27 60 [(0, .inr (.inl 52)), (1, .inr (.inl 3)), (3, .inl (m 3 3))] (hrs r ++ []) m' Q))
    (h6 : ((m 3 3) ≠ 110) → ((m 3 3) ≠ 118) → ((m 3 3) = 105) → (16 ≤ x2) → hxn xs n yp_m29 0 [(0, .inr (.inl 3)), (1, .inl 4), (2, .inl (m 3 2))] [] m (fun r m' => hxn xs n yp_m27 55 [] (hrs r ++ []) m' Q))
    (h7 : ((m 3 3) ≠ 110) → ((m 3 3) ≠ 118) → ((m 3 3) ≠ 105) → ((m 3 3) = 102) → (x2 < 16) → hxn xs n yp_m30 0 [(0, .inr (.inl 3))] [] m (fun r m' => hxn xs n yp_m27 60 [(0, .inr (.inl 52)), (1, .inr (.inl 3)), (3, .inl (m 3 3))] (hrs r ++ []) m' Q))
    (h8 : ((m 3 3) ≠ 110) → ((m 3 3) ≠ 118) → ((m 3 3) ≠ 105) → ((m 3 3) = 102) → (16 ≤ x2) → hxn xs n yp_m29 0 [(0, .inr (.inl 3)), (1, .inl 4), (2, .inl (m 3 2))] [] m (fun r m' => hxn xs n yp_m27 55 [] (hrs r ++ []) m' Q))
    (h9 : ((m 3 3) ≠ 110) → ((m 3 3) ≠ 118) → ((m 3 3) ≠ 105) → ((m 3 3) ≠ 102) → ((m 3 3) = 103) → (x2 < 16) → hxn xs n yp_m30 0 [(0, .inr (.inl 3))] [] m (fun r m' => hxn xs n yp_m27 60 [(0, .inr (.inl 52)), (1, .inr (.inl 3)), (3, .inl (m 3 3))] (hrs r ++ []) m' Q))
    (h10 : ((m 3 3) ≠ 110) → ((m 3 3) ≠ 118) → ((m 3 3) ≠ 105) → ((m 3 3) ≠ 102) → ((m 3 3) = 103) → (16 ≤ x2) → hxn xs n yp_m29 0 [(0, .inr (.inl 3)), (1, .inl 4), (2, .inl (m 3 2))] [] m (fun r m' => hxn xs n yp_m27 55 [] (hrs r ++ []) m' Q))
    (h11 : ((m 3 3) ≠ 110) → ((m 3 3) ≠ 118) → ((m 3 3) ≠ 105) → ((m 3 3) ≠ 102) → ((m 3 3) ≠ 103) → hxn xs n yp_m28 0 [(0, .inr (.inl 3))] [] m (fun r m' => hxn xs n yp_m27 39 [] (hrs r ++ []) m' Q)) : hxn xs (n + 1) yp_m27 0 [(0, .inr (.inl 52)), (1, .inr (.inl 3)), (2, .inl x2)] [] m Q := by
  refine hx_blks (npc := 8) (L' := [(0, .inr (.inl 52)), (1, .inr (.inl 3)), (2, .inl x2), (3, .inl (m 3 3))]) (st' := [.inl 110, .inl (m 3 3)]) (m' := m) ((0, .aload_n 1, 1, 0, 0, 0, 0), (0, 0, 0)) [((1, .getfield 39, 3, 1, 3, 1055, 0), (0, 3, 0)), ((4, .istore_n 3, 1, 0, 0, 0, 0), (0, 0, 0)), ((5, .iload_n 3, 1, 0, 0, 0, 0), (0, 0, 0)), ((6, .bipush 110, 2, 0, 0, 0, 0), (0, 0, 0))] (by decide +kernel) rfl ?_
  refine hx_cmp .eq 40 (by decide +kernel) (fun c1 => ?_) (fun c1 => ?_)
  · have c1 : (m 3 3) = 110 := c1
    refine hx_blk (npc := 43) (L' := [(0, .inr (.inl 52)), (1, .inr (.inl 3)), (2, .inl x2), (3, .inl (m 3 3))]) (st' := [.inl 16, .inl x2]) (m' := m) [((40, .iload_n 2, 1, 0, 0, 0, 0), (0, 0, 0)), ((41, .bipush 16, 2, 0, 0, 0, 0), (0, 0, 0))] (by decide +kernel) rfl ?_
    refine hx_cmp .lt 56 (by decide +kernel) (fun c2 => ?_) (fun c2 => ?_)
    · have c2 : x2 < 16 := c2
      refine hx_blk (npc := 57) (L' := [(0, .inr (.inl 52)), (1, .inr (.inl 3)), (2, .inl x2), (3, .inl (m 3 3))]) (st' := [.inr (.inl 3)]) (m' := m) [((56, .aload_n 1, 1, 0, 0, 0, 0), (0, 0, 0))] (by decide +kernel) rfl ?_
      exact hx_call (E := (57, .invokevirtual 52, 3, 30, 0, 3010, 0)) (M' := yp_m30) [.inr (.inl 3)] [] rfl (by decide +kernel) rfl ⟨rfl, rfl⟩ rfl rfl (hx_mono (h1 c1 c2) (fun r m' h' => hx_pick [0, 1, 3] h'))
    · have c2 : 16 ≤ x2 := by have h : ¬ (x2 < 16) := c2; omega
      refine hx_blk (npc := 52) (L' := [(0, .inr (.inl 52)), (1, .inr (.inl 3)), (2, .inl x2), (3, .inl (m 3 3))]) (st' := [.inl (m 3 2), .inl 4, .inr (.inl 3)]) (m' := m) [((46, .aload_n 1, 1, 0, 0, 0, 0), (0, 0, 0)), ((47, .iconst 4, 1, 0, 0, 0, 0), (0, 0, 0)), ((48, .aload_n 1, 1, 0, 0, 0, 0), (0, 0, 0)), ((49, .getfield 45, 3, 1, 2, 1053, 0), (0, 3, 0))] (by decide +kernel) rfl ?_
      exact hx_call (E := (52, .invokevirtual 48, 3, 29, 0, 3009, 0)) (M' := yp_m29) [.inr (.inl 3), .inl 4, .inl (m 3 2)] [] rfl (by decide +kernel) rfl ⟨rfl, rfl⟩ rfl rfl (hx_mono (h2 c1 c2) (fun r m' h' => hx_pick [] h'))
  · have c1 : (m 3 3) ≠ 110 := c1
    refine hx_blk (npc := 14) (L' := [(0, .inr (.inl 52)), (1, .inr (.inl 3)), (2, .inl x2), (3, .inl (m 3 3))]) (st' := [.inl 118, .inl (m 3 3)]) (m' := m) [((11, .iload_n 3, 1, 0, 0, 0, 0), (0, 0, 0)), ((12, .bipush 118, 2, 0, 0, 0, 0), (0, 0, 0))] (by decide +kernel) rfl ?_
    refine hx_cmp .eq 40 (by decide +kernel) (fun c2 => ?_) (fun c2 => ?_)
    · have c2 : (m 3 3) = 118 := c2
      refine hx_blk (npc := 43) (L' := [(0, .inr (.inl 52)), (1, .inr (.inl 3)), (2, .inl x2), (3, .inl (m 3 3))]) (st' := [.inl 16, .inl x2]) (m' := m) [((40, .iload_n 2, 1, 0, 0, 0, 0), (0, 0, 0)), ((41, .bipush 16, 2, 0, 0, 0, 0), (0, 0, 0))] (by decide +kernel) rfl ?_
      refine hx_cmp .lt 56 (by decide +kernel) (fun c3 => ?_) (fun c3 => ?_)
      · have c3 : x2 < 16 := c3
        refine hx_blk (npc := 57) (L' := [(0, .inr (.inl 52)), (1, .inr (.inl 3)), (2, .inl x2), (3, .inl (m 3 3))]) (st' := [.inr (.inl 3)]) (m' := m) [((56, .aload_n 1, 1, 0, 0, 0, 0), (0, 0, 0))] (by decide +kernel) rfl ?_
        exact hx_call (E := (57, .invokevirtual 52, 3, 30, 0, 3010, 0)) (M' := yp_m30) [.inr (.inl 3)] [] rfl (by decide +kernel) rfl ⟨rfl, rfl⟩ rfl rfl (hx_mono (h3 c1 c2 c3) (fun r m' h' => hx_pick [0, 1, 3] h'))
      · have c3 : 16 ≤ x2 := by have h : ¬ (x2 < 16) := c3; omega
        refine hx_blk (npc := 52) (L' := [(0, .inr (.inl 52)), (1, .inr (.inl 3)), (2, .inl x2), (3, .inl (m 3 3))]) (st' := [.inl (m 3 2), .inl 4, .inr (.inl 3)]) (m' := m) [((46, .aload_n 1, 1, 0, 0, 0, 0), (0, 0, 0)), ((47, .iconst 4, 1, 0, 0, 0, 0), (0, 0, 0)), ((48, .aload_n 1, 1, 0, 0, 0, 0), (0, 0, 0)), ((49, .getfield 45, 3, 1, 2, 1053, 0), (0, 3, 0))] (by decide +kernel) rfl ?_
        exact hx_call (E := (52, .invokevirtual 48, 3, 29, 0, 3009, 0)) (M' := yp_m29) [.inr (.inl 3), .inl 4, .inl (m 3 2)] [] rfl (by decide +kernel) rfl ⟨rfl, rfl⟩ rfl rfl (hx_mono (h4 c1 c2 c3) (fun r m' h' => hx_pick [] h'))
    · have c2 : (m 3 3) ≠ 118 := c2
      refine hx_blk (npc := 20) (L' := [(0, .inr (.inl 52)), (1, .inr (.inl 3)), (2, .inl x2), (3, .inl (m 3 3))]) (st' := [.inl 105, .inl (m 3 3)]) (m' := m) [((17, .iload_n 3, 1, 0, 0, 0, 0), (0, 0, 0)), ((18, .bipush 105, 2, 0, 0, 0, 0), (0, 0, 0))] (by decide +kernel) rfl ?_
      refine hx_cmp .eq 40 (by decide +kernel) (fun c3 => ?_) (fun c3 => ?_)
      · have c3 : (m 3 3) = 105 := c3
        refine hx_blk (npc := 43) (L' := [(0, .inr (.inl 52)), (1, .inr (.inl 3)), (2, .inl x2), (3, .inl (m 3 3))]) (st' := [.inl 16, .inl x2]) (m' := m) [((40, .iload_n 2, 1, 0, 0, 0, 0), (0, 0, 0)), ((41, .bipush 16, 2, 0, 0, 0, 0), (0, 0, 0))] (by decide +kernel) rfl ?_
        refine hx_cmp .lt 56 (by decide +kernel) (fun c4 => ?_) (fun c4 => ?_)
        · have c4 : x2 < 16 := c4
          refine hx_blk (npc := 57) (L' := [(0, .inr (.inl 52)), (1, .inr (.inl 3)), (2, .inl x2), (3, .inl (m 3 3))]) (st' := [.inr (.inl 3)]) (m' := m) [((56, .aload_n 1, 1, 0, 0, 0, 0), (0, 0, 0))] (by decide +kernel) rfl ?_
          exact hx_call (E := (57, .invokevirtual 52, 3, 30, 0, 3010, 0)) (M' := yp_m30) [.inr (.inl 3)] [] rfl (by decide +kernel) rfl ⟨rfl, rfl⟩ rfl rfl (hx_mono (h5 c1 c2 c3 c4) (fun r m' h' => hx_pick [0, 1, 3] h'))
        · have c4 : 16 ≤ x2 := by have h : ¬ (x2 < 16) := c4; omega
          refine hx_blk (npc := 52) (L' := [(0, .inr (.inl 52)), (1, .inr (.inl 3)), (2, .inl x2), (3, .inl (m 3 3))]) (st' := [.inl (m 3 2), .inl 4, .inr (.inl 3)]) (m' := m) [((46, .aload_n 1, 1, 0, 0, 0, 0), (0, 0, 0)), ((47, .iconst 4, 1, 0, 0, 0, 0), (0, 0, 0)), ((48, .aload_n 1, 1, 0, 0, 0, 0), (0, 0, 0)), ((49, .getfield 45, 3, 1, 2, 1053, 0), (0, 3, 0))] (by decide +kernel) rfl ?_
          exact hx_call (E := (52, .invokevirtual 48, 3, 29, 0, 3009, 0)) (M' := yp_m29) [.inr (.inl 3), .inl 4, .inl (m 3 2)] [] rfl (by decide +kernel) rfl ⟨rfl, rfl⟩ rfl rfl (hx_mono (h6 c1 c2 c3 c4) (fun r m' h' => hx_pick [] h'))
      · have c3 : (m 3 3) ≠ 105 := c3
        refine hx_blk (npc := 26) (L' := [(0, .inr (.inl 52)), (1, .inr (.inl 3)), (2, .inl x2), (3, .inl (m 3 3))]) (st' := [.inl 102, .inl (m 3 3)]) (m' := m) [((23, .iload_n 3, 1, 0, 0, 0, 0), (0, 0, 0)), ((24, .bipush 102, 2, 0, 0, 0, 0), (0, 0, 0))] (by decide +kernel) rfl ?_
        refine hx_cmp .eq 40 (by decide +kernel) (fun c4 => ?_) (fun c4 => ?_)
        · have c4 : (m 3 3) = 102 := c4
          refine hx_blk (npc := 43) (L' := [(0, .inr (.inl 52)), (1, .inr (.inl 3)), (2, .inl x2), (3, .inl (m 3 3))]) (st' := [.inl 16, .inl x2]) (m' := m) [((40, .iload_n 2, 1, 0, 0, 0, 0), (0, 0, 0)), ((41, .bipush 16, 2, 0, 0, 0, 0), (0, 0, 0))] (by decide +kernel) rfl ?_
          refine hx_cmp .lt 56 (by decide +kernel) (fun c5 => ?_) (fun c5 => ?_)
          · have c5 : x2 < 16 := c5
            refine hx_blk (npc := 57) (L' := [(0, .inr (.inl 52)), (1, .inr (.inl 3)), (2, .inl x2), (3, .inl (m 3 3))]) (st' := [.inr (.inl 3)]) (m' := m) [((56, .aload_n 1, 1, 0, 0, 0, 0), (0, 0, 0))] (by decide +kernel) rfl ?_
            exact hx_call (E := (57, .invokevirtual 52, 3, 30, 0, 3010, 0)) (M' := yp_m30) [.inr (.inl 3)] [] rfl (by decide +kernel) rfl ⟨rfl, rfl⟩ rfl rfl (hx_mono (h7 c1 c2 c3 c4 c5) (fun r m' h' => hx_pick [0, 1, 3] h'))
          · have c5 : 16 ≤ x2 := by have h : ¬ (x2 < 16) := c5; omega
            refine hx_blk (npc := 52) (L' := [(0, .inr (.inl 52)), (1, .inr (.inl 3)), (2, .inl x2), (3, .inl (m 3 3))]) (st' := [.inl (m 3 2), .inl 4, .inr (.inl 3)]) (m' := m) [((46, .aload_n 1, 1, 0, 0, 0, 0), (0, 0, 0)), ((47, .iconst 4, 1, 0, 0, 0, 0), (0, 0, 0)), ((48, .aload_n 1, 1, 0, 0, 0, 0), (0, 0, 0)), ((49, .getfield 45, 3, 1, 2, 1053, 0), (0, 3, 0))] (by decide +kernel) rfl ?_
            exact hx_call (E := (52, .invokevirtual 48, 3, 29, 0, 3009, 0)) (M' := yp_m29) [.inr (.inl 3), .inl 4, .inl (m 3 2)] [] rfl (by decide +kernel) rfl ⟨rfl, rfl⟩ rfl rfl (hx_mono (h8 c1 c2 c3 c4 c5) (fun r m' h' => hx_pick [] h'))
        · have c4 : (m 3 3) ≠ 102 := c4
          refine hx_blk (npc := 32) (L' := [(0, .inr (.inl 52)), (1, .inr (.inl 3)), (2, .inl x2), (3, .inl (m 3 3))]) (st' := [.inl 103, .inl (m 3 3)]) (m' := m) [((29, .iload_n 3, 1, 0, 0, 0, 0), (0, 0, 0)), ((30, .bipush 103, 2, 0, 0, 0, 0), (0, 0, 0))] (by decide +kernel) rfl ?_
          refine hx_cmp .eq 40 (by decide +kernel) (fun c5 => ?_) (fun c5 => ?_)
          · have c5 : (m 3 3) = 103 := c5
            refine hx_blk (npc := 43) (L' := [(0, .inr (.inl 52)), (1, .inr (.inl 3)), (2, .inl x2), (3, .inl (m 3 3))]) (st' := [.inl 16, .inl x2]) (m' := m) [((40, .iload_n 2, 1, 0, 0, 0, 0), (0, 0, 0)), ((41, .bipush 16, 2, 0, 0, 0, 0), (0, 0, 0))] (by decide +kernel) rfl ?_
            refine hx_cmp .lt 56 (by decide +kernel) (fun c6 => ?_) (fun c6 => ?_)
            · have c6 : x2 < 16 := c6
              refine hx_blk (npc := 57) (L' := [(0, .inr (.inl 52)), (1, .inr (.inl 3)), (2, .inl x2), (3, .inl (m 3 3))]) (st' := [.inr (.inl 3)]) (m' := m) [((56, .aload_n 1, 1, 0, 0, 0, 0), (0, 0, 0))] (by decide +kernel) rfl ?_
              exact hx_call (E := (57, .invokevirtual 52, 3, 30, 0, 3010, 0)) (M' := yp_m30) [.inr (.inl 3)] [] rfl (by decide +kernel) rfl ⟨rfl, rfl⟩ rfl rfl (hx_mono (h9 c1 c2 c3 c4 c5 c6) (fun r m' h' => hx_pick [0, 1, 3] h'))
            · have c6 : 16 ≤ x2 := by have h : ¬ (x2 < 16) := c6; omega
              refine hx_blk (npc := 52) (L' := [(0, .inr (.inl 52)), (1, .inr (.inl 3)), (2, .inl x2), (3, .inl (m 3 3))]) (st' := [.inl (m 3 2), .inl 4, .inr (.inl 3)]) (m' := m) [((46, .aload_n 1, 1, 0, 0, 0, 0), (0, 0, 0)), ((47, .iconst 4, 1, 0, 0, 0, 0), (0, 0, 0)), ((48, .aload_n 1, 1, 0, 0, 0, 0), (0, 0, 0)), ((49, .getfield 45, 3, 1, 2, 1053, 0), (0, 3, 0))] (by decide +kernel) rfl ?_
              exact hx_call (E := (52, .invokevirtual 48, 3, 29, 0, 3009, 0)) (M' := yp_m29) [.inr (.inl 3), .inl 4, .inl (m 3 2)] [] rfl (by decide +kernel) rfl ⟨rfl, rfl⟩ rfl rfl (hx_mono (h10 c1 c2 c3 c4 c5 c6) (fun r m' h' => hx_pick [] h'))
          · have c5 : (m 3 3) ≠ 103 := c5
            refine hx_blk (npc := 36) (L' := [(0, .inr (.inl 52)), (1, .inr (.inl 3)), (2, .inl x2), (3, .inl (m 3 3))]) (st' := [.inr (.inl 3)]) (m' := m) [((35, .aload_n 1, 1, 0, 0, 0, 0), (0, 0, 0))] (by decide +kernel) rfl ?_
            exact hx_call (E := (36, .invokevirtual 42, 3, 28, 0, 3001, 0)) (M' := yp_m28) [.inr (.inl 3)] [] rfl (by decide +kernel) rfl ⟨rfl, rfl⟩ rfl rfl (hx_mono (h11 c1 c2 c3 c4 c5) (fun r m' h' => hx_pick [] h'))

/-- clause from 39 on -/
theorem hr27_39 {xs : List Int32} {n : Nat} {Q : hQ} {m : gx_M} {s0 : Int}
    (h1 : Q (some (.inl s0)) m) : hxn xs (n + 1) yp_m27 39 [] [.inl s0] m Q := by
  exact hx_reti (by decide +kernel) h1

/-- clause from 55 on -/
theorem hr27_55 {xs : List Int32} {n : Nat} {Q : hQ} {m : gx_M} {s0 : Int}
    (h1 : Q (some (.inl s0)) m) : hxn xs (n + 1) yp_m27 55 [] [.inl s0] m Q := by
  exact hx_reti (by decide +kernel) h1

/-- clause from 60 on -/
theorem hr27_60 {xs : List Int32} {n : Nat} {Q : hQ} {m : gx_M} {x3 : Int}
    (h1 : (x3 = 110) → hxn xs n yp_m37 0 [(0, .inr (.inl 3)), (1, .inl 40)] [] m (fun r m' => hxn xs n yp_m27 101 [(0, .inr (.inl 52)), (1, .inr (.inl 3)), (3, .inl x3), (4, .inl (m 53 2)), (5, .inl (m 53 2))] (hrs r ++ []) m' Q))
    (h2 : (x3 ≠ 110) → hxn xs n yp_m31 0 [(0, .inr (.inl 52)), (1, .inr (.inl 3)), (2, .inl 0)] [] m (fun r m' => hxn xs n yp_m27 81 [(0, .inr (.inl 52)), (1, .inr (.inl 3)), (3, .inl x3), (4, .inl (m 53 2))] (hrs r ++ []) m' Q)) : hxn xs (n + 1) yp_m27 60 [(0, .inr (.inl 52)), (1, .inr (.inl 3)), (3, .inl x3)] [] m Q := by
  refine hx_blks (npc := 72) (L' := [(0, .inr (.inl 52)), (1, .inr (.inl 3)), (3, .inl x3), (4, .inl (m 53 2))]) (st' := [.inl 110, .inl x3]) (m' := m) ((60, .aload_n 0, 1, 0, 0, 0, 0), (0, 0, 0)) [((61, .getfield 12, 3, 4, 0, 1226, 0), (1, 52, 53)), ((64, .getfield 18, 3, 3, 2, 1180, 0), (0, 53, 0)), ((67, .istore 4, 2, 0, 0, 0, 0), (0, 0, 0)), ((69, .iload_n 3, 1, 0, 0, 0, 0), (0, 0, 0)), ((70, .bipush 110, 2, 0, 0, 0, 0), (0, 0, 0))] (by decide +kernel) rfl ?_
  refine hx_cmp .eq 86 (by decide +kernel) (fun c1 => ?_) (fun c1 => ?_)
  · have c1 : x3 = 110 := c1
    refine hx_blk (npc := 98) (L' := [(0, .inr (.inl 52)), (1, .inr (.inl 3)), (3, .inl x3), (4, .inl (m 53 2)), (5, .inl (m 53 2))]) (st' := [.inl 40, .inr (.inl 3)]) (m' := m) [((86, .aload_n 0, 1, 0, 0, 0, 0), (0, 0, 0)), ((87, .getfield 12, 3, 4, 0, 1226, 0), (1, 52, 53)), ((90, .getfield 18, 3, 3, 2, 1180, 0), (0, 53, 0)), ((93, .istore 5, 2, 0, 0, 0, 0), (0, 0, 0)), ((95, .aload_n 1, 1, 0, 0, 0, 0), (0, 0, 0)), ((96, .bipush 40, 2, 0, 0, 0, 0), (0, 0, 0))] (by decide +kernel) rfl ?_
    exact hx_call (E := (98, .invokevirtual 35, 3, 37, 0, 3040, 0)) (M' := yp_m37) [.inr (.inl 3), .inl 40] [] rfl (by decide +kernel) rfl ⟨rfl, rfl⟩ rfl rfl (hx_mono (h1 c1) (fun r m' h' => hx_pick [0, 1, 3, 4, 5] h'))
  · have c1 : x3 ≠ 110 := c1
    refine hx_blk (npc := 78) (L' := [(0, .inr (.inl 52)), (1, .inr (.inl 3)), (3, .inl x3), (4, .inl (m 53 2))]) (st' := [.inl 0, .inr (.inl 3), .inr (.inl 52)]) (m' := m) [((75, .aload_n 0, 1, 0, 0, 0, 0), (0, 0, 0)), ((76, .aload_n 1, 1, 0, 0, 0, 0), (0, 0, 0)), ((77, .iconst 0, 1, 0, 0, 0, 0), (0, 0, 0))] (by decide +kernel) rfl ?_
    exact hx_call (E := (78, .invokevirtual 55, 3, 31, 0, 3014, 0)) (M' := yp_m31) [.inr (.inl 52), .inr (.inl 3), .inl 0] [] rfl (by decide +kernel) rfl ⟨rfl, rfl⟩ rfl rfl (hx_mono (h2 c1) (fun r m' h' => hx_pick [0, 1, 3, 4] h'))

/-- clause from 81 on -/
theorem hr27_81 {xs : List Int32} {n : Nat} {Q : hQ} {m : gx_M} {x3 x4 s0 : Int}
    (h1 : (s0 ≠ 0) → hxn xs n yp_m37 0 [(0, .inr (.inl 3)), (1, .inl 40)] [] m (fun r m' => hxn xs n yp_m27 101 [(0, .inr (.inl 52)), (1, .inr (.inl 3)), (3, .inl x3), (4, .inl x4), (5, .inl (m 53 2))] (hrs r ++ []) m' Q))
    (h2 : (s0 = 0) → Q (some (.inl 0)) m) : hxn xs (n + 1) yp_m27 81 [(0, .inr (.inl 52)), (1, .inr (.inl 3)), (3, .inl x3), (4, .inl x4)] [.inl s0] m Q := by
  refine hx_ifs .ne 86 (by decide +kernel) (fun c1 => ?_) (fun c1 => ?_)
  · have c1 : s0 ≠ 0 := c1
    refine hx_blk (npc := 98) (L' := [(0, .inr (.inl 52)), (1, .inr (.inl 3)), (3, .inl x3), (4, .inl x4), (5, .inl (m 53 2))]) (st' := [.inl 40, .inr (.inl 3)]) (m' := m) [((86, .aload_n 0, 1, 0, 0, 0, 0), (0, 0, 0)), ((87, .getfield 12, 3, 4, 0, 1226, 0), (1, 52, 53)), ((90, .getfield 18, 3, 3, 2, 1180, 0), (0, 53, 0)), ((93, .istore 5, 2, 0, 0, 0, 0), (0, 0, 0)), ((95, .aload_n 1, 1, 0, 0, 0, 0), (0, 0, 0)), ((96, .bipush 40, 2, 0, 0, 0, 0), (0, 0, 0))] (by decide +kernel) rfl ?_
    exact hx_call (E := (98, .invokevirtual 35, 3, 37, 0, 3040, 0)) (M' := yp_m37) [.inr (.inl 3), .inl 40] [] rfl (by decide +kernel) rfl ⟨rfl, rfl⟩ rfl rfl (hx_mono (h1 c1) (fun r m' h' => hx_pick [0, 1, 3, 4, 5] h'))
  · have c1 : s0 = 0 := by have h : ¬ (s0 ≠ 0) := c1; omega
    refine hx_blk (npc := 85) (L' := [(0, .inr (.inl 52)), (1, .inr (.inl 3)), (3, .inl x3), (4, .inl x4)]) (st' := [.inl 0]) (m' := m) [((84, .iconst 0, 1, 0, 0, 0, 0), (0, 0, 0))] (by decide +kernel) rfl ?_
    exact hx_reti (by decide +kernel) (h2 c1)

/-- clause from 101 on -/
theorem hr27_101 {xs : List Int32} {n : Nat} {Q : hQ} {m : gx_M} {x3 x4 x5 s0 : Int}
    (h1 : (s0 = 0) → Q (some (.inl 0)) m)
    (h2 : (s0 ≠ 0) → hxn xs n yp_m41 0 [(0, .inr (.inl 52)), (1, .inr (.inl 3)), (2, .inl 1)] [] m (fun r m' => hxn xs n yp_m27 110 [(0, .inr (.inl 52)), (1, .inr (.inl 3)), (3, .inl x3), (4, .inl x4), (5, .inl x5)] (hrs r ++ []) m' Q)) : hxn xs (n + 1) yp_m27 101 [(0, .inr (.inl 52)), (1, .inr (.inl 3)), (3, .inl x3), (4, .inl x4), (5, .inl x5)] [.inl s0] m Q := by
  refine hx_ifs .eq 122 (by decide +kernel) (fun c1 => ?_) (fun c1 => ?_)
  · have c1 : s0 = 0 := c1
    refine hx_blk (npc := 123) (L' := [(0, .inr (.inl 52)), (1, .inr (.inl 3)), (3, .inl x3), (4, .inl x4), (5, .inl x5)]) (st' := [.inl 0]) (m' := m) [((122, .iconst 0, 1, 0, 0, 0, 0), (0, 0, 0))] (by decide +kernel) rfl ?_
    exact hx_reti (by decide +kernel) (h1 c1)
  · have c1 : s0 ≠ 0 := c1
    refine hx_blk (npc := 107) (L' := [(0, .inr (.inl 52)), (1, .inr (.inl 3)), (3, .inl x3), (4, .inl x4), (5, .inl x5)]) (st' := [.inl 1, .inr (.inl 3), .inr (.inl 52)]) (m' := m) [((104, .aload_n 0, 1, 0, 0, 0, 0), (0, 0, 0)), ((105, .aload_n 1, 1, 0, 0, 0, 0), (0, 0, 0)), ((106, .iconst 1, 1, 0, 0, 0, 0), (0, 0, 0))] (by decide +kernel) rfl ?_
    exact hx_call (E := (107, .invokevirtual 58, 3, 41, 0, 3054, 0)) (M' := yp_m41) [.inr (.inl 52), .inr (.inl 3), .inl 1] [] rfl (by decide +kernel) rfl ⟨rfl, rfl⟩ rfl rfl (hx_mono (h2 c1) (fun r m' h' => hx_pick [0, 1, 3, 4, 5] h'))

/-- clause from 110 on -/
theorem hr27_110 {xs : List Int32} {n : Nat} {Q : hQ} {m : gx_M} {x3 x4 x5 s0 : Int}
    (h1 : (s0 = 0) → Q (some (.inl 0)) m)
    (h2 : (s0 ≠ 0) → hxn xs n yp_m37 0 [(0, .inr (.inl 3)), (1, .inl 41)] [] m (fun r m' => hxn xs n yp_m27 119 [(0, .inr (.inl 52)), (3, .inl x3), (4, .inl x4), (5, .inl x5)] (hrs r ++ []) m' Q)) : hxn xs (n + 1) yp_m27 110 [(0, .inr (.inl 52)), (1, .inr (.inl 3)), (3, .inl x3), (4, .inl x4), (5, .inl x5)] [.inl s0] m Q := by
  refine hx_ifs .eq 122 (by decide +kernel) (fun c1 => ?_) (fun c1 => ?_)
  · have c1 : s0 = 0 := c1
    refine hx_blk (npc := 123) (L' := [(0, .inr (.inl 52)), (1, .inr (.inl 3)), (3, .inl x3), (4, .inl x4), (5, .inl x5)]) (st' := [.inl 0]) (m' := m) [((122, .iconst 0, 1, 0, 0, 0, 0), (0, 0, 0))] (by decide +kernel) rfl ?_
    exact hx_reti (by decide +kernel) (h1 c1)
  · have c1 : s0 ≠ 0 := c1
    refine hx_blk (npc := 116) (L' := [(0, .inr (.inl 52)), (1, .inr (.inl 3)), (3, .inl x3), (4, .inl x4), (5, .inl x5)]) (st' := [.inl 41, .inr (.inl 3)]) (m' := m) [((113, .aload_n 1, 1, 0, 0, 0, 0), (0, 0, 0)), ((114, .bipush 41, 2, 0, 0, 0, 0), (0, 0, 0))] (by decide +kernel) rfl ?_
    exact hx_call (E := (116, .invokevirtual 35, 3, 37, 0, 3040, 0)) (M' := yp_m37) [.inr (.inl 3), .inl 41] [] rfl (by decide +kernel) rfl ⟨rfl, rfl⟩ rfl rfl (hx_mono (h2 c1) (fun r m' h' => hx_pick [0, 3, 4, 5] h'))

/-- clause from 119 on -/
theorem hr27_119 {xs : List Int32} {n : Nat} {Q : hQ} {m : gx_M} {x3 x4 x5 s0 : Int}
    (h1 : (s0 ≠ 0) → hxn xs n yp_m45 0 [(0, .inr (.inl 53)), (1, .inl x3), (2, .inl x4), (3, .inl x5)] [] m (fun r m' => hxn xs n yp_m27 136 [] (hrs r ++ []) m' Q))
    (h2 : (s0 = 0) → Q (some (.inl 0)) m) : hxn xs (n + 1) yp_m27 119 [(0, .inr (.inl 52)), (3, .inl x3), (4, .inl x4), (5, .inl x5)] [.inl s0] m Q := by
  refine hx_ifs .ne 124 (by decide +kernel) (fun c1 => ?_) (fun c1 => ?_)
  · have c1 : s0 ≠ 0 := c1
    refine hx_blk (npc := 133) (L' := [(0, .inr (.inl 52)), (3, .inl x3), (4, .inl x4), (5, .inl x5)]) (st' := [.inl x5, .inl x4, .inl x3, .inr (.inl 53)]) (m' := m) [((124, .aload_n 0, 1, 0, 0, 0, 0), (0, 0, 0)), ((125, .getfield 12, 3, 4, 0, 1226, 0), (1, 52, 53)), ((128, .iload_n 3, 1, 0, 0, 0, 0), (0, 0, 0)), ((129, .iload 4, 2, 0, 0, 0, 0), (0, 0, 0)), ((131, .iload 5, 2, 0, 0, 0, 0), (0, 0, 0))] (by decide +kernel) rfl ?_
    exact hx_call (E := (133, .invokevirtual 61, 3, 45, 0, 3070, 0)) (M' := yp_m45) [.inr (.inl 53), .inl x3, .inl x4, .inl x5] [] rfl (by decide +kernel) rfl ⟨rfl, rfl⟩ rfl rfl (hx_mono (h1 c1) (fun r m' h' => hx_pick [] h'))
  · have c1 : s0 = 0 := by have h : ¬ (s0 ≠ 0) := c1; omega
    refine hx_blk (npc := 123) (L' := [(0, .inr (.inl 52)), (3, .inl x3), (4, .inl x4), (5, .inl x5)]) (st' := [.inl 0]) (m' := m) [((122, .iconst 0, 1, 0, 0, 0, 0), (0, 0, 0))] (by decide +kernel) rfl ?_
    exact hx_reti (by decide +kernel) (h2 c1)

/-- clause from 136 on -/
theorem hr27_136 {xs : List Int32} {n : Nat} {Q : hQ} {m : gx_M}
    (h1 : Q (some (.inl 1)) m) : hxn xs (n + 1) yp_m27 136 [] [] m Q := by
  refine hx_blks (npc := 137) (L' := []) (st' := [.inl 1]) (m' := m) ((136, .iconst 1, 1, 0, 0, 0, 0), (0, 0, 0)) [] (by decide +kernel) rfl ?_
  exact hx_reti (by decide +kernel) h1

/-- read from 0 on -/
theorem hr26_0 {xs : List Int32} {n : Nat} {Q : hQ} {m : gx_M}
    (h1 : hxn xs n yp_m26 18 [(0, .inr (.inl 52)), (1, .inr (.inl 3)), (2, .inl 0)] [] (gx_u (gx_u m 53 2 0) 53 7 0) Q) : hxn xs (n + 1) yp_m26 0 [(0, .inr (.inl 52)), (1, .inr (.inl 3))] [] m Q := by
  refine hx_blks (npc := 18) (L' := [(0, .inr (.inl 52)), (1, .inr (.inl 3)), (2, .inl 0)]) (st' := []) (m' := (gx_u (gx_u m 53 2 0) 53 7 0)) ((0, .aload_n 0, 1, 0, 0, 0, 0), (0, 0, 0)) [((1, .getfield 12, 3, 4, 0, 1226, 0), (1, 52, 53)), ((4, .iconst 0, 1, 0, 0, 0, 0), (0, 0, 0)), ((5, .putfield 18, 3, 3, 2, 1180, 0), (0, 53, 0)), ((8, .aload_n 0, 1, 0, 0, 0, 0), (0, 0, 0)), ((9, .getfield 12, 3, 4, 0, 1226, 0), (1, 52, 53)), ((12, .iconst 0, 1, 0, 0, 0, 0), (0, 0, 0)), ((13, .putfield 22, 3, 3, 7, 1186, 0), (0, 53, 0)), ((16, .iconst 0, 1, 0, 0, 0, 0), (0, 0, 0)), ((17, .istore_n 2, 1, 0, 0, 0, 0), (0, 0, 0))] (by decide +kernel) rfl ?_
  exact hx_pick [0, 1, 2] h1

/-- read from 18 on -/
theorem hr26_18 {xs : List Int32} {n : Nat} {Q : hQ} {m : gx_M} {x2 : Int} (r_x2 : 0 ≤ x2 ∧ x2 ≤ 16)
    (h1 : (x2 ≤ 16) → hxn xs n yp_m27 0 [(0, .inr (.inl 52)), (1, .inr (.inl 3)), (2, .inl x2)] [] m (fun r m' => hxn xs n yp_m26 30 [(0, .inr (.inl 52)), (1, .inr (.inl 3)), (2, .inl x2)] (hrs r ++ []) m' Q)) : hxn xs (n + 1) yp_m26 18 [(0, .inr (.inl 52)), (1, .inr (.inl 3)), (2, .inl x2)] [] m Q := by
  refine hx_blks (npc := 21) (L' := [(0, .inr (.inl 52)), (1, .inr (.inl 3)), (2, .inl x2)]) (st' := [.inl 16, .inl x2]) (m' := m) ((18, .iload_n 2, 1, 0, 0, 0, 0), (0, 0, 0)) [((19, .bipush 16, 2, 0, 0, 0, 0), (0, 0, 0))] (by decide +kernel) rfl ?_
  refine hx_cmp .gt 61 (by decide +kernel) (fun c1 => ?_) (fun c1 => ?_)
  · have c1 : 16 < x2 := c1
    exfalso; omega
  · have c1 : x2 ≤ 16 := by have h : ¬ (16 < x2) := c1; omega
    refine hx_blk (npc := 27) (L' := [(0, .inr (.inl 52)), (1, .inr (.inl 3)), (2, .inl x2)]) (st' := [.inl x2, .inr (.inl 3), .inr (.inl 52)]) (m' := m) [((24, .aload_n 0, 1, 0, 0, 0, 0), (0, 0, 0)), ((25, .aload_n 1, 1, 0, 0, 0, 0), (0, 0, 0)), ((26, .iload_n 2, 1, 0, 0, 0, 0), (0, 0, 0))] (by decide +kernel) rfl ?_
    exact hx_call (E := (27, .invokevirtual 25, 3, 27, 0, 2237, 0)) (M' := yp_m27) [.inr (.inl 52), .inr (.inl 3), .inl x2] [] rfl (by decide +kernel) rfl ⟨rfl, rfl⟩ rfl rfl (hx_mono (h1 c1) (fun r m' h' => hx_pick [0, 1, 2] h'))

/-- read from 30 on -/
theorem hr26_30 {xs : List Int32} {n : Nat} {Q : hQ} {m : gx_M} {x2 s0 : Int} (r_x2 : 0 ≤ x2 ∧ x2 ≤ 16)
    (h1 : (s0 ≠ 0) → hxn xs n yp_m46 0 [(0, .inr (.inl 3))] [] m (fun r m' => hxn xs n yp_m26 39 [(0, .inr (.inl 52)), (1, .inr (.inl 3)), (2, .inl x2)] (hrs r ++ []) m' Q))
    (h2 : (s0 = 0) → Q (some (.inl 0)) m) : hxn xs (n + 1) yp_m26 30 [(0, .inr (.inl 52)), (1, .inr (.inl 3)), (2, .inl x2)] [.inl s0] m Q := by
  refine hx_ifs .ne 35 (by decide +kernel) (fun c1 => ?_) (fun c1 => ?_)
  · have c1 : s0 ≠ 0 := c1
    refine hx_blk (npc := 36) (L' := [(0, .inr (.inl 52)), (1, .inr (.inl 3)), (2, .inl x2)]) (st' := [.inr (.inl 3)]) (m' := m) [((35, .aload_n 1, 1, 0, 0, 0, 0), (0, 0, 0))] (by decide +kernel) rfl ?_
    exact hx_call (E := (36, .invokevirtual 29, 3, 46, 0, 3074, 0)) (M' := yp_m46) [.inr (.inl 3)] [] rfl (by decide +kernel) rfl ⟨rfl, rfl⟩ rfl rfl (hx_mono (h1 c1) (fun r m' h' => hx_pick [0, 1, 2] h'))
  · have c1 : s0 = 0 := by have h : ¬ (s0 ≠ 0) := c1; omega
    refine hx_blk (npc := 34) (L' := [(0, .inr (.inl 52)), (1, .inr (.inl 3)), (2, .inl x2)]) (st' := [.inl 0]) (m' := m) [((33, .iconst 0, 1, 0, 0, 0, 0), (0, 0, 0))] (by decide +kernel) rfl ?_
    exact hx_reti (by decide +kernel) (h2 c1)

/-- read from 39 on -/
theorem hr26_39 {xs : List Int32} {n : Nat} {Q : hQ} {m : gx_M} {x2 s0 : Int} (r_x2 : 0 ≤ x2 ∧ x2 ≤ 16)
    (h1 : (s0 = 0) → hxn xs n yp_m37 0 [(0, .inr (.inl 3)), (1, .inl 59)] [] m (fun r m' => hxn xs n yp_m26 50 [(0, .inr (.inl 52)), (1, .inr (.inl 3)), (2, .inl x2)] (hrs r ++ []) m' Q))
    (h2 : (s0 ≠ 0) → Q (some (.inl 1)) m) : hxn xs (n + 1) yp_m26 39 [(0, .inr (.inl 52)), (1, .inr (.inl 3)), (2, .inl x2)] [.inl s0] m Q := by
  refine hx_ifs .eq 44 (by decide +kernel) (fun c1 => ?_) (fun c1 => ?_)
  · have c1 : s0 = 0 := c1
    refine hx_blk (npc := 47) (L' := [(0, .inr (.inl 52)), (1, .inr (.inl 3)), (2, .inl x2)]) (st' := [.inl 59, .inr (.inl 3)]) (m' := m) [((44, .aload_n 1, 1, 0, 0, 0, 0), (0, 0, 0)), ((45, .bipush 59, 2, 0, 0, 0, 0), (0, 0, 0))] (by decide +kernel) rfl ?_
    exact hx_call (E := (47, .invokevirtual 35, 3, 37, 0, 3040, 0)) (M' := yp_m37) [.inr (.inl 3), .inl 59] [] rfl (by decide +kernel) rfl ⟨rfl, rfl⟩ rfl rfl (hx_mono (h1 c1) (fun r m' h' => hx_pick [0, 1, 2] h'))
  · have c1 : s0 ≠ 0 := c1
    refine hx_blk (npc := 43) (L' := [(0, .inr (.inl 52)), (1, .inr (.inl 3)), (2, .inl x2)]) (st' := [.inl 1]) (m' := m) [((42, .iconst 1, 1, 0, 0, 0, 0), (0, 0, 0))] (by decide +kernel) rfl ?_
    exact hx_reti (by decide +kernel) (h2 c1)

/-- read from 50 on -/
theorem hr26_50 {xs : List Int32} {n : Nat} {Q : hQ} {m : gx_M} {x2 s0 : Int} (r_x2 : 0 ≤ x2 ∧ x2 ≤ 16)
    (h1 : (s0 ≠ 0) → hxn xs n yp_m26 18 [(0, .inr (.inl 52)), (1, .inr (.inl 3)), (2, .inl (x2 + 1))] [] m Q)
    (h2 : (s0 = 0) → Q (some (.inl 0)) m) : hxn xs (n + 1) yp_m26 50 [(0, .inr (.inl 52)), (1, .inr (.inl 3)), (2, .inl x2)] [.inl s0] m Q := by
  refine hx_ifs .ne 55 (by decide +kernel) (fun c1 => ?_) (fun c1 => ?_)
  · have c1 : s0 ≠ 0 := c1
    have e1 : gx_w (x2 + 1) = x2 + 1 := gx_w_id (by omega) (by omega)
    refine hx_blk (npc := 18) (L' := [(0, .inr (.inl 52)), (1, .inr (.inl 3)), (2, .inl (gx_w (x2 + 1)))]) (st' := []) (m' := m) [((55, .iinc 2 1, 3, 0, 0, 0, 0), (0, 0, 0)), ((58, .goto (-40), 3, 0, 0, 0, 0), (0, 0, 0))] (by decide +kernel) rfl ?_
    rw [e1]
    exact hx_pick [0, 1, 2] (h1 c1)
  · have c1 : s0 = 0 := by have h : ¬ (s0 ≠ 0) := c1; omega
    refine hx_blk (npc := 54) (L' := [(0, .inr (.inl 52)), (1, .inr (.inl 3)), (2, .inl x2)]) (st' := [.inl 0]) (m' := m) [((53, .iconst 0, 1, 0, 0, 0, 0), (0, 0, 0))] (by decide +kernel) rfl ?_
    exact hx_reti (by decide +kernel) (h2 c1)

/-- law from 0 on -/
theorem hr22_0 {xs : List Int32} {n : Nat} {Q : hQ} {m : gx_M} {x1 : Int}
    (h1 : hxn xs n yp_m23 0 [(0, .inr (.inl 1)), (1, .inl x1), (2, .inl 240)] [] m (fun r m' => hxn xs n yp_m22 11 [(0, .inr (.inl 0)), (1, .inl x1)] (hrs r ++ []) m' Q)) : hxn xs (n + 1) yp_m22 0 [(0, .inr (.inl 0)), (1, .inl x1)] [] m Q := by
  refine hx_blks (npc := 8) (L' := [(0, .inr (.inl 0)), (1, .inl x1)]) (st' := [.inl 240, .inl x1, .inr (.inl 1)]) (m' := m) ((0, .aload_n 0, 1, 0, 0, 0, 0), (0, 0, 0)) [((1, .getfield 10, 3, 9, 0, 2119, 0), (1, 0, 1)), ((4, .iload_n 1, 1, 0, 0, 0, 0), (0, 0, 0)), ((5, .sipush 240, 3, 0, 0, 0, 0), (0, 0, 0))] (by decide +kernel) rfl ?_
  exact hx_call (E := (8, .invokevirtual 124, 3, 23, 0, 2212, 0)) (M' := yp_m23) [.inr (.inl 1), .inl x1, .inl 240] [] rfl (by decide +kernel) rfl ⟨rfl, rfl⟩ rfl rfl (hx_mono h1 (fun r m' h' => hx_pick [0, 1] h'))

/-- law from 11 on -/
theorem hr22_11 {xs : List Int32} {n : Nat} {Q : hQ} {m : gx_M} {x1 s0 : Int}
    (h1 : (s0 ≠ 0) → hxn xs n yp_m24 0 [(0, .inr (.inl 3)), (1, .inr (.inl 1)), (2, .inl x1)] [] m (fun r m' => hxn xs n yp_m22 28 [(0, .inr (.inl 0))] (hrs r ++ []) m' Q))
    (h2 : (s0 = 0) → Q (some (.inl (-1))) m) : hxn xs (n + 1) yp_m22 11 [(0, .inr (.inl 0)), (1, .inl x1)] [.inl s0] m Q := by
  refine hx_ifs .ne 16 (by decide +kernel) (fun c1 => ?_) (fun c1 => ?_)
  · have c1 : s0 ≠ 0 := c1
    refine hx_blk (npc := 25) (L' := [(0, .inr (.inl 0)), (1, .inl x1)]) (st' := [.inl x1, .inr (.inl 1), .inr (.inl 3)]) (m' := m) [((16, .aload_n 0, 1, 0, 0, 0, 0), (0, 0, 0)), ((17, .getfield 19, 3, 9, 1, 2120, 0), (1, 0, 3)), ((20, .aload_n 0, 1, 0, 0, 0, 0), (0, 0, 0)), ((21, .getfield 10, 3, 9, 0, 2119, 0), (1, 0, 1)), ((24, .iload_n 1, 1, 0, 0, 0, 0), (0, 0, 0))] (by decide +kernel) rfl ?_
    exact hx_call (E := (25, .invokevirtual 128, 3, 24, 0, 2216, 0)) (M' := yp_m24) [.inr (.inl 3), .inr (.inl 1), .inl x1] [] rfl (by decide +kernel) rfl ⟨rfl, rfl⟩ rfl rfl (hx_mono (h1 c1) (fun r m' h' => hx_pick [0] h'))
  · have c1 : s0 = 0 := by have h : ¬ (s0 ≠ 0) := c1; omega
    refine hx_blk (npc := 15) (L' := [(0, .inr (.inl 0)), (1, .inl x1)]) (st' := [.inl (-1)]) (m' := m) [((14, .iconst (-1), 1, 0, 0, 0, 0), (0, 0, 0))] (by decide +kernel) rfl ?_
    exact hx_reti (by decide +kernel) (h2 c1)

/-- law from 28 on -/
theorem hr22_28 {xs : List Int32} {n : Nat} {Q : hQ} {m : gx_M}
    (h1 : hxn xs n yp_m26 0 [(0, .inr (.inl 52)), (1, .inr (.inl 3))] [] m (fun r m' => hxn xs n yp_m22 39 [(0, .inr (.inl 0))] (hrs r ++ []) m' Q)) : hxn xs (n + 1) yp_m22 28 [(0, .inr (.inl 0))] [] m Q := by
  refine hx_blks (npc := 36) (L' := [(0, .inr (.inl 0))]) (st' := [.inr (.inl 3), .inr (.inl 52)]) (m' := m) ((28, .aload_n 0, 1, 0, 0, 0, 0), (0, 0, 0)) [((29, .getfield 46, 3, 9, 6, 2125, 0), (1, 0, 52)), ((32, .aload_n 0, 1, 0, 0, 0, 0), (0, 0, 0)), ((33, .getfield 19, 3, 9, 1, 2120, 0), (1, 0, 3))] (by decide +kernel) rfl ?_
  exact hx_call (E := (36, .invokevirtual 132, 3, 26, 0, 2233, 0)) (M' := yp_m26) [.inr (.inl 52), .inr (.inl 3)] [] rfl (by decide +kernel) rfl ⟨rfl, rfl⟩ rfl rfl (hx_mono h1 (fun r m' h' => hx_pick [0] h'))

/-- law from 39 on -/
theorem hr22_39 {xs : List Int32} {n : Nat} {Q : hQ} {m : gx_M} {s0 : Int}
    (h1 : (s0 ≠ 0) → hxn xs n yp_m47 0 [(0, .inr (.inl 44)), (1, .inr (.inl 53))] [] m (fun r m' => hxn xs n yp_m22 64 [(0, .inr (.inl 0))] (hrs r ++ []) m' Q))
    (h2 : (s0 = 0) → Q (some (.inl (m 3 4))) m) : hxn xs (n + 1) yp_m22 39 [(0, .inr (.inl 0))] [.inl s0] m Q := by
  refine hx_ifs .ne 50 (by decide +kernel) (fun c1 => ?_) (fun c1 => ?_)
  · have c1 : s0 ≠ 0 := c1
    refine hx_blk (npc := 61) (L' := [(0, .inr (.inl 0))]) (st' := [.inr (.inl 53), .inr (.inl 44)]) (m' := m) [((50, .aload_n 0, 1, 0, 0, 0, 0), (0, 0, 0)), ((51, .getfield 39, 3, 9, 5, 2124, 0), (1, 0, 44)), ((54, .aload_n 0, 1, 0, 0, 0, 0), (0, 0, 0)), ((55, .getfield 46, 3, 9, 6, 2125, 0), (1, 0, 52)), ((58, .getfield 139, 3, 4, 0, 1227, 0), (1, 52, 53))] (by decide +kernel) rfl ?_
    exact hx_call (E := (61, .invokevirtual 142, 3, 47, 0, 3078, 0)) (M' := yp_m47) [.inr (.inl 44), .inr (.inl 53)] [] rfl (by decide +kernel) rfl ⟨rfl, rfl⟩ rfl rfl (hx_mono (h1 c1) (fun r m' h' => hx_pick [0] h'))
  · have c1 : s0 = 0 := by have h : ¬ (s0 ≠ 0) := c1; omega
    refine hx_blk (npc := 49) (L' := [(0, .inr (.inl 0))]) (st' := [.inl (m 3 4)]) (m' := m) [((42, .aload_n 0, 1, 0, 0, 0, 0), (0, 0, 0)), ((43, .getfield 19, 3, 9, 1, 2120, 0), (1, 0, 3)), ((46, .getfield 136, 3, 1, 4, 1058, 0), (0, 3, 0))] (by decide +kernel) rfl ?_
    exact hx_reti (by decide +kernel) (h2 c1)

/-- law from 64 on -/
theorem hr22_64 {xs : List Int32} {n : Nat} {Q : hQ} {m : gx_M}
    (h1 : Q (some (.inl (m 44 7))) m) : hxn xs (n + 1) yp_m22 64 [(0, .inr (.inl 0))] [] m Q := by
  refine hx_blks (npc := 71) (L' := [(0, .inr (.inl 0))]) (st' := [.inl (m 44 7)]) (m' := m) ((64, .aload_n 0, 1, 0, 0, 0, 0), (0, 0, 0)) [((65, .getfield 39, 3, 9, 5, 2124, 0), (1, 0, 44)), ((68, .getfield 146, 3, 3, 7, 1188, 0), (0, 44, 0))] (by decide +kernel) rfl ?_
  exact hx_reti (by decide +kernel) h1

/-- copy from 0 on -/
theorem hr47_0 {xs : List Int32} {n : Nat} {Q : hQ} {m : gx_M}
    (h1 : Q none (gx_u (hcopy (hcopy (hcopy (hcopy (hcopy (hcopy m 54 0 45 0 240) 55 0 46 0 240) 56 0 47 0 16) 57 0 48 0 16) 58 0 49 0 16) 59 0 50 0 16) 44 7 ((hcopy (hcopy (hcopy (hcopy (hcopy (hcopy m 54 0 45 0 240) 55 0 46 0 240) 56 0 47 0 16) 57 0 48 0 16) 58 0 49 0 16) 59 0 50 0 16) 53 7))) : hxn xs (n + 1) yp_m47 0 [(0, .inr (.inl 44)), (1, .inr (.inl 53))] [] m Q := by
  refine hx_blks (npc := 100) (L' := [(0, .inr (.inl 44)), (1, .inr (.inl 53))]) (st' := []) (m' := (gx_u (hcopy (hcopy (hcopy (hcopy (hcopy (hcopy m 54 0 45 0 240) 55 0 46 0 240) 56 0 47 0 16) 57 0 48 0 16) 58 0 49 0 16) 59 0 50 0 16) 44 7 ((hcopy (hcopy (hcopy (hcopy (hcopy (hcopy m 54 0 45 0 240) 55 0 46 0 240) 56 0 47 0 16) 57 0 48 0 16) 58 0 49 0 16) 59 0 50 0 16) 53 7))) ((0, .aload_n 1, 1, 0, 0, 0, 0), (0, 0, 0)) [((1, .getfield 9, 3, 3, 0, 1178, 0), (1, 53, 54)), ((4, .iconst 0, 1, 0, 0, 0, 0), (0, 0, 0)), ((5, .aload_n 0, 1, 0, 0, 0, 0), (0, 0, 0)), ((6, .getfield 9, 3, 3, 0, 1178, 0), (1, 44, 45)), ((9, .iconst 0, 1, 0, 0, 0, 0), (0, 0, 0)), ((10, .sipush 240, 3, 0, 0, 0, 0), (0, 0, 0)), ((13, .invokestatic 33, 3, 1001, 2228, 3082, 1014), (0, 54, 45)), ((16, .aload_n 1, 1, 0, 0, 0, 0), (0, 0, 0)), ((17, .getfield 15, 3, 3, 1, 1179, 0), (1, 53, 55)), ((20, .iconst 0, 1, 0, 0, 0, 0), (0, 0, 0)), ((21, .aload_n 0, 1, 0, 0, 0, 0), (0, 0, 0)), ((22, .getfield 15, 3, 3, 1, 1179, 0), (1, 44, 46)), ((25, .iconst 0, 1, 0, 0, 0, 0), (0, 0, 0)), ((26, .sipush 240, 3, 0, 0, 0, 0), (0, 0, 0)), ((29, .invokestatic 33, 3, 1001, 2228, 3082, 1014), (0, 55, 46)), ((32, .aload_n 1, 1, 0, 0, 0, 0), (0, 0, 0)), ((33, .getfield 18, 3, 3, 3, 1182, 0), (1, 53, 56)), ((36, .iconst 0, 1, 0, 0, 0, 0), (0, 0, 0)), ((37, .aload_n 0, 1, 0, 0, 0, 0), (0, 0, 0)), ((38, .getfield 18, 3, 3, 3, 1182, 0), (1, 44, 47)), ((41, .iconst 0, 1, 0, 0, 0, 0), (0, 0, 0)), ((42, .bipush 16, 2, 0, 0, 0, 0), (0, 0, 0)), ((44, .invokestatic 33, 3, 1001, 2228, 3082, 1014), (0, 56, 47)), ((47, .aload_n 1, 1, 0, 0, 0, 0), (0, 0, 0)), ((48, .getfield 21, 3, 3, 4, 1183, 0), (1, 53, 57)), ((51, .iconst 0, 1, 0, 0, 0, 0), (0, 0, 0)), ((52, .aload_n 0, 1, 0, 0, 0, 0), (0, 0, 0)), ((53, .getfield 21, 3, 3, 4, 1183, 0), (1, 44, 48)), ((56, .iconst 0, 1, 0, 0, 0, 0), (0, 0, 0)), ((57, .bipush 16, 2, 0, 0, 0, 0), (0, 0, 0)), ((59, .invokestatic 33, 3, 1001, 2228, 3082, 1014), (0, 57, 48)), ((62, .aload_n 1, 1, 0, 0, 0, 0), (0, 0, 0)), ((63, .getfield 24, 3, 3, 5, 1184, 0), (1, 53, 58)), ((66, .iconst 0, 1, 0, 0, 0, 0), (0, 0, 0)), ((67, .aload_n 0, 1, 0, 0, 0, 0), (0, 0, 0)), ((68, .getfield 24, 3, 3, 5, 1184, 0), (1, 44, 49)), ((71, .iconst 0, 1, 0, 0, 0, 0), (0, 0, 0)), ((72, .bipush 16, 2, 0, 0, 0, 0), (0, 0, 0)), ((74, .invokestatic 33, 3, 1001, 2228, 3082, 1014), (0, 58, 49)), ((77, .aload_n 1, 1, 0, 0, 0, 0), (0, 0, 0)), ((78, .getfield 27, 3, 3, 6, 1185, 0), (1, 53, 59)), ((81, .iconst 0, 1, 0, 0, 0, 0), (0, 0, 0)), ((82, .aload_n 0, 1, 0, 0, 0, 0), (0, 0, 0)), ((83, .getfield 27, 3, 3, 6, 1185, 0), (1, 44, 50)), ((86, .iconst 0, 1, 0, 0, 0, 0), (0, 0, 0)), ((87, .bipush 16, 2, 0, 0, 0, 0), (0, 0, 0)), ((89, .invokestatic 33, 3, 1001, 2228, 3082, 1014), (0, 59, 50)), ((92, .aload_n 0, 1, 0, 0, 0, 0), (0, 0, 0)), ((93, .aload_n 1, 1, 0, 0, 0, 0), (0, 0, 0)), ((94, .getfield 39, 3, 3, 7, 1187, 0), (0, 53, 0)), ((97, .putfield 39, 3, 3, 7, 1187, 0), (0, 44, 0))] (by decide +kernel) rfl ?_
  exact hx_ret0 (by decide +kernel) h1

