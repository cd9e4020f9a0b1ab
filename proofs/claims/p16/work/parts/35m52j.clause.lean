/-! clauses as the reference reads them: roads -/
/-- isClause from 0 on -/
theorem hs171 {xs : List Int32} {n : Nat} {Q : hQ} {m : gx_M} {x0 : Int}
    (h1 : isKd x0 → Q (some (.inl 1)) m) (h0 : ¬ (isKd x0) → Q (some (.inl 0)) m) : hxn xs n yp_m171 0 [(0, .inl x0)] [] m Q := by
  refine hx_dn ?_
  refine hx_blks (npc := 3) (L' := [(0, .inl x0)]) (st' := [.inl 118, .inl x0]) (m' := m) ((0, .iload_n 0, 1, 0, 0, 0, 0), (0, 0, 0)) [((1, .bipush 118, 2, 0, 0, 0, 0), (0, 0, 0))] (by decide +kernel) rfl ?_
  refine hx_cmp .eq 30 (by decide +kernel) (fun c1 => ?_) (fun c1 => ?_)
  · have c1 : x0 = 118 := c1
    refine hx_blk (npc := 35) (L' := [(0, .inl x0)]) (st' := [.inl 1]) (m' := m) [((30, .iconst 1, 1, 0, 0, 0, 0), (0, 0, 0)), ((31, .goto 4, 3, 0, 0, 0, 0), (0, 0, 0))] (by decide +kernel) rfl ?_
    exact hx_reti (by decide +kernel) (h1 (by unfold isKd; omega))
  · have c1 : x0 ≠ 118 := c1
    refine hx_blk (npc := 9) (L' := [(0, .inl x0)]) (st' := [.inl 105, .inl x0]) (m' := m) [((6, .iload_n 0, 1, 0, 0, 0, 0), (0, 0, 0)), ((7, .bipush 105, 2, 0, 0, 0, 0), (0, 0, 0))] (by decide +kernel) rfl ?_
    refine hx_cmp .eq 30 (by decide +kernel) (fun c2 => ?_) (fun c2 => ?_)
    · have c2 : x0 = 105 := c2
      refine hx_blk (npc := 35) (L' := [(0, .inl x0)]) (st' := [.inl 1]) (m' := m) [((30, .iconst 1, 1, 0, 0, 0, 0), (0, 0, 0)), ((31, .goto 4, 3, 0, 0, 0, 0), (0, 0, 0))] (by decide +kernel) rfl ?_
      exact hx_reti (by decide +kernel) (h1 (by unfold isKd; omega))
    · have c2 : x0 ≠ 105 := c2
      refine hx_blk (npc := 15) (L' := [(0, .inl x0)]) (st' := [.inl 102, .inl x0]) (m' := m) [((12, .iload_n 0, 1, 0, 0, 0, 0), (0, 0, 0)), ((13, .bipush 102, 2, 0, 0, 0, 0), (0, 0, 0))] (by decide +kernel) rfl ?_
      refine hx_cmp .eq 30 (by decide +kernel) (fun c3 => ?_) (fun c3 => ?_)
      · have c3 : x0 = 102 := c3
        refine hx_blk (npc := 35) (L' := [(0, .inl x0)]) (st' := [.inl 1]) (m' := m) [((30, .iconst 1, 1, 0, 0, 0, 0), (0, 0, 0)), ((31, .goto 4, 3, 0, 0, 0, 0), (0, 0, 0))] (by decide +kernel) rfl ?_
        exact hx_reti (by decide +kernel) (h1 (by unfold isKd; omega))
      · have c3 : x0 ≠ 102 := c3
        refine hx_blk (npc := 21) (L' := [(0, .inl x0)]) (st' := [.inl 103, .inl x0]) (m' := m) [((18, .iload_n 0, 1, 0, 0, 0, 0), (0, 0, 0)), ((19, .bipush 103, 2, 0, 0, 0, 0), (0, 0, 0))] (by decide +kernel) rfl ?_
        refine hx_cmp .eq 30 (by decide +kernel) (fun c4 => ?_) (fun c4 => ?_)
        · have c4 : x0 = 103 := c4
          refine hx_blk (npc := 35) (L' := [(0, .inl x0)]) (st' := [.inl 1]) (m' := m) [((30, .iconst 1, 1, 0, 0, 0, 0), (0, 0, 0)), ((31, .goto 4, 3, 0, 0, 0, 0), (0, 0, 0))] (by decide +kernel) rfl ?_
          exact hx_reti (by decide +kernel) (h1 (by unfold isKd; omega))
        · have c4 : x0 ≠ 103 := c4
          refine hx_blk (npc := 27) (L' := [(0, .inl x0)]) (st' := [.inl 110, .inl x0]) (m' := m) [((24, .iload_n 0, 1, 0, 0, 0, 0), (0, 0, 0)), ((25, .bipush 110, 2, 0, 0, 0, 0), (0, 0, 0))] (by decide +kernel) rfl ?_
          refine hx_cmp .ne 34 (by decide +kernel) (fun c5 => ?_) (fun c5 => ?_)
          · have c5 : x0 ≠ 110 := c5
            refine hx_blk (npc := 35) (L' := [(0, .inl x0)]) (st' := [.inl 0]) (m' := m) [((34, .iconst 0, 1, 0, 0, 0, 0), (0, 0, 0))] (by decide +kernel) rfl ?_
            exact hx_reti (by decide +kernel) (h0 (by unfold isKd; omega))
          · have c5 : x0 = 110 := by have h : ¬ (x0 ≠ 110) := c5; omega
            refine hx_blk (npc := 35) (L' := [(0, .inl x0)]) (st' := [.inl 1]) (m' := m) [((30, .iconst 1, 1, 0, 0, 0, 0), (0, 0, 0)), ((31, .goto 4, 3, 0, 0, 0, 0), (0, 0, 0))] (by decide +kernel) rfl ?_
            exact hx_reti (by decide +kernel) (h1 (by unfold isKd; omega))

/-- readsClause from 0 on -/
theorem hr169_0 {xs : List Int32} {n : Nat} {Q : hQ} {m : gx_M}
    (h1 : (isKd (aHere m)) → ((m 86 12) ≠ 16) → ((aHere m) = 110) → hxn xs n yp_m184 0 [(0, .inr (.inl 86))] [] (gx_u (gx_u (gx_u (gx_u (gx_u (gx_u m 93 (m 86 12).toNat (aHere m)) 86 5 (gx_w ((m 86 5) + 1))) 94 (m 86 12).toNat (m 86 10)) 86 9 0) 86 11 0) 95 (m 86 12).toNat (m 86 10)) (fun r m' => hxn xs n yp_m169 116 [(0, .inr (.inl 86))] (hrs r ++ []) m' Q))
    (h2 : (isKd (aHere m)) → ((m 86 12) ≠ 16) → ((aHere m) ≠ 110) → hxn xs n yp_m173 0 [(0, .inr (.inl 86))] [] (gx_u (gx_u (gx_u (gx_u (gx_u m 93 (m 86 12).toNat (aHere m)) 86 5 (gx_w ((m 86 5) + 1))) 94 (m 86 12).toNat (m 86 10)) 86 9 0) 86 11 0) (fun r m' => hxn xs n yp_m169 94 [(0, .inr (.inl 86))] (hrs r ++ []) m' Q))
    (h3 : (isKd (aHere m)) → ((m 86 12) = 16) → hxn xs n yp_m172 0 [(0, .inr (.inl 86)), (1, .inl 4), (2, .inl (m 86 5))] [] m (fun r m' => hxn xs n yp_m169 40 [] (hrs r ++ []) m' Q))
    (h4 : (¬ (isKd (aHere m))) → hxn xs n yp_m172 0 [(0, .inr (.inl 86)), (1, .inl 1), (2, .inl (m 86 5))] [] m (fun r m' => hxn xs n yp_m169 21 [] (hrs r ++ []) m' Q)) : hxn xs (n + 1) yp_m169 0 [(0, .inr (.inl 86))] [] m Q := by
  refine hx_blks (npc := 1) (L' := [(0, .inr (.inl 86))]) (st' := [.inr (.inl 86)]) (m' := m) ((0, .aload_n 0, 1, 0, 0, 0, 0), (0, 0, 0)) [] (by decide +kernel) rfl ?_
  refine hx_call (E := (1, .invokevirtual 138, 3, 170, 0, 6054, 0)) (M' := yp_m170) [.inr (.inl 86)] [] rfl (by decide +kernel) rfl ⟨rfl, rfl⟩ rfl rfl (hs170 ?_)
  show hxn xs n yp_m169 4 [(0, .inr (.inl 86))] [.inl (aHere m)] m Q
  refine hx_blk (npc := 6) (L' := [(0, .inr (.inl 86)), (1, .inl (aHere m))]) (st' := [.inl (aHere m)]) (m' := m) [((4, .istore_n 1, 1, 0, 0, 0, 0), (0, 0, 0)), ((5, .iload_n 1, 1, 0, 0, 0, 0), (0, 0, 0))] (by decide +kernel) rfl ?_
  refine hx_call (E := (6, .invokestatic 210, 3, 171, 0, 6058, 0)) (M' := yp_m171) [.inl (aHere m)] [] rfl (by decide +kernel) rfl ⟨rfl, rfl⟩ rfl rfl (hs171 (fun c1 => ?_) (fun c1 => ?_))
  · have c1 : isKd (aHere m) := c1
    show hxn xs n yp_m169 9 [(0, .inr (.inl 86)), (1, .inl (aHere m))] [.inl 1] m Q
    refine hx_if .ne 22 (by decide +kernel) (fun c2 => ?_) (fun c2 => ?_)
    · have c2 : (1 : Int) ≠ 0 := c2
      refine hx_blk (npc := 28) (L' := [(0, .inr (.inl 86)), (1, .inl (aHere m))]) (st' := [.inl 16, .inl (m 86 12)]) (m' := m) [((22, .aload_n 0, 1, 0, 0, 0, 0), (0, 0, 0)), ((23, .getfield 213, 3, 10, 12, 5125, 0), (0, 86, 0)), ((26, .bipush 16, 2, 0, 0, 0, 0), (0, 0, 0))] (by decide +kernel) rfl ?_
      refine hx_cmp .ne 41 (by decide +kernel) (fun c2 => ?_) (fun c2 => ?_)
      · have c2 : (m 86 12) ≠ 16 := c2
        refine hx_blk (npc := 87) (L' := [(0, .inr (.inl 86)), (1, .inl (aHere m))]) (st' := [.inl 110, .inl (aHere m)]) (m' := (gx_u (gx_u (gx_u (gx_u (gx_u m 93 (m 86 12).toNat (aHere m)) 86 5 (gx_w ((m 86 5) + 1))) 94 (m 86 12).toNat (m 86 10)) 86 9 0) 86 11 0)) [((41, .aload_n 0, 1, 0, 0, 0, 0), (0, 0, 0)), ((42, .getfield 29, 3, 10, 16, 5129, 0), (1, 86, 93)), ((45, .aload_n 0, 1, 0, 0, 0, 0), (0, 0, 0)), ((46, .getfield 213, 3, 10, 12, 5125, 0), (0, 86, 0)), ((49, .iload_n 1, 1, 0, 0, 0, 0), (0, 0, 0)), ((50, .iastore, 1, 0, 0, 0, 0), (0, 93, 0)), ((51, .aload_n 0, 1, 0, 0, 0, 0), (0, 0, 0)), ((52, .aload_n 0, 1, 0, 0, 0, 0), (0, 0, 0)), ((53, .getfield 132, 3, 10, 5, 5118, 0), (0, 86, 0)), ((56, .iconst 1, 1, 0, 0, 0, 0), (0, 0, 0)), ((57, .iadd, 1, 0, 0, 0, 0), (0, 0, 0)), ((58, .putfield 132, 3, 10, 5, 5118, 0), (0, 86, 0)), ((61, .aload_n 0, 1, 0, 0, 0, 0), (0, 0, 0)), ((62, .getfield 32, 3, 10, 17, 5130, 0), (1, 86, 94)), ((65, .aload_n 0, 1, 0, 0, 0, 0), (0, 0, 0)), ((66, .getfield 213, 3, 10, 12, 5125, 0), (0, 86, 0)), ((69, .aload_n 0, 1, 0, 0, 0, 0), (0, 0, 0)), ((70, .getfield 155, 3, 10, 10, 5123, 0), (0, 86, 0)), ((73, .iastore, 1, 0, 0, 0, 0), (0, 94, 0)), ((74, .aload_n 0, 1, 0, 0, 0, 0), (0, 0, 0)), ((75, .iconst 0, 1, 0, 0, 0, 0), (0, 0, 0)), ((76, .putfield 159, 3, 10, 9, 5122, 0), (0, 86, 0)), ((79, .aload_n 0, 1, 0, 0, 0, 0), (0, 0, 0)), ((80, .iconst 0, 1, 0, 0, 0, 0), (0, 0, 0)), ((81, .putfield 162, 3, 10, 11, 5124, 0), (0, 86, 0)), ((84, .iload_n 1, 1, 0, 0, 0, 0), (0, 0, 0)), ((85, .bipush 110, 2, 0, 0, 0, 0), (0, 0, 0))] (by decide +kernel) rfl ?_
        refine hx_cmp .eq 99 (by decide +kernel) (fun c3 => ?_) (fun c3 => ?_)
        · have c3 : (aHere m) = 110 := c3
          refine hx_blk (npc := 113) (L' := [(0, .inr (.inl 86)), (1, .inl (aHere m))]) (st' := [.inr (.inl 86)]) (m' := (gx_u (gx_u (gx_u (gx_u (gx_u (gx_u m 93 (m 86 12).toNat (aHere m)) 86 5 (gx_w ((m 86 5) + 1))) 94 (m 86 12).toNat (m 86 10)) 86 9 0) 86 11 0) 95 (m 86 12).toNat (m 86 10))) [((99, .aload_n 0, 1, 0, 0, 0, 0), (0, 0, 0)), ((100, .getfield 35, 3, 10, 18, 5131, 0), (1, 86, 95)), ((103, .aload_n 0, 1, 0, 0, 0, 0), (0, 0, 0)), ((104, .getfield 213, 3, 10, 12, 5125, 0), (0, 86, 0)), ((107, .aload_n 0, 1, 0, 0, 0, 0), (0, 0, 0)), ((108, .getfield 155, 3, 10, 10, 5123, 0), (0, 86, 0)), ((111, .iastore, 1, 0, 0, 0, 0), (0, 95, 0)), ((112, .aload_n 0, 1, 0, 0, 0, 0), (0, 0, 0))] (by decide +kernel) rfl ?_
          exact hx_call (E := (113, .invokevirtual 216, 3, 184, 0, 6108, 0)) (M' := yp_m184) [.inr (.inl 86)] [] rfl (by decide +kernel) rfl ⟨rfl, rfl⟩ rfl rfl (hx_mono (h1 c1 c2 c3) (fun r m' h' => hx_pick [0] h'))
        · have c3 : (aHere m) ≠ 110 := c3
          refine hx_blk (npc := 91) (L' := [(0, .inr (.inl 86)), (1, .inl (aHere m))]) (st' := [.inr (.inl 86)]) (m' := (gx_u (gx_u (gx_u (gx_u (gx_u m 93 (m 86 12).toNat (aHere m)) 86 5 (gx_w ((m 86 5) + 1))) 94 (m 86 12).toNat (m 86 10)) 86 9 0) 86 11 0)) [((90, .aload_n 0, 1, 0, 0, 0, 0), (0, 0, 0))] (by decide +kernel) rfl ?_
          exact hx_call (E := (91, .invokevirtual 195, 3, 173, 0, 6065, 0)) (M' := yp_m173) [.inr (.inl 86)] [] rfl (by decide +kernel) rfl ⟨rfl, rfl⟩ rfl rfl (hx_mono (h2 c1 c2 c3) (fun r m' h' => hx_pick [0] h'))
      · have c2 : (m 86 12) = 16 := by have h : ¬ ((m 86 12) ≠ 16) := c2; omega
        refine hx_blk (npc := 37) (L' := [(0, .inr (.inl 86)), (1, .inl (aHere m))]) (st' := [.inl (m 86 5), .inl 4, .inr (.inl 86)]) (m' := m) [((31, .aload_n 0, 1, 0, 0, 0, 0), (0, 0, 0)), ((32, .iconst 4, 1, 0, 0, 0, 0), (0, 0, 0)), ((33, .aload_n 0, 1, 0, 0, 0, 0), (0, 0, 0)), ((34, .getfield 132, 3, 10, 5, 5118, 0), (0, 86, 0))] (by decide +kernel) rfl ?_
        exact hx_call (E := (37, .invokevirtual 145, 3, 172, 0, 6061, 0)) (M' := yp_m172) [.inr (.inl 86), .inl 4, .inl (m 86 5)] [] rfl (by decide +kernel) rfl ⟨rfl, rfl⟩ rfl rfl (hx_mono (h3 c1 c2) (fun r m' h' => hx_pick [] h'))
    · have c2 : (1 : Int) = 0 := by have h : ¬ ((1 : Int) ≠ 0) := c2; omega
      exfalso; omega
  · have c1 : ¬ (isKd (aHere m)) := c1
    show hxn xs n yp_m169 9 [(0, .inr (.inl 86)), (1, .inl (aHere m))] [.inl 0] m Q
    refine hx_if .ne 22 (by decide +kernel) (fun c2 => ?_) (fun c2 => ?_)
    · have c2 : (0 : Int) ≠ 0 := c2
      exfalso; omega
    · have c2 : (0 : Int) = 0 := by have h : ¬ ((0 : Int) ≠ 0) := c2; omega
      refine hx_blk (npc := 18) (L' := [(0, .inr (.inl 86)), (1, .inl (aHere m))]) (st' := [.inl (m 86 5), .inl 1, .inr (.inl 86)]) (m' := m) [((12, .aload_n 0, 1, 0, 0, 0, 0), (0, 0, 0)), ((13, .iconst 1, 1, 0, 0, 0, 0), (0, 0, 0)), ((14, .aload_n 0, 1, 0, 0, 0, 0), (0, 0, 0)), ((15, .getfield 132, 3, 10, 5, 5118, 0), (0, 86, 0))] (by decide +kernel) rfl ?_
      exact hx_call (E := (18, .invokevirtual 145, 3, 172, 0, 6061, 0)) (M' := yp_m172) [.inr (.inl 86), .inl 1, .inl (m 86 5)] [] rfl (by decide +kernel) rfl ⟨rfl, rfl⟩ rfl rfl (hx_mono (h4 c1) (fun r m' h' => hx_pick [] h'))

/-- readsClause from 21 on -/
theorem hr169_21 {xs : List Int32} {n : Nat} {Q : hQ} {m : gx_M} {s0 : Int}
    (h1 : Q (some (.inl s0)) m) : hxn xs (n + 1) yp_m169 21 [] [.inl s0] m Q := by
  exact hx_reti (by decide +kernel) h1

/-- readsClause from 40 on -/
theorem hr169_40 {xs : List Int32} {n : Nat} {Q : hQ} {m : gx_M} {s0 : Int}
    (h1 : Q (some (.inl s0)) m) : hxn xs (n + 1) yp_m169 40 [] [.inl s0] m Q := by
  exact hx_reti (by decide +kernel) h1

/-- readsClause from 94 on -/
theorem hr169_94 {xs : List Int32} {n : Nat} {Q : hQ} {m : gx_M} {s0 : Int}
    (h1 : (s0 ≠ 0) → hxn xs n yp_m184 0 [(0, .inr (.inl 86))] [] (gx_u m 95 (m 86 12).toNat (m 86 10)) (fun r m' => hxn xs n yp_m169 116 [(0, .inr (.inl 86))] (hrs r ++ []) m' Q))
    (h2 : (s0 = 0) → Q (some (.inl 0)) m) : hxn xs (n + 1) yp_m169 94 [(0, .inr (.inl 86))] [.inl s0] m Q := by
  refine hx_ifs .ne 99 (by decide +kernel) (fun c1 => ?_) (fun c1 => ?_)
  · have c1 : s0 ≠ 0 := c1
    refine hx_blk (npc := 113) (L' := [(0, .inr (.inl 86))]) (st' := [.inr (.inl 86)]) (m' := (gx_u m 95 (m 86 12).toNat (m 86 10))) [((99, .aload_n 0, 1, 0, 0, 0, 0), (0, 0, 0)), ((100, .getfield 35, 3, 10, 18, 5131, 0), (1, 86, 95)), ((103, .aload_n 0, 1, 0, 0, 0, 0), (0, 0, 0)), ((104, .getfield 213, 3, 10, 12, 5125, 0), (0, 86, 0)), ((107, .aload_n 0, 1, 0, 0, 0, 0), (0, 0, 0)), ((108, .getfield 155, 3, 10, 10, 5123, 0), (0, 86, 0)), ((111, .iastore, 1, 0, 0, 0, 0), (0, 95, 0)), ((112, .aload_n 0, 1, 0, 0, 0, 0), (0, 0, 0))] (by decide +kernel) rfl ?_
    exact hx_call (E := (113, .invokevirtual 216, 3, 184, 0, 6108, 0)) (M' := yp_m184) [.inr (.inl 86)] [] rfl (by decide +kernel) rfl ⟨rfl, rfl⟩ rfl rfl (hx_mono (h1 c1) (fun r m' h' => hx_pick [0] h'))
  · have c1 : s0 = 0 := by have h : ¬ (s0 ≠ 0) := c1; omega
    refine hx_blk (npc := 98) (L' := [(0, .inr (.inl 86))]) (st' := [.inl 0]) (m' := m) [((97, .iconst 0, 1, 0, 0, 0, 0), (0, 0, 0))] (by decide +kernel) rfl ?_
    exact hx_reti (by decide +kernel) (h2 c1)

/-- readsClause from 116 on -/
theorem hr169_116 {xs : List Int32} {n : Nat} {Q : hQ} {m : gx_M} {s0 : Int}
    (h1 : (s0 ≠ 0) → Q (some (.inl 1)) (gx_u (gx_u m 96 (m 86 12).toNat (m 86 10)) 86 12 (gx_w ((m 86 12) + 1))))
    (h2 : (s0 = 0) → Q (some (.inl 0)) m) : hxn xs (n + 1) yp_m169 116 [(0, .inr (.inl 86))] [.inl s0] m Q := by
  refine hx_ifs .ne 121 (by decide +kernel) (fun c1 => ?_) (fun c1 => ?_)
  · have c1 : s0 ≠ 0 := c1
    refine hx_blk (npc := 145) (L' := [(0, .inr (.inl 86))]) (st' := [.inl 1]) (m' := (gx_u (gx_u m 96 (m 86 12).toNat (m 86 10)) 86 12 (gx_w ((m 86 12) + 1)))) [((121, .aload_n 0, 1, 0, 0, 0, 0), (0, 0, 0)), ((122, .getfield 38, 3, 10, 19, 5132, 0), (1, 86, 96)), ((125, .aload_n 0, 1, 0, 0, 0, 0), (0, 0, 0)), ((126, .getfield 213, 3, 10, 12, 5125, 0), (0, 86, 0)), ((129, .aload_n 0, 1, 0, 0, 0, 0), (0, 0, 0)), ((130, .getfield 155, 3, 10, 10, 5123, 0), (0, 86, 0)), ((133, .iastore, 1, 0, 0, 0, 0), (0, 96, 0)), ((134, .aload_n 0, 1, 0, 0, 0, 0), (0, 0, 0)), ((135, .aload_n 0, 1, 0, 0, 0, 0), (0, 0, 0)), ((136, .getfield 213, 3, 10, 12, 5125, 0), (0, 86, 0)), ((139, .iconst 1, 1, 0, 0, 0, 0), (0, 0, 0)), ((140, .iadd, 1, 0, 0, 0, 0), (0, 0, 0)), ((141, .putfield 213, 3, 10, 12, 5125, 0), (0, 86, 0)), ((144, .iconst 1, 1, 0, 0, 0, 0), (0, 0, 0))] (by decide +kernel) rfl ?_
    exact hx_reti (by decide +kernel) (h1 c1)
  · have c1 : s0 = 0 := by have h : ¬ (s0 ≠ 0) := c1; omega
    refine hx_blk (npc := 120) (L' := [(0, .inr (.inl 86))]) (st' := [.inl 0]) (m' := m) [((119, .iconst 0, 1, 0, 0, 0, 0), (0, 0, 0))] (by decide +kernel) rfl ?_
    exact hx_reti (by decide +kernel) (h2 c1)

/-- law from 0 on -/
theorem hr168_0 {xs : List Int32} {n : Nat} {Q : hQ} {m : gx_M} {x1 : Int}
    (h1 : (1 ≤ x1 ∧ x1 ≤ 240) → (x1 ≤ (m 86 4)) → hxn xs n yp_m169 0 [(0, .inr (.inl 86))] [] (gx_u (gx_u (gx_u (gx_u m 86 5 0) 86 6 x1) 86 10 0) 86 12 0) (fun r m' => hxn xs n yp_m168 45 [(0, .inr (.inl 86))] (hrs r ++ []) m' Q))
    (h2 : (1 ≤ x1 ∧ x1 ≤ 240) → ((m 86 4) < x1) → Q (some (.inl (-1))) m)
    (h3 : (¬ (1 ≤ x1 ∧ x1 ≤ 240)) → Q (some (.inl (-1))) m) : hxn xs (n + 1) yp_m168 0 [(0, .inr (.inl 86)), (1, .inl x1)] [] m Q := by
  refine hx_blks (npc := 5) (L' := [(0, .inr (.inl 86)), (1, .inl x1)]) (st' := [.inl 240, .inl 1, .inl x1]) (m' := m) ((0, .iload_n 1, 1, 0, 0, 0, 0), (0, 0, 0)) [((1, .iconst 1, 1, 0, 0, 0, 0), (0, 0, 0)), ((2, .sipush 240, 3, 0, 0, 0, 0), (0, 0, 0))] (by decide +kernel) rfl ?_
  refine hx_call (E := (5, .invokestatic 108, 3, 162, 0, 6023, 0)) (M' := yp_m162) [.inl x1, .inl 1, .inl 240] [] rfl (by decide +kernel) rfl ⟨rfl, rfl⟩ rfl rfl (hs162 (fun c1 => ?_) (fun c1 => ?_))
  · have c1 : 1 ≤ x1 ∧ x1 ≤ 240 := c1
    show hxn xs n yp_m168 8 [(0, .inr (.inl 86)), (1, .inl x1)] [.inl 1] m Q
    refine hx_if .eq 19 (by decide +kernel) (fun c2 => ?_) (fun c2 => ?_)
    · have c2 : (1 : Int) = 0 := c2
      exfalso; omega
    · have c2 : (1 : Int) ≠ 0 := c2
      refine hx_blk (npc := 16) (L' := [(0, .inr (.inl 86)), (1, .inl x1)]) (st' := [.inl (m 86 4), .inl x1]) (m' := m) [((11, .iload_n 1, 1, 0, 0, 0, 0), (0, 0, 0)), ((12, .aload_n 0, 1, 0, 0, 0, 0), (0, 0, 0)), ((13, .getfield 124, 3, 10, 4, 5117, 0), (0, 86, 0))] (by decide +kernel) rfl ?_
      refine hx_cmp .le 21 (by decide +kernel) (fun c2 => ?_) (fun c2 => ?_)
      · have c2 : x1 ≤ (m 86 4) := c2
        refine hx_blk (npc := 42) (L' := [(0, .inr (.inl 86)), (1, .inl x1)]) (st' := [.inr (.inl 86)]) (m' := (gx_u (gx_u (gx_u (gx_u m 86 5 0) 86 6 x1) 86 10 0) 86 12 0)) [((21, .aload_n 0, 1, 0, 0, 0, 0), (0, 0, 0)), ((22, .iconst 0, 1, 0, 0, 0, 0), (0, 0, 0)), ((23, .putfield 132, 3, 10, 5, 5118, 0), (0, 86, 0)), ((26, .aload_n 0, 1, 0, 0, 0, 0), (0, 0, 0)), ((27, .iload_n 1, 1, 0, 0, 0, 0), (0, 0, 0)), ((28, .putfield 135, 3, 10, 6, 5119, 0), (0, 86, 0)), ((31, .aload_n 0, 1, 0, 0, 0, 0), (0, 0, 0)), ((32, .iconst 0, 1, 0, 0, 0, 0), (0, 0, 0)), ((33, .putfield 155, 3, 10, 10, 5123, 0), (0, 86, 0)), ((36, .aload_n 0, 1, 0, 0, 0, 0), (0, 0, 0)), ((37, .iconst 0, 1, 0, 0, 0, 0), (0, 0, 0)), ((38, .putfield 213, 3, 10, 12, 5125, 0), (0, 86, 0)), ((41, .aload_n 0, 1, 0, 0, 0, 0), (0, 0, 0))] (by decide +kernel) rfl ?_
        exact hx_call (E := (42, .invokevirtual 219, 3, 169, 0, 6050, 0)) (M' := yp_m169) [.inr (.inl 86)] [] rfl (by decide +kernel) rfl ⟨rfl, rfl⟩ rfl rfl (hx_mono (h1 c1 c2) (fun r m' h' => hx_pick [0] h'))
      · have c2 : (m 86 4) < x1 := by have h : ¬ (x1 ≤ (m 86 4)) := c2; omega
        refine hx_blk (npc := 20) (L' := [(0, .inr (.inl 86)), (1, .inl x1)]) (st' := [.inl (-1)]) (m' := m) [((19, .iconst (-1), 1, 0, 0, 0, 0), (0, 0, 0))] (by decide +kernel) rfl ?_
        exact hx_reti (by decide +kernel) (h2 c1 c2)
  · have c1 : ¬ (1 ≤ x1 ∧ x1 ≤ 240) := c1
    show hxn xs n yp_m168 8 [(0, .inr (.inl 86)), (1, .inl x1)] [.inl 0] m Q
    refine hx_if .eq 19 (by decide +kernel) (fun c2 => ?_) (fun c2 => ?_)
    · have c2 : (0 : Int) = 0 := c2
      refine hx_blk (npc := 20) (L' := [(0, .inr (.inl 86)), (1, .inl x1)]) (st' := [.inl (-1)]) (m' := m) [((19, .iconst (-1), 1, 0, 0, 0, 0), (0, 0, 0))] (by decide +kernel) rfl ?_
      exact hx_reti (by decide +kernel) (h3 c1)
    · have c2 : (0 : Int) ≠ 0 := c2
      exfalso; omega

/-- law from 45 on -/
theorem hr168_45 {xs : List Int32} {n : Nat} {Q : hQ} {m : gx_M} {s0 : Int}
    (h1 : hxn xs n yp_m168 46 [(0, .inr (.inl 86)), (2, .inl s0)] [] m Q) : hxn xs (n + 1) yp_m168 45 [(0, .inr (.inl 86))] [.inl s0] m Q := by
  refine hx_blks (npc := 46) (L' := [(0, .inr (.inl 86)), (2, .inl s0)]) (st' := []) (m' := m) ((45, .istore_n 2, 1, 0, 0, 0, 0), (0, 0, 0)) [] (by decide +kernel) rfl ?_
  exact hx_pick [0, 2] h1

/-- law from 46 on -/
theorem hr168_46 {xs : List Int32} {n : Nat} {Q : hQ} {m : gx_M} {x2 : Int}
    (h1 : (x2 = 0) → (x2 = 0) → Q (some (.inl (m 86 7))) (gx_u m 86 4 0))
    (h2 : (x2 ≠ 0) → ((m 86 6) ≤ (m 86 5)) → (x2 ≠ 0) → hxn xs n yp_m168 110 [(0, .inr (.inl 86)), (3, .inl 0)] [] (gx_u (gx_u m 86 4 0) 86 13 (m 86 12)) Q)
    (h3 : (x2 ≠ 0) → ((m 86 6) ≤ (m 86 5)) → (x2 = 0) → Q (some (.inl (m 86 7))) (gx_u m 86 4 0))
    (h4 : (x2 ≠ 0) → ((m 86 5) < (m 86 6)) → hxn xs n yp_m189 0 [(0, .inr (.inl 86)), (1, .inl 59)] [] m (fun r m' => hxn xs n yp_m168 67 [(0, .inr (.inl 86))] (hrs r ++ []) m' Q)) : hxn xs (n + 1) yp_m168 46 [(0, .inr (.inl 86)), (2, .inl x2)] [] m Q := by
  refine hx_blks (npc := 47) (L' := [(0, .inr (.inl 86)), (2, .inl x2)]) (st' := [.inl x2]) (m' := m) ((46, .iload_n 2, 1, 0, 0, 0, 0), (0, 0, 0)) [] (by decide +kernel) rfl ?_
  refine hx_if .eq 86 (by decide +kernel) (fun c1 => ?_) (fun c1 => ?_)
  · have c1 : x2 = 0 := c1
    refine hx_blk (npc := 92) (L' := [(0, .inr (.inl 86)), (2, .inl x2)]) (st' := [.inl x2]) (m' := (gx_u m 86 4 0)) [((86, .aload_n 0, 1, 0, 0, 0, 0), (0, 0, 0)), ((87, .iconst 0, 1, 0, 0, 0, 0), (0, 0, 0)), ((88, .putfield 124, 3, 10, 4, 5117, 0), (0, 86, 0)), ((91, .iload_n 2, 1, 0, 0, 0, 0), (0, 0, 0))] (by decide +kernel) rfl ?_
    refine hx_if .ne 100 (by decide +kernel) (fun c2 => ?_) (fun c2 => ?_)
    · have c2 : x2 ≠ 0 := c2
      exfalso; omega
    · have c2 : x2 = 0 := by have h : ¬ (x2 ≠ 0) := c2; omega
      refine hx_blk (npc := 99) (L' := [(0, .inr (.inl 86)), (2, .inl x2)]) (st' := [.inl (m 86 7)]) (m' := (gx_u m 86 4 0)) [((95, .aload_n 0, 1, 0, 0, 0, 0), (0, 0, 0)), ((96, .getfield 142, 3, 10, 7, 5120, 0), (0, 86, 0))] (by decide +kernel) rfl ?_
      exact hx_reti (by decide +kernel) (h1 c1 c2)
  · have c1 : x2 ≠ 0 := c1
    refine hx_blk (npc := 58) (L' := [(0, .inr (.inl 86)), (2, .inl x2)]) (st' := [.inl (m 86 6), .inl (m 86 5)]) (m' := m) [((50, .aload_n 0, 1, 0, 0, 0, 0), (0, 0, 0)), ((51, .getfield 132, 3, 10, 5, 5118, 0), (0, 86, 0)), ((54, .aload_n 0, 1, 0, 0, 0, 0), (0, 0, 0)), ((55, .getfield 135, 3, 10, 6, 5119, 0), (0, 86, 0))] (by decide +kernel) rfl ?_
    refine hx_cmp .ge 86 (by decide +kernel) (fun c2 => ?_) (fun c2 => ?_)
    · have c2 : (m 86 6) ≤ (m 86 5) := c2
      refine hx_blk (npc := 92) (L' := [(0, .inr (.inl 86)), (2, .inl x2)]) (st' := [.inl x2]) (m' := (gx_u m 86 4 0)) [((86, .aload_n 0, 1, 0, 0, 0, 0), (0, 0, 0)), ((87, .iconst 0, 1, 0, 0, 0, 0), (0, 0, 0)), ((88, .putfield 124, 3, 10, 4, 5117, 0), (0, 86, 0)), ((91, .iload_n 2, 1, 0, 0, 0, 0), (0, 0, 0))] (by decide +kernel) rfl ?_
      refine hx_if .ne 100 (by decide +kernel) (fun c3 => ?_) (fun c3 => ?_)
      · have c3 : x2 ≠ 0 := c3
        refine hx_blk (npc := 110) (L' := [(0, .inr (.inl 86)), (2, .inl x2), (3, .inl 0)]) (st' := []) (m' := (gx_u (gx_u m 86 4 0) 86 13 (m 86 12))) [((100, .aload_n 0, 1, 0, 0, 0, 0), (0, 0, 0)), ((101, .aload_n 0, 1, 0, 0, 0, 0), (0, 0, 0)), ((102, .getfield 213, 3, 10, 12, 5125, 0), (0, 86, 0)), ((105, .putfield 225, 3, 10, 13, 5126, 0), (0, 86, 0)), ((108, .iconst 0, 1, 0, 0, 0, 0), (0, 0, 0)), ((109, .istore_n 3, 1, 0, 0, 0, 0), (0, 0, 0))] (by decide +kernel) rfl ?_
        exact hx_pick [0, 3] (h2 c1 c2 c3)
      · have c3 : x2 = 0 := by have h : ¬ (x2 ≠ 0) := c3; omega
        refine hx_blk (npc := 99) (L' := [(0, .inr (.inl 86)), (2, .inl x2)]) (st' := [.inl (m 86 7)]) (m' := (gx_u m 86 4 0)) [((95, .aload_n 0, 1, 0, 0, 0, 0), (0, 0, 0)), ((96, .getfield 142, 3, 10, 7, 5120, 0), (0, 86, 0))] (by decide +kernel) rfl ?_
        exact hx_reti (by decide +kernel) (h3 c1 c2 c3)
    · have c2 : (m 86 5) < (m 86 6) := by have h : ¬ ((m 86 6) ≤ (m 86 5)) := c2; omega
      refine hx_blk (npc := 64) (L' := [(0, .inr (.inl 86)), (2, .inl x2)]) (st' := [.inl 59, .inr (.inl 86)]) (m' := m) [((61, .aload_n 0, 1, 0, 0, 0, 0), (0, 0, 0)), ((62, .bipush 59, 2, 0, 0, 0, 0), (0, 0, 0))] (by decide +kernel) rfl ?_
      exact hx_call (E := (64, .invokevirtual 222, 3, 189, 0, 6128, 0)) (M' := yp_m189) [.inr (.inl 86), .inl 59] [] rfl (by decide +kernel) rfl ⟨rfl, rfl⟩ rfl rfl (hx_mono (h4 c1 c2) (fun r m' h' => hx_pick [0] h'))

/-- law from 67 on -/
theorem hr168_67 {xs : List Int32} {n : Nat} {Q : hQ} {m : gx_M} {s0 : Int}
    (h1 : (s0 = 0) → hxn xs n yp_m168 46 [(0, .inr (.inl 86)), (2, .inl 0)] [] m Q)
    (h2 : (s0 ≠ 0) → hxn xs n yp_m169 0 [(0, .inr (.inl 86))] [] m (fun r m' => hxn xs n yp_m168 74 [(0, .inr (.inl 86))] (hrs r ++ []) m' Q)) : hxn xs (n + 1) yp_m168 67 [(0, .inr (.inl 86))] [.inl s0] m Q := by
  refine hx_ifs .eq 81 (by decide +kernel) (fun c1 => ?_) (fun c1 => ?_)
  · have c1 : s0 = 0 := c1
    refine hx_blk (npc := 46) (L' := [(0, .inr (.inl 86)), (2, .inl 0)]) (st' := []) (m' := m) [((81, .iconst 0, 1, 0, 0, 0, 0), (0, 0, 0)), ((82, .istore_n 2, 1, 0, 0, 0, 0), (0, 0, 0)), ((83, .goto (-37), 3, 0, 0, 0, 0), (0, 0, 0))] (by decide +kernel) rfl ?_
    exact hx_pick [0, 2] (h1 c1)
  · have c1 : s0 ≠ 0 := c1
    refine hx_blk (npc := 71) (L' := [(0, .inr (.inl 86))]) (st' := [.inr (.inl 86)]) (m' := m) [((70, .aload_n 0, 1, 0, 0, 0, 0), (0, 0, 0))] (by decide +kernel) rfl ?_
    exact hx_call (E := (71, .invokevirtual 219, 3, 169, 0, 6050, 0)) (M' := yp_m169) [.inr (.inl 86)] [] rfl (by decide +kernel) rfl ⟨rfl, rfl⟩ rfl rfl (hx_mono (h2 c1) (fun r m' h' => hx_pick [0] h'))

/-- law from 74 on -/
theorem hr168_74 {xs : List Int32} {n : Nat} {Q : hQ} {m : gx_M} {s0 : Int}
    (h1 : (s0 = 0) → hxn xs n yp_m168 46 [(0, .inr (.inl 86)), (2, .inl 0)] [] m Q)
    (h2 : (s0 ≠ 0) → hxn xs n yp_m168 46 [(0, .inr (.inl 86)), (2, .inl 1)] [] m Q) : hxn xs (n + 1) yp_m168 74 [(0, .inr (.inl 86))] [.inl s0] m Q := by
  refine hx_ifs .eq 81 (by decide +kernel) (fun c1 => ?_) (fun c1 => ?_)
  · have c1 : s0 = 0 := c1
    refine hx_blk (npc := 46) (L' := [(0, .inr (.inl 86)), (2, .inl 0)]) (st' := []) (m' := m) [((81, .iconst 0, 1, 0, 0, 0, 0), (0, 0, 0)), ((82, .istore_n 2, 1, 0, 0, 0, 0), (0, 0, 0)), ((83, .goto (-37), 3, 0, 0, 0, 0), (0, 0, 0))] (by decide +kernel) rfl ?_
    exact hx_pick [0, 2] (h1 c1)
  · have c1 : s0 ≠ 0 := c1
    refine hx_blk (npc := 46) (L' := [(0, .inr (.inl 86)), (2, .inl 1)]) (st' := []) (m' := m) [((77, .iconst 1, 1, 0, 0, 0, 0), (0, 0, 0)), ((78, .goto 4, 3, 0, 0, 0, 0), (0, 0, 0)), ((82, .istore_n 2, 1, 0, 0, 0, 0), (0, 0, 0)), ((83, .goto (-37), 3, 0, 0, 0, 0), (0, 0, 0))] (by decide +kernel) rfl ?_
    exact hx_pick [0, 2] (h2 c1)

/-- law from 110 on -/
theorem hr168_110 {xs : List Int32} {n : Nat} {Q : hQ} {m : gx_M} {x3 : Int} (r_x3 : 0 ≤ x3 ∧ x3 ≤ 240)
    (h1 : ((m 86 10) ≤ x3) → hxn xs n yp_m168 138 [(0, .inr (.inl 86)), (3, .inl 0)] [] m Q)
    (h2 : (x3 < (m 86 10)) → hxn xs n yp_m168 110 [(0, .inr (.inl 86)), (3, .inl (x3 + 1))] [] (gx_u m 97 (x3).toNat (m 91 (x3).toNat)) Q) : hxn xs (n + 1) yp_m168 110 [(0, .inr (.inl 86)), (3, .inl x3)] [] m Q := by
  refine hx_blks (npc := 115) (L' := [(0, .inr (.inl 86)), (3, .inl x3)]) (st' := [.inl (m 86 10), .inl x3]) (m' := m) ((110, .iload_n 3, 1, 0, 0, 0, 0), (0, 0, 0)) [((111, .aload_n 0, 1, 0, 0, 0, 0), (0, 0, 0)), ((112, .getfield 155, 3, 10, 10, 5123, 0), (0, 86, 0))] (by decide +kernel) rfl ?_
  refine hx_cmp .ge 136 (by decide +kernel) (fun c1 => ?_) (fun c1 => ?_)
  · have c1 : (m 86 10) ≤ x3 := c1
    refine hx_blk (npc := 138) (L' := [(0, .inr (.inl 86)), (3, .inl 0)]) (st' := []) (m' := m) [((136, .iconst 0, 1, 0, 0, 0, 0), (0, 0, 0)), ((137, .istore_n 3, 1, 0, 0, 0, 0), (0, 0, 0))] (by decide +kernel) rfl ?_
    exact hx_pick [0, 3] (h1 c1)
  · have c1 : x3 < (m 86 10) := by have h : ¬ ((m 86 10) ≤ x3) := c1; omega
    have e1 : gx_w (x3 + 1) = x3 + 1 := gx_w_id (by omega) (by omega)
    refine hx_blk (npc := 110) (L' := [(0, .inr (.inl 86)), (3, .inl (gx_w (x3 + 1)))]) (st' := []) (m' := (gx_u m 97 (x3).toNat (m 91 (x3).toNat))) [((118, .aload_n 0, 1, 0, 0, 0, 0), (0, 0, 0)), ((119, .getfield 41, 3, 10, 20, 5133, 0), (1, 86, 97)), ((122, .iload_n 3, 1, 0, 0, 0, 0), (0, 0, 0)), ((123, .aload_n 0, 1, 0, 0, 0, 0), (0, 0, 0)), ((124, .getfield 23, 3, 10, 14, 5127, 0), (1, 86, 91)), ((127, .iload_n 3, 1, 0, 0, 0, 0), (0, 0, 0)), ((128, .iaload, 1, 0, 0, 0, 0), (0, 91, 0)), ((129, .iastore, 1, 0, 0, 0, 0), (0, 97, 0)), ((130, .iinc 3 1, 3, 0, 0, 0, 0), (0, 0, 0)), ((133, .goto (-23), 3, 0, 0, 0, 0), (0, 0, 0))] (by decide +kernel) rfl ?_
    rw [e1]
    exact hx_pick [0, 3] (h2 c1)

/-- law from 138 on -/
theorem hr168_138 {xs : List Int32} {n : Nat} {Q : hQ} {m : gx_M} {x3 : Int} (r_x3 : 0 ≤ x3 ∧ x3 ≤ 240)
    (h1 : ((m 86 12) ≤ x3) → Q (some (.inl (m 86 12))) m)
    (h2 : (x3 < (m 86 12)) → hxn xs n yp_m168 138 [(0, .inr (.inl 86)), (3, .inl (x3 + 1))] [] (gx_u (gx_u (gx_u (gx_u m 98 (x3).toNat (m 93 (x3).toNat)) 99 (x3).toNat (m 94 (x3).toNat)) 100 (x3).toNat (m 95 (x3).toNat)) 101 (x3).toNat (m 96 (x3).toNat)) Q) : hxn xs (n + 1) yp_m168 138 [(0, .inr (.inl 86)), (3, .inl x3)] [] m Q := by
  refine hx_blks (npc := 143) (L' := [(0, .inr (.inl 86)), (3, .inl x3)]) (st' := [.inl (m 86 12), .inl x3]) (m' := m) ((138, .iload_n 3, 1, 0, 0, 0, 0), (0, 0, 0)) [((139, .aload_n 0, 1, 0, 0, 0, 0), (0, 0, 0)), ((140, .getfield 213, 3, 10, 12, 5125, 0), (0, 86, 0))] (by decide +kernel) rfl ?_
  refine hx_cmp .ge 200 (by decide +kernel) (fun c1 => ?_) (fun c1 => ?_)
  · have c1 : (m 86 12) ≤ x3 := c1
    refine hx_blk (npc := 204) (L' := [(0, .inr (.inl 86)), (3, .inl x3)]) (st' := [.inl (m 86 12)]) (m' := m) [((200, .aload_n 0, 1, 0, 0, 0, 0), (0, 0, 0)), ((201, .getfield 213, 3, 10, 12, 5125, 0), (0, 86, 0))] (by decide +kernel) rfl ?_
    exact hx_reti (by decide +kernel) (h1 c1)
  · have c1 : x3 < (m 86 12) := by have h : ¬ ((m 86 12) ≤ x3) := c1; omega
    have e1 : gx_w (x3 + 1) = x3 + 1 := gx_w_id (by omega) (by omega)
    refine hx_blk (npc := 138) (L' := [(0, .inr (.inl 86)), (3, .inl (gx_w (x3 + 1)))]) (st' := []) (m' := (gx_u (gx_u (gx_u (gx_u m 98 (x3).toNat (m 93 (x3).toNat)) 99 (x3).toNat (m 94 (x3).toNat)) 100 (x3).toNat (m 95 (x3).toNat)) 101 (x3).toNat (m 96 (x3).toNat))) [((146, .aload_n 0, 1, 0, 0, 0, 0), (0, 0, 0)), ((147, .getfield 44, 3, 10, 21, 5134, 0), (1, 86, 98)), ((150, .iload_n 3, 1, 0, 0, 0, 0), (0, 0, 0)), ((151, .aload_n 0, 1, 0, 0, 0, 0), (0, 0, 0)), ((152, .getfield 29, 3, 10, 16, 5129, 0), (1, 86, 93)), ((155, .iload_n 3, 1, 0, 0, 0, 0), (0, 0, 0)), ((156, .iaload, 1, 0, 0, 0, 0), (0, 93, 0)), ((157, .iastore, 1, 0, 0, 0, 0), (0, 98, 0)), ((158, .aload_n 0, 1, 0, 0, 0, 0), (0, 0, 0)), ((159, .getfield 47, 3, 10, 22, 5135, 0), (1, 86, 99)), ((162, .iload_n 3, 1, 0, 0, 0, 0), (0, 0, 0)), ((163, .aload_n 0, 1, 0, 0, 0, 0), (0, 0, 0)), ((164, .getfield 32, 3, 10, 17, 5130, 0), (1, 86, 94)), ((167, .iload_n 3, 1, 0, 0, 0, 0), (0, 0, 0)), ((168, .iaload, 1, 0, 0, 0, 0), (0, 94, 0)), ((169, .iastore, 1, 0, 0, 0, 0), (0, 99, 0)), ((170, .aload_n 0, 1, 0, 0, 0, 0), (0, 0, 0)), ((171, .getfield 50, 3, 10, 23, 5136, 0), (1, 86, 100)), ((174, .iload_n 3, 1, 0, 0, 0, 0), (0, 0, 0)), ((175, .aload_n 0, 1, 0, 0, 0, 0), (0, 0, 0)), ((176, .getfield 35, 3, 10, 18, 5131, 0), (1, 86, 95)), ((179, .iload_n 3, 1, 0, 0, 0, 0), (0, 0, 0)), ((180, .iaload, 1, 0, 0, 0, 0), (0, 95, 0)), ((181, .iastore, 1, 0, 0, 0, 0), (0, 100, 0)), ((182, .aload_n 0, 1, 0, 0, 0, 0), (0, 0, 0)), ((183, .getfield 53, 3, 10, 24, 5137, 0), (1, 86, 101)), ((186, .iload_n 3, 1, 0, 0, 0, 0), (0, 0, 0)), ((187, .aload_n 0, 1, 0, 0, 0, 0), (0, 0, 0)), ((188, .getfield 38, 3, 10, 19, 5132, 0), (1, 86, 96)), ((191, .iload_n 3, 1, 0, 0, 0, 0), (0, 0, 0)), ((192, .iaload, 1, 0, 0, 0, 0), (0, 96, 0)), ((193, .iastore, 1, 0, 0, 0, 0), (0, 101, 0)), ((194, .iinc 3 1, 3, 0, 0, 0, 0), (0, 0, 0)), ((197, .goto (-59), 3, 0, 0, 0, 0), (0, 0, 0))] (by decide +kernel) rfl ?_
    rw [e1]
    exact hx_pick [0, 3] (h2 c1)

