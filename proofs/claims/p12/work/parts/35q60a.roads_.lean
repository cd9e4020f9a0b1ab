section
/-! yearIs: roads -/
def cDeed (b : Nat) (m : gx_M) (y : Int) : Prop := cYear b m y ∧ hlcmp (hland (hlushr (m b 2) y) 1) 0 ≠ 0
/-- hasDeed from 0 on -/
theorem hs73_5 {xs : List Int32} {n : Nat} {Q : hQ} {m : gx_M} {x1 : Int}
    (h1 : cDeed 5 m x1 → Q (some (.inl 1)) m) (h0 : ¬ (cDeed 5 m x1) → Q (some (.inl 0)) m) : hxn xs n yp_m73 0 [(0, .inr (.inl 5)), (1, .inl x1)] [] m Q := by
  refine hx_dn ?_
  refine hx_blks (npc := 2) (L' := [(0, .inr (.inl 5)), (1, .inl x1)]) (st' := [.inl x1, .inr (.inl 5)]) (m' := m) ((0, .aload_n 0, 1, 0, 0, 0, 0), (0, 0, 0)) [((1, .iload_n 1, 1, 0, 0, 0, 0), (0, 0, 0))] (by decide +kernel) rfl ?_
  refine hx_call (E := (2, .invokevirtual 71, 3, 17, 0, 2188, 0)) (M' := yp_m17) [.inr (.inl 5), .inl x1] [] rfl (by decide +kernel) rfl ⟨rfl, rfl⟩ rfl rfl (hs17_5 (fun c1 => ?_) (fun c1 => ?_))
  · have c1 : cYear 5 m x1 := c1
    show hxn xs n yp_m73 5 [(0, .inr (.inl 5)), (1, .inl x1)] [.inl 1] m Q
    refine hx_if .eq 25 (by decide +kernel) (fun c2 => ?_) (fun c2 => ?_)
    · have c2 : (1 : Int) = 0 := c2
      exfalso; omega
    · have c2 : (1 : Int) ≠ 0 := c2
      refine hx_blk (npc := 18) (L' := [(0, .inr (.inl 5)), (1, .inl x1)]) (st' := [.inl (hlcmp (hland (hlushr (m 5 2) x1) 1) 0)]) (m' := m) [((8, .aload_n 0, 1, 0, 0, 0, 0), (0, 0, 0)), ((9, .getfield 59, 3, 2, 2, 1080, 0), (2, 5, 0)), ((12, .iload_n 1, 1, 0, 0, 0, 0), (0, 0, 0)), ((13, .lushr, 1, 0, 0, 0, 0), (0, 0, 0)), ((14, .lconst 1, 1, 0, 0, 0, 0), (0, 0, 0)), ((15, .land, 1, 0, 0, 0, 0), (0, 0, 0)), ((16, .lconst 0, 1, 0, 0, 0, 0), (0, 0, 0)), ((17, .lcmp, 1, 0, 0, 0, 0), (0, 0, 0))] (by decide +kernel) rfl ?_
      refine hx_if .eq 25 (by decide +kernel) (fun c2 => ?_) (fun c2 => ?_)
      · have c2 : (hlcmp (hland (hlushr (m 5 2) x1) 1) 0) = 0 := c2
        refine hx_blk (npc := 26) (L' := [(0, .inr (.inl 5)), (1, .inl x1)]) (st' := [.inl 0]) (m' := m) [((25, .iconst 0, 1, 0, 0, 0, 0), (0, 0, 0))] (by decide +kernel) rfl ?_
        exact hx_reti (by decide +kernel) (h0 (by unfold cDeed; intro q; first | exact absurd q.1 (by assumption) | exact absurd q.2 (by assumption) | exact q.2 (by omega) | (have := q.2; omega)))
      · have c2 : (hlcmp (hland (hlushr (m 5 2) x1) 1) 0) ≠ 0 := c2
        refine hx_blk (npc := 26) (L' := [(0, .inr (.inl 5)), (1, .inl x1)]) (st' := [.inl 1]) (m' := m) [((21, .iconst 1, 1, 0, 0, 0, 0), (0, 0, 0)), ((22, .goto 4, 3, 0, 0, 0, 0), (0, 0, 0))] (by decide +kernel) rfl ?_
        exact hx_reti (by decide +kernel) (h1 (by unfold cDeed; exact ⟨by assumption, by first | assumption | omega⟩))
  · have c1 : ¬ (cYear 5 m x1) := c1
    show hxn xs n yp_m73 5 [(0, .inr (.inl 5)), (1, .inl x1)] [.inl 0] m Q
    refine hx_if .eq 25 (by decide +kernel) (fun c2 => ?_) (fun c2 => ?_)
    · have c2 : (0 : Int) = 0 := c2
      refine hx_blk (npc := 26) (L' := [(0, .inr (.inl 5)), (1, .inl x1)]) (st' := [.inl 0]) (m' := m) [((25, .iconst 0, 1, 0, 0, 0, 0), (0, 0, 0))] (by decide +kernel) rfl ?_
      exact hx_reti (by decide +kernel) (h0 (by unfold cDeed; intro q; first | exact absurd q.1 (by assumption) | exact absurd q.2 (by assumption) | exact q.2 (by omega) | (have := q.2; omega)))
    · have c2 : (0 : Int) ≠ 0 := c2
      exfalso; omega

/-- handAt from 0 on -/
theorem hr74_0 {xs : List Int32} {n : Nat} {Q : hQ} {m : gx_M} {x1 x2 : Int}
    (h1 : (cYear 5 m x1) → (x2 < 0) → Q (some (.inl (-1))) m)
    (h2 : (cYear 5 m x1) → (0 ≤ x2) → (16 ≤ x2) → Q (some (.inl (-1))) m)
    (h3 : (cYear 5 m x1) → (0 ≤ x2) → (x2 < 16) → (x2 < (m 16 (x1).toNat)) → Q (some (.inl (m 17 (gx_w ((gx_w (x1 * 16)) + x2)).toNat))) m)
    (h4 : (cYear 5 m x1) → (0 ≤ x2) → (x2 < 16) → ((m 16 (x1).toNat) ≤ x2) → Q (some (.inl (-1))) m)
    (h5 : (¬ (cYear 5 m x1)) → Q (some (.inl (-1))) m) : hxn xs (n + 1) yp_m74 0 [(0, .inr (.inl 5)), (1, .inl x1), (2, .inl x2)] [] m Q := by
  refine hx_blks (npc := 2) (L' := [(0, .inr (.inl 5)), (1, .inl x1), (2, .inl x2)]) (st' := [.inl x1, .inr (.inl 5)]) (m' := m) ((0, .aload_n 0, 1, 0, 0, 0, 0), (0, 0, 0)) [((1, .iload_n 1, 1, 0, 0, 0, 0), (0, 0, 0))] (by decide +kernel) rfl ?_
  refine hx_call (E := (2, .invokevirtual 71, 3, 17, 0, 2188, 0)) (M' := yp_m17) [.inr (.inl 5), .inl x1] [] rfl (by decide +kernel) rfl ⟨rfl, rfl⟩ rfl rfl (hs17_5 (fun c1 => ?_) (fun c1 => ?_))
  · have c1 : cYear 5 m x1 := c1
    show hxn xs n yp_m74 5 [(0, .inr (.inl 5)), (1, .inl x1), (2, .inl x2)] [.inl 1] m Q
    refine hx_if .eq 28 (by decide +kernel) (fun c2 => ?_) (fun c2 => ?_)
    · have c2 : (1 : Int) = 0 := c2
      exfalso; omega
    · have c2 : (1 : Int) ≠ 0 := c2
      refine hx_blk (npc := 9) (L' := [(0, .inr (.inl 5)), (1, .inl x1), (2, .inl x2)]) (st' := [.inl x2]) (m' := m) [((8, .iload_n 2, 1, 0, 0, 0, 0), (0, 0, 0))] (by decide +kernel) rfl ?_
      refine hx_if .lt 28 (by decide +kernel) (fun c2 => ?_) (fun c2 => ?_)
      · have c2 : x2 < 0 := c2
        refine hx_blk (npc := 29) (L' := [(0, .inr (.inl 5)), (1, .inl x1), (2, .inl x2)]) (st' := [.inl (-1)]) (m' := m) [((28, .iconst (-1), 1, 0, 0, 0, 0), (0, 0, 0))] (by decide +kernel) rfl ?_
        exact hx_reti (by decide +kernel) (h1 c1 c2)
      · have c2 : 0 ≤ x2 := by have h : ¬ (x2 < 0) := c2; omega
        refine hx_blk (npc := 15) (L' := [(0, .inr (.inl 5)), (1, .inl x1), (2, .inl x2)]) (st' := [.inl 16, .inl x2]) (m' := m) [((12, .iload_n 2, 1, 0, 0, 0, 0), (0, 0, 0)), ((13, .bipush 16, 2, 0, 0, 0, 0), (0, 0, 0))] (by decide +kernel) rfl ?_
        refine hx_cmp .ge 28 (by decide +kernel) (fun c3 => ?_) (fun c3 => ?_)
        · have c3 : 16 ≤ x2 := c3
          refine hx_blk (npc := 29) (L' := [(0, .inr (.inl 5)), (1, .inl x1), (2, .inl x2)]) (st' := [.inl (-1)]) (m' := m) [((28, .iconst (-1), 1, 0, 0, 0, 0), (0, 0, 0))] (by decide +kernel) rfl ?_
          exact hx_reti (by decide +kernel) (h2 c1 c2 c3)
        · have c3 : x2 < 16 := by have h : ¬ (16 ≤ x2) := c3; omega
          refine hx_blk (npc := 25) (L' := [(0, .inr (.inl 5)), (1, .inl x1), (2, .inl x2)]) (st' := [.inl (m 16 (x1).toNat), .inl x2]) (m' := m) [((18, .iload_n 2, 1, 0, 0, 0, 0), (0, 0, 0)), ((19, .aload_n 0, 1, 0, 0, 0, 0), (0, 0, 0)), ((20, .getfield 46, 3, 2, 15, 1131, 0), (1, 5, 16)), ((23, .iload_n 1, 1, 0, 0, 0, 0), (0, 0, 0)), ((24, .iaload, 1, 0, 0, 0, 0), (0, 16, 0))] (by decide +kernel) rfl ?_
          refine hx_cmp .lt 30 (by decide +kernel) (fun c4 => ?_) (fun c4 => ?_)
          · have c4 : x2 < (m 16 (x1).toNat) := c4
            refine hx_blk (npc := 41) (L' := [(0, .inr (.inl 5)), (1, .inl x1), (2, .inl x2)]) (st' := [.inl (m 17 (gx_w ((gx_w (x1 * 16)) + x2)).toNat)]) (m' := m) [((30, .aload_n 0, 1, 0, 0, 0, 0), (0, 0, 0)), ((31, .getfield 49, 3, 2, 16, 1136, 0), (1, 5, 17)), ((34, .iload_n 1, 1, 0, 0, 0, 0), (0, 0, 0)), ((35, .bipush 16, 2, 0, 0, 0, 0), (0, 0, 0)), ((37, .imul, 1, 0, 0, 0, 0), (0, 0, 0)), ((38, .iload_n 2, 1, 0, 0, 0, 0), (0, 0, 0)), ((39, .iadd, 1, 0, 0, 0, 0), (0, 0, 0)), ((40, .iaload, 1, 0, 0, 0, 0), (0, 17, 0))] (by decide +kernel) rfl ?_
            exact hx_reti (by decide +kernel) (h3 c1 c2 c3 c4)
          · have c4 : (m 16 (x1).toNat) ≤ x2 := by have h : ¬ (x2 < (m 16 (x1).toNat)) := c4; omega
            refine hx_blk (npc := 29) (L' := [(0, .inr (.inl 5)), (1, .inl x1), (2, .inl x2)]) (st' := [.inl (-1)]) (m' := m) [((28, .iconst (-1), 1, 0, 0, 0, 0), (0, 0, 0))] (by decide +kernel) rfl ?_
            exact hx_reti (by decide +kernel) (h4 c1 c2 c3 c4)
  · have c1 : ¬ (cYear 5 m x1) := c1
    show hxn xs n yp_m74 5 [(0, .inr (.inl 5)), (1, .inl x1), (2, .inl x2)] [.inl 0] m Q
    refine hx_if .eq 28 (by decide +kernel) (fun c2 => ?_) (fun c2 => ?_)
    · have c2 : (0 : Int) = 0 := c2
      refine hx_blk (npc := 29) (L' := [(0, .inr (.inl 5)), (1, .inl x1), (2, .inl x2)]) (st' := [.inl (-1)]) (m' := m) [((28, .iconst (-1), 1, 0, 0, 0, 0), (0, 0, 0))] (by decide +kernel) rfl ?_
      exact hx_reti (by decide +kernel) (h5 c1)
    · have c2 : (0 : Int) ≠ 0 := c2
      exfalso; omega

/-- yearIs from 0 on -/
theorem hr72_0 {xs : List Int32} {n : Nat} {Q : hQ} {m : gx_M} {x1 x2 : Int}
    (h1 : (cYear 5 m x1) → (x2 = 0) → Q (some (.inl (m 7 (x1).toNat))) m)
    (h2 : (cYear 5 m x1) → (x2 ≠ 0) → (x2 = 1) → Q (some (.inl (m 8 (x1).toNat))) m)
    (h3 : (cYear 5 m x1) → (x2 ≠ 0) → (x2 ≠ 1) → (x2 = 2) → Q (some (.inl (m 9 (x1).toNat))) m)
    (h4 : (cYear 5 m x1) → (x2 ≠ 0) → (x2 ≠ 1) → (x2 ≠ 2) → (x2 = 3) → Q (some (.inl (m 10 (x1).toNat))) m)
    (h5 : (cYear 5 m x1) → (x2 ≠ 0) → (x2 ≠ 1) → (x2 ≠ 2) → (x2 ≠ 3) → (x2 = 4) → (cDeed 5 m x1) → Q (some (.inl 1)) m)
    (h6 : (cYear 5 m x1) → (x2 ≠ 0) → (x2 ≠ 1) → (x2 ≠ 2) → (x2 ≠ 3) → (x2 = 4) → (¬ (cDeed 5 m x1)) → Q (some (.inl 0)) m)
    (h7 : (cYear 5 m x1) → (x2 ≠ 0) → (x2 ≠ 1) → (x2 ≠ 2) → (x2 ≠ 3) → (x2 ≠ 4) → (x2 = 5) → Q (some (.inl (m 11 (x1).toNat))) m)
    (h8 : (cYear 5 m x1) → (x2 ≠ 0) → (x2 ≠ 1) → (x2 ≠ 2) → (x2 ≠ 3) → (x2 ≠ 4) → (x2 ≠ 5) → (x2 = 6) → Q (some (.inl (m 12 (x1).toNat))) m)
    (h9 : (cYear 5 m x1) → (x2 ≠ 0) → (x2 ≠ 1) → (x2 ≠ 2) → (x2 ≠ 3) → (x2 ≠ 4) → (x2 ≠ 5) → (x2 ≠ 6) → (x2 = 7) → Q (some (.inl (m 13 (x1).toNat))) m)
    (h10 : (cYear 5 m x1) → (x2 ≠ 0) → (x2 ≠ 1) → (x2 ≠ 2) → (x2 ≠ 3) → (x2 ≠ 4) → (x2 ≠ 5) → (x2 ≠ 6) → (x2 ≠ 7) → (x2 = 8) → Q (some (.inl (m 15 (x1).toNat))) m)
    (h11 : (cYear 5 m x1) → (x2 ≠ 0) → (x2 ≠ 1) → (x2 ≠ 2) → (x2 ≠ 3) → (x2 ≠ 4) → (x2 ≠ 5) → (x2 ≠ 6) → (x2 ≠ 7) → (x2 ≠ 8) → (x2 = 9) → Q (some (.inl (m 16 (x1).toNat))) m)
    (h12 : (cYear 5 m x1) → (x2 ≠ 0) → (x2 ≠ 1) → (x2 ≠ 2) → (x2 ≠ 3) → (x2 ≠ 4) → (x2 ≠ 5) → (x2 ≠ 6) → (x2 ≠ 7) → (x2 ≠ 8) → (x2 ≠ 9) → (20 ≤ x2) → hxn xs n yp_m74 0 [(0, .inr (.inl 5)), (1, .inl x1), (2, .inl (gx_w (x2 - 20)))] [] m (fun r m' => hxn xs n yp_m72 197 [] (hrs r ++ []) m' Q))
    (h13 : (cYear 5 m x1) → (x2 ≠ 0) → (x2 ≠ 1) → (x2 ≠ 2) → (x2 ≠ 3) → (x2 ≠ 4) → (x2 ≠ 5) → (x2 ≠ 6) → (x2 ≠ 7) → (x2 ≠ 8) → (x2 ≠ 9) → (x2 < 20) → hxn xs n yp_m74 0 [(0, .inr (.inl 5)), (1, .inl x1), (2, .inl (-1))] [] m (fun r m' => hxn xs n yp_m72 197 [] (hrs r ++ []) m' Q))
    (h14 : (¬ (cYear 5 m x1)) → Q (some (.inl (-1))) m) : hxn xs (n + 1) yp_m72 0 [(0, .inr (.inl 0)), (1, .inl x1), (2, .inl x2)] [] m Q := by
  refine hx_blks (npc := 5) (L' := [(0, .inr (.inl 0)), (1, .inl x1), (2, .inl x2)]) (st' := [.inl x1, .inr (.inl 5)]) (m' := m) ((0, .aload_n 0, 1, 0, 0, 0, 0), (0, 0, 0)) [((1, .getfield 26, 3, 9, 2, 2121, 0), (1, 0, 5)), ((4, .iload_n 1, 1, 0, 0, 0, 0), (0, 0, 0))] (by decide +kernel) rfl ?_
  refine hx_call (E := (5, .invokevirtual 156, 3, 17, 0, 3202, 0)) (M' := yp_m17) [.inr (.inl 5), .inl x1] [] rfl (by decide +kernel) rfl ⟨rfl, rfl⟩ rfl rfl (hs17_5 (fun c1 => ?_) (fun c1 => ?_))
  · have c1 : cYear 5 m x1 := c1
    show hxn xs n yp_m72 8 [(0, .inr (.inl 0)), (1, .inl x1), (2, .inl x2)] [.inl 1] m Q
    refine hx_if .ne 13 (by decide +kernel) (fun c2 => ?_) (fun c2 => ?_)
    · have c2 : (1 : Int) ≠ 0 := c2
      refine hx_blk (npc := 14) (L' := [(0, .inr (.inl 0)), (1, .inl x1), (2, .inl x2)]) (st' := [.inl x2]) (m' := m) [((13, .iload_n 2, 1, 0, 0, 0, 0), (0, 0, 0))] (by decide +kernel) rfl ?_
      refine hx_tsw 175 [(0, 68), (1, 78), (2, 88), (3, 98), (4, 108), (5, 125), (6, 135), (7, 145), (8, 155), (9, 165)] (by decide +kernel) ?_
      refine hsw_c (fun c2 => ?_) (fun c2 => ?_)
      · have c2 : x2 = 0 := c2
        refine hx_blk (npc := 77) (L' := [(0, .inr (.inl 0)), (1, .inl x1), (2, .inl x2)]) (st' := [.inl (m 7 (x1).toNat)]) (m' := m) [((68, .aload_n 0, 1, 0, 0, 0, 0), (0, 0, 0)), ((69, .getfield 26, 3, 9, 2, 2121, 0), (1, 0, 5)), ((72, .getfield 101, 3, 2, 6, 1094, 0), (1, 5, 7)), ((75, .iload_n 1, 1, 0, 0, 0, 0), (0, 0, 0)), ((76, .iaload, 1, 0, 0, 0, 0), (0, 7, 0))] (by decide +kernel) rfl ?_
        exact hx_reti (by decide +kernel) (h1 c1 c2)
      refine hsw_c (fun c3 => ?_) (fun c3 => ?_)
      · have c3 : x2 = 1 := c3
        refine hx_blk (npc := 87) (L' := [(0, .inr (.inl 0)), (1, .inl x1), (2, .inl x2)]) (st' := [.inl (m 8 (x1).toNat)]) (m' := m) [((78, .aload_n 0, 1, 0, 0, 0, 0), (0, 0, 0)), ((79, .getfield 26, 3, 9, 2, 2121, 0), (1, 0, 5)), ((82, .getfield 159, 3, 2, 7, 1098, 0), (1, 5, 8)), ((85, .iload_n 1, 1, 0, 0, 0, 0), (0, 0, 0)), ((86, .iaload, 1, 0, 0, 0, 0), (0, 8, 0))] (by decide +kernel) rfl ?_
        exact hx_reti (by decide +kernel) (h2 c1 c2 c3)
      refine hsw_c (fun c4 => ?_) (fun c4 => ?_)
      · have c4 : x2 = 2 := c4
        refine hx_blk (npc := 97) (L' := [(0, .inr (.inl 0)), (1, .inl x1), (2, .inl x2)]) (st' := [.inl (m 9 (x1).toNat)]) (m' := m) [((88, .aload_n 0, 1, 0, 0, 0, 0), (0, 0, 0)), ((89, .getfield 26, 3, 9, 2, 2121, 0), (1, 0, 5)), ((92, .getfield 104, 3, 2, 8, 1102, 0), (1, 5, 9)), ((95, .iload_n 1, 1, 0, 0, 0, 0), (0, 0, 0)), ((96, .iaload, 1, 0, 0, 0, 0), (0, 9, 0))] (by decide +kernel) rfl ?_
        exact hx_reti (by decide +kernel) (h3 c1 c2 c3 c4)
      refine hsw_c (fun c5 => ?_) (fun c5 => ?_)
      · have c5 : x2 = 3 := c5
        refine hx_blk (npc := 107) (L' := [(0, .inr (.inl 0)), (1, .inl x1), (2, .inl x2)]) (st' := [.inl (m 10 (x1).toNat)]) (m' := m) [((98, .aload_n 0, 1, 0, 0, 0, 0), (0, 0, 0)), ((99, .getfield 26, 3, 9, 2, 2121, 0), (1, 0, 5)), ((102, .getfield 107, 3, 2, 9, 1106, 0), (1, 5, 10)), ((105, .iload_n 1, 1, 0, 0, 0, 0), (0, 0, 0)), ((106, .iaload, 1, 0, 0, 0, 0), (0, 10, 0))] (by decide +kernel) rfl ?_
        exact hx_reti (by decide +kernel) (h4 c1 c2 c3 c4 c5)
      refine hsw_c (fun c6 => ?_) (fun c6 => ?_)
      · have c6 : x2 = 4 := c6
        refine hx_blk (npc := 113) (L' := [(0, .inr (.inl 0)), (1, .inl x1), (2, .inl x2)]) (st' := [.inl x1, .inr (.inl 5)]) (m' := m) [((108, .aload_n 0, 1, 0, 0, 0, 0), (0, 0, 0)), ((109, .getfield 26, 3, 9, 2, 2121, 0), (1, 0, 5)), ((112, .iload_n 1, 1, 0, 0, 0, 0), (0, 0, 0))] (by decide +kernel) rfl ?_
        refine hx_call (E := (113, .invokevirtual 162, 3, 73, 0, 3203, 0)) (M' := yp_m73) [.inr (.inl 5), .inl x1] [] rfl (by decide +kernel) rfl ⟨rfl, rfl⟩ rfl rfl (hs73_5 (fun c7 => ?_) (fun c7 => ?_))
        · have c7 : cDeed 5 m x1 := c7
          show hxn xs n yp_m72 116 [(0, .inr (.inl 0)), (1, .inl x1), (2, .inl x2)] [.inl 1] m Q
          refine hx_if .eq 123 (by decide +kernel) (fun c8 => ?_) (fun c8 => ?_)
          · have c8 : (1 : Int) = 0 := c8
            exfalso; omega
          · have c8 : (1 : Int) ≠ 0 := c8
            refine hx_blk (npc := 124) (L' := [(0, .inr (.inl 0)), (1, .inl x1), (2, .inl x2)]) (st' := [.inl 1]) (m' := m) [((119, .iconst 1, 1, 0, 0, 0, 0), (0, 0, 0)), ((120, .goto 4, 3, 0, 0, 0, 0), (0, 0, 0))] (by decide +kernel) rfl ?_
            exact hx_reti (by decide +kernel) (h5 c1 c2 c3 c4 c5 c6 c7)
        · have c7 : ¬ (cDeed 5 m x1) := c7
          show hxn xs n yp_m72 116 [(0, .inr (.inl 0)), (1, .inl x1), (2, .inl x2)] [.inl 0] m Q
          refine hx_if .eq 123 (by decide +kernel) (fun c8 => ?_) (fun c8 => ?_)
          · have c8 : (0 : Int) = 0 := c8
            refine hx_blk (npc := 124) (L' := [(0, .inr (.inl 0)), (1, .inl x1), (2, .inl x2)]) (st' := [.inl 0]) (m' := m) [((123, .iconst 0, 1, 0, 0, 0, 0), (0, 0, 0))] (by decide +kernel) rfl ?_
            exact hx_reti (by decide +kernel) (h6 c1 c2 c3 c4 c5 c6 c7)
          · have c8 : (0 : Int) ≠ 0 := c8
            exfalso; omega
      refine hsw_c (fun c7 => ?_) (fun c7 => ?_)
      · have c7 : x2 = 5 := c7
        refine hx_blk (npc := 134) (L' := [(0, .inr (.inl 0)), (1, .inl x1), (2, .inl x2)]) (st' := [.inl (m 11 (x1).toNat)]) (m' := m) [((125, .aload_n 0, 1, 0, 0, 0, 0), (0, 0, 0)), ((126, .getfield 26, 3, 9, 2, 2121, 0), (1, 0, 5)), ((129, .getfield 110, 3, 2, 10, 1109, 0), (1, 5, 11)), ((132, .iload_n 1, 1, 0, 0, 0, 0), (0, 0, 0)), ((133, .iaload, 1, 0, 0, 0, 0), (0, 11, 0))] (by decide +kernel) rfl ?_
        exact hx_reti (by decide +kernel) (h7 c1 c2 c3 c4 c5 c6 c7)
      refine hsw_c (fun c8 => ?_) (fun c8 => ?_)
      · have c8 : x2 = 6 := c8
        refine hx_blk (npc := 144) (L' := [(0, .inr (.inl 0)), (1, .inl x1), (2, .inl x2)]) (st' := [.inl (m 12 (x1).toNat)]) (m' := m) [((135, .aload_n 0, 1, 0, 0, 0, 0), (0, 0, 0)), ((136, .getfield 26, 3, 9, 2, 2121, 0), (1, 0, 5)), ((139, .getfield 165, 3, 2, 11, 1116, 0), (1, 5, 12)), ((142, .iload_n 1, 1, 0, 0, 0, 0), (0, 0, 0)), ((143, .iaload, 1, 0, 0, 0, 0), (0, 12, 0))] (by decide +kernel) rfl ?_
        exact hx_reti (by decide +kernel) (h8 c1 c2 c3 c4 c5 c6 c7 c8)
      refine hsw_c (fun c9 => ?_) (fun c9 => ?_)
      · have c9 : x2 = 7 := c9
        refine hx_blk (npc := 154) (L' := [(0, .inr (.inl 0)), (1, .inl x1), (2, .inl x2)]) (st' := [.inl (m 13 (x1).toNat)]) (m' := m) [((145, .aload_n 0, 1, 0, 0, 0, 0), (0, 0, 0)), ((146, .getfield 26, 3, 9, 2, 2121, 0), (1, 0, 5)), ((149, .getfield 168, 3, 2, 12, 1122, 0), (1, 5, 13)), ((152, .iload_n 1, 1, 0, 0, 0, 0), (0, 0, 0)), ((153, .iaload, 1, 0, 0, 0, 0), (0, 13, 0))] (by decide +kernel) rfl ?_
        exact hx_reti (by decide +kernel) (h9 c1 c2 c3 c4 c5 c6 c7 c8 c9)
      refine hsw_c (fun c10 => ?_) (fun c10 => ?_)
      · have c10 : x2 = 8 := c10
        refine hx_blk (npc := 164) (L' := [(0, .inr (.inl 0)), (1, .inl x1), (2, .inl x2)]) (st' := [.inl (m 15 (x1).toNat)]) (m' := m) [((155, .aload_n 0, 1, 0, 0, 0, 0), (0, 0, 0)), ((156, .getfield 26, 3, 9, 2, 2121, 0), (1, 0, 5)), ((159, .getfield 171, 3, 2, 14, 1130, 0), (1, 5, 15)), ((162, .iload_n 1, 1, 0, 0, 0, 0), (0, 0, 0)), ((163, .iaload, 1, 0, 0, 0, 0), (0, 15, 0))] (by decide +kernel) rfl ?_
        exact hx_reti (by decide +kernel) (h10 c1 c2 c3 c4 c5 c6 c7 c8 c9 c10)
      refine hsw_c (fun c11 => ?_) (fun c11 => ?_)
      · have c11 : x2 = 9 := c11
        refine hx_blk (npc := 174) (L' := [(0, .inr (.inl 0)), (1, .inl x1), (2, .inl x2)]) (st' := [.inl (m 16 (x1).toNat)]) (m' := m) [((165, .aload_n 0, 1, 0, 0, 0, 0), (0, 0, 0)), ((166, .getfield 26, 3, 9, 2, 2121, 0), (1, 0, 5)), ((169, .getfield 174, 3, 2, 15, 1132, 0), (1, 5, 16)), ((172, .iload_n 1, 1, 0, 0, 0, 0), (0, 0, 0)), ((173, .iaload, 1, 0, 0, 0, 0), (0, 16, 0))] (by decide +kernel) rfl ?_
        exact hx_reti (by decide +kernel) (h11 c1 c2 c3 c4 c5 c6 c7 c8 c9 c10 c11)
      refine hsw_n ?_
      refine hx_blk (npc := 183) (L' := [(0, .inr (.inl 0)), (1, .inl x1), (2, .inl x2)]) (st' := [.inl 20, .inl x2, .inl x1, .inr (.inl 5)]) (m' := m) [((175, .aload_n 0, 1, 0, 0, 0, 0), (0, 0, 0)), ((176, .getfield 26, 3, 9, 2, 2121, 0), (1, 0, 5)), ((179, .iload_n 1, 1, 0, 0, 0, 0), (0, 0, 0)), ((180, .iload_n 2, 1, 0, 0, 0, 0), (0, 0, 0)), ((181, .bipush 20, 2, 0, 0, 0, 0), (0, 0, 0))] (by decide +kernel) rfl ?_
      refine hx_cmp .ge 190 (by decide +kernel) (fun c12 => ?_) (fun c12 => ?_)
      · have c12 : 20 ≤ x2 := c12
        refine hx_blk (npc := 194) (L' := [(0, .inr (.inl 0)), (1, .inl x1), (2, .inl x2)]) (st' := [.inl (gx_w (x2 - 20)), .inl x1, .inr (.inl 5)]) (m' := m) [((190, .iload_n 2, 1, 0, 0, 0, 0), (0, 0, 0)), ((191, .bipush 20, 2, 0, 0, 0, 0), (0, 0, 0)), ((193, .isub, 1, 0, 0, 0, 0), (0, 0, 0))] (by decide +kernel) rfl ?_
        exact hx_call (E := (194, .invokevirtual 177, 3, 74, 0, 3207, 0)) (M' := yp_m74) [.inr (.inl 5), .inl x1, .inl (gx_w (x2 - 20))] [] rfl (by decide +kernel) rfl ⟨rfl, rfl⟩ rfl rfl (hx_mono (h12 c1 c2 c3 c4 c5 c6 c7 c8 c9 c10 c11 c12) (fun r m' h' => hx_pick [] h'))
      · have c12 : x2 < 20 := by have h : ¬ (20 ≤ x2) := c12; omega
        refine hx_blk (npc := 194) (L' := [(0, .inr (.inl 0)), (1, .inl x1), (2, .inl x2)]) (st' := [.inl (-1), .inl x1, .inr (.inl 5)]) (m' := m) [((186, .iconst (-1), 1, 0, 0, 0, 0), (0, 0, 0)), ((187, .goto 7, 3, 0, 0, 0, 0), (0, 0, 0))] (by decide +kernel) rfl ?_
        exact hx_call (E := (194, .invokevirtual 177, 3, 74, 0, 3207, 0)) (M' := yp_m74) [.inr (.inl 5), .inl x1, .inl (-1)] [] rfl (by decide +kernel) rfl ⟨rfl, rfl⟩ rfl rfl (hx_mono (h13 c1 c2 c3 c4 c5 c6 c7 c8 c9 c10 c11 c12) (fun r m' h' => hx_pick [] h'))
    · have c2 : (1 : Int) = 0 := by have h : ¬ ((1 : Int) ≠ 0) := c2; omega
      exfalso; omega
  · have c1 : ¬ (cYear 5 m x1) := c1
    show hxn xs n yp_m72 8 [(0, .inr (.inl 0)), (1, .inl x1), (2, .inl x2)] [.inl 0] m Q
    refine hx_if .ne 13 (by decide +kernel) (fun c2 => ?_) (fun c2 => ?_)
    · have c2 : (0 : Int) ≠ 0 := c2
      exfalso; omega
    · have c2 : (0 : Int) = 0 := by have h : ¬ ((0 : Int) ≠ 0) := c2; omega
      refine hx_blk (npc := 12) (L' := [(0, .inr (.inl 0)), (1, .inl x1), (2, .inl x2)]) (st' := [.inl (-1)]) (m' := m) [((11, .iconst (-1), 1, 0, 0, 0, 0), (0, 0, 0))] (by decide +kernel) rfl ?_
      exact hx_reti (by decide +kernel) (h14 c1)

/-- yearIs from 197 on -/
theorem hr72_197 {xs : List Int32} {n : Nat} {Q : hQ} {m : gx_M} {s0 : Int}
    (h1 : Q (some (.inl s0)) m) : hxn xs (n + 1) yp_m72 197 [] [.inl s0] m Q := by
  exact hx_reti (by decide +kernel) h1

/-- yearIs from 0 on -/
theorem hr217_0 {xs : List Int32} {n : Nat} {Q : hQ} {m : gx_M} {x1 x2 : Int}
    (h1 : (aYr (m 87) x1) → (x2 = 0) → Q (some (.inl (m 87 (gx_w (0 + x1)).toNat))) m)
    (h2 : (aYr (m 87) x1) → (x2 ≠ 0) → (x2 = 1) → Q (some (.inl (m 87 (gx_w (40 + x1)).toNat))) m)
    (h3 : (aYr (m 87) x1) → (x2 ≠ 0) → (x2 ≠ 1) → (x2 = 2) → Q (some (.inl (m 87 (gx_w (80 + x1)).toNat))) m)
    (h4 : (aYr (m 87) x1) → (x2 ≠ 0) → (x2 ≠ 1) → (x2 ≠ 2) → (x2 = 3) → Q (some (.inl (m 87 (gx_w (120 + x1)).toNat))) m)
    (h5 : (aYr (m 87) x1) → (x2 ≠ 0) → (x2 ≠ 1) → (x2 ≠ 2) → (x2 ≠ 3) → (x2 = 4) → Q (some (.inl (m 87 (gx_w (160 + x1)).toNat))) m)
    (h6 : (aYr (m 87) x1) → (x2 ≠ 0) → (x2 ≠ 1) → (x2 ≠ 2) → (x2 ≠ 3) → (x2 ≠ 4) → (x2 = 5) → Q (some (.inl (m 87 (gx_w (200 + x1)).toNat))) m)
    (h7 : (aYr (m 87) x1) → (x2 ≠ 0) → (x2 ≠ 1) → (x2 ≠ 2) → (x2 ≠ 3) → (x2 ≠ 4) → (x2 ≠ 5) → (x2 = 6) → Q (some (.inl (m 87 (gx_w (240 + x1)).toNat))) m)
    (h8 : (aYr (m 87) x1) → (x2 ≠ 0) → (x2 ≠ 1) → (x2 ≠ 2) → (x2 ≠ 3) → (x2 ≠ 4) → (x2 ≠ 5) → (x2 ≠ 6) → (x2 = 7) → Q (some (.inl (m 87 (gx_w (280 + x1)).toNat))) m)
    (h9 : (aYr (m 87) x1) → (x2 ≠ 0) → (x2 ≠ 1) → (x2 ≠ 2) → (x2 ≠ 3) → (x2 ≠ 4) → (x2 ≠ 5) → (x2 ≠ 6) → (x2 ≠ 7) → (x2 = 8) → Q (some (.inl (m 87 (gx_w (360 + x1)).toNat))) m)
    (h10 : (aYr (m 87) x1) → (x2 ≠ 0) → (x2 ≠ 1) → (x2 ≠ 2) → (x2 ≠ 3) → (x2 ≠ 4) → (x2 ≠ 5) → (x2 ≠ 6) → (x2 ≠ 7) → (x2 ≠ 8) → (x2 = 9) → Q (some (.inl (m 87 (gx_w (400 + x1)).toNat))) m)
    (h11 : (aYr (m 87) x1) → (x2 ≠ 0) → (x2 ≠ 1) → (x2 ≠ 2) → (x2 ≠ 3) → (x2 ≠ 4) → (x2 ≠ 5) → (x2 ≠ 6) → (x2 ≠ 7) → (x2 ≠ 8) → (x2 ≠ 9) → (20 ≤ x2 ∧ x2 ≤ (gx_w (19 + (m 87 (gx_w (400 + x1)).toNat)))) → Q (some (.inl (m 87 (gx_w ((gx_w ((gx_w (480 + (gx_w (16 * x1)))) + x2)) - 20)).toNat))) m)
    (h12 : (aYr (m 87) x1) → (x2 ≠ 0) → (x2 ≠ 1) → (x2 ≠ 2) → (x2 ≠ 3) → (x2 ≠ 4) → (x2 ≠ 5) → (x2 ≠ 6) → (x2 ≠ 7) → (x2 ≠ 8) → (x2 ≠ 9) → (¬ (20 ≤ x2 ∧ x2 ≤ (gx_w (19 + (m 87 (gx_w (400 + x1)).toNat))))) → Q (some (.inl (-1))) m)
    (h13 : (¬ (aYr (m 87) x1)) → Q (some (.inl (-1))) m) : hxn xs (n + 1) yp_m217 0 [(0, .inr (.inl 86)), (1, .inl x1), (2, .inl x2)] [] m Q := by
  refine hx_blks (npc := 2) (L' := [(0, .inr (.inl 86)), (1, .inl x1), (2, .inl x2)]) (st' := [.inl x1, .inr (.inl 86)]) (m' := m) ((0, .aload_n 0, 1, 0, 0, 0, 0), (0, 0, 0)) [((1, .iload_n 1, 1, 0, 0, 0, 0), (0, 0, 0))] (by decide +kernel) rfl ?_
  refine hx_call (E := (2, .invokevirtual 269, 3, 196, 0, 6156, 0)) (M' := yp_m196) [.inr (.inl 86), .inl x1] [] rfl (by decide +kernel) rfl ⟨rfl, rfl⟩ rfl rfl (hs196 (fun c1 => ?_) (fun c1 => ?_))
  · have c1 : aYr (m 87) x1 := c1
    show hxn xs n yp_m217 5 [(0, .inr (.inl 86)), (1, .inl x1), (2, .inl x2)] [.inl 1] m Q
    refine hx_if .ne 10 (by decide +kernel) (fun c2 => ?_) (fun c2 => ?_)
    · have c2 : (1 : Int) ≠ 0 := c2
      refine hx_blk (npc := 11) (L' := [(0, .inr (.inl 86)), (1, .inl x1), (2, .inl x2)]) (st' := [.inl x2]) (m' := m) [((10, .iload_n 2, 1, 0, 0, 0, 0), (0, 0, 0))] (by decide +kernel) rfl ?_
      refine hx_tsw 169 [(0, 64), (1, 73), (2, 83), (3, 93), (4, 103), (5, 114), (6, 125), (7, 136), (8, 147), (9, 158)] (by decide +kernel) ?_
      refine hsw_c (fun c2 => ?_) (fun c2 => ?_)
      · have c2 : x2 = 0 := c2
        refine hx_blk (npc := 72) (L' := [(0, .inr (.inl 86)), (1, .inl x1), (2, .inl x2)]) (st' := [.inl (m 87 (gx_w (0 + x1)).toNat)]) (m' := m) [((64, .aload_n 0, 1, 0, 0, 0, 0), (0, 0, 0)), ((65, .getfield 7, 3, 10, 0, 5113, 0), (1, 86, 87)), ((68, .iconst 0, 1, 0, 0, 0, 0), (0, 0, 0)), ((69, .iload_n 1, 1, 0, 0, 0, 0), (0, 0, 0)), ((70, .iadd, 1, 0, 0, 0, 0), (0, 0, 0)), ((71, .iaload, 1, 0, 0, 0, 0), (0, 87, 0))] (by decide +kernel) rfl ?_
        exact hx_reti (by decide +kernel) (h1 c1 c2)
      refine hsw_c (fun c3 => ?_) (fun c3 => ?_)
      · have c3 : x2 = 1 := c3
        refine hx_blk (npc := 82) (L' := [(0, .inr (.inl 86)), (1, .inl x1), (2, .inl x2)]) (st' := [.inl (m 87 (gx_w (40 + x1)).toNat)]) (m' := m) [((73, .aload_n 0, 1, 0, 0, 0, 0), (0, 0, 0)), ((74, .getfield 7, 3, 10, 0, 5113, 0), (1, 86, 87)), ((77, .bipush 40, 2, 0, 0, 0, 0), (0, 0, 0)), ((79, .iload_n 1, 1, 0, 0, 0, 0), (0, 0, 0)), ((80, .iadd, 1, 0, 0, 0, 0), (0, 0, 0)), ((81, .iaload, 1, 0, 0, 0, 0), (0, 87, 0))] (by decide +kernel) rfl ?_
        exact hx_reti (by decide +kernel) (h2 c1 c2 c3)
      refine hsw_c (fun c4 => ?_) (fun c4 => ?_)
      · have c4 : x2 = 2 := c4
        refine hx_blk (npc := 92) (L' := [(0, .inr (.inl 86)), (1, .inl x1), (2, .inl x2)]) (st' := [.inl (m 87 (gx_w (80 + x1)).toNat)]) (m' := m) [((83, .aload_n 0, 1, 0, 0, 0, 0), (0, 0, 0)), ((84, .getfield 7, 3, 10, 0, 5113, 0), (1, 86, 87)), ((87, .bipush 80, 2, 0, 0, 0, 0), (0, 0, 0)), ((89, .iload_n 1, 1, 0, 0, 0, 0), (0, 0, 0)), ((90, .iadd, 1, 0, 0, 0, 0), (0, 0, 0)), ((91, .iaload, 1, 0, 0, 0, 0), (0, 87, 0))] (by decide +kernel) rfl ?_
        exact hx_reti (by decide +kernel) (h3 c1 c2 c3 c4)
      refine hsw_c (fun c5 => ?_) (fun c5 => ?_)
      · have c5 : x2 = 3 := c5
        refine hx_blk (npc := 102) (L' := [(0, .inr (.inl 86)), (1, .inl x1), (2, .inl x2)]) (st' := [.inl (m 87 (gx_w (120 + x1)).toNat)]) (m' := m) [((93, .aload_n 0, 1, 0, 0, 0, 0), (0, 0, 0)), ((94, .getfield 7, 3, 10, 0, 5113, 0), (1, 86, 87)), ((97, .bipush 120, 2, 0, 0, 0, 0), (0, 0, 0)), ((99, .iload_n 1, 1, 0, 0, 0, 0), (0, 0, 0)), ((100, .iadd, 1, 0, 0, 0, 0), (0, 0, 0)), ((101, .iaload, 1, 0, 0, 0, 0), (0, 87, 0))] (by decide +kernel) rfl ?_
        exact hx_reti (by decide +kernel) (h4 c1 c2 c3 c4 c5)
      refine hsw_c (fun c6 => ?_) (fun c6 => ?_)
      · have c6 : x2 = 4 := c6
        refine hx_blk (npc := 113) (L' := [(0, .inr (.inl 86)), (1, .inl x1), (2, .inl x2)]) (st' := [.inl (m 87 (gx_w (160 + x1)).toNat)]) (m' := m) [((103, .aload_n 0, 1, 0, 0, 0, 0), (0, 0, 0)), ((104, .getfield 7, 3, 10, 0, 5113, 0), (1, 86, 87)), ((107, .sipush 160, 3, 0, 0, 0, 0), (0, 0, 0)), ((110, .iload_n 1, 1, 0, 0, 0, 0), (0, 0, 0)), ((111, .iadd, 1, 0, 0, 0, 0), (0, 0, 0)), ((112, .iaload, 1, 0, 0, 0, 0), (0, 87, 0))] (by decide +kernel) rfl ?_
        exact hx_reti (by decide +kernel) (h5 c1 c2 c3 c4 c5 c6)
      refine hsw_c (fun c7 => ?_) (fun c7 => ?_)
      · have c7 : x2 = 5 := c7
        refine hx_blk (npc := 124) (L' := [(0, .inr (.inl 86)), (1, .inl x1), (2, .inl x2)]) (st' := [.inl (m 87 (gx_w (200 + x1)).toNat)]) (m' := m) [((114, .aload_n 0, 1, 0, 0, 0, 0), (0, 0, 0)), ((115, .getfield 7, 3, 10, 0, 5113, 0), (1, 86, 87)), ((118, .sipush 200, 3, 0, 0, 0, 0), (0, 0, 0)), ((121, .iload_n 1, 1, 0, 0, 0, 0), (0, 0, 0)), ((122, .iadd, 1, 0, 0, 0, 0), (0, 0, 0)), ((123, .iaload, 1, 0, 0, 0, 0), (0, 87, 0))] (by decide +kernel) rfl ?_
        exact hx_reti (by decide +kernel) (h6 c1 c2 c3 c4 c5 c6 c7)
      refine hsw_c (fun c8 => ?_) (fun c8 => ?_)
      · have c8 : x2 = 6 := c8
        refine hx_blk (npc := 135) (L' := [(0, .inr (.inl 86)), (1, .inl x1), (2, .inl x2)]) (st' := [.inl (m 87 (gx_w (240 + x1)).toNat)]) (m' := m) [((125, .aload_n 0, 1, 0, 0, 0, 0), (0, 0, 0)), ((126, .getfield 7, 3, 10, 0, 5113, 0), (1, 86, 87)), ((129, .sipush 240, 3, 0, 0, 0, 0), (0, 0, 0)), ((132, .iload_n 1, 1, 0, 0, 0, 0), (0, 0, 0)), ((133, .iadd, 1, 0, 0, 0, 0), (0, 0, 0)), ((134, .iaload, 1, 0, 0, 0, 0), (0, 87, 0))] (by decide +kernel) rfl ?_
        exact hx_reti (by decide +kernel) (h7 c1 c2 c3 c4 c5 c6 c7 c8)
      refine hsw_c (fun c9 => ?_) (fun c9 => ?_)
      · have c9 : x2 = 7 := c9
        refine hx_blk (npc := 146) (L' := [(0, .inr (.inl 86)), (1, .inl x1), (2, .inl x2)]) (st' := [.inl (m 87 (gx_w (280 + x1)).toNat)]) (m' := m) [((136, .aload_n 0, 1, 0, 0, 0, 0), (0, 0, 0)), ((137, .getfield 7, 3, 10, 0, 5113, 0), (1, 86, 87)), ((140, .sipush 280, 3, 0, 0, 0, 0), (0, 0, 0)), ((143, .iload_n 1, 1, 0, 0, 0, 0), (0, 0, 0)), ((144, .iadd, 1, 0, 0, 0, 0), (0, 0, 0)), ((145, .iaload, 1, 0, 0, 0, 0), (0, 87, 0))] (by decide +kernel) rfl ?_
        exact hx_reti (by decide +kernel) (h8 c1 c2 c3 c4 c5 c6 c7 c8 c9)
      refine hsw_c (fun c10 => ?_) (fun c10 => ?_)
      · have c10 : x2 = 8 := c10
        refine hx_blk (npc := 157) (L' := [(0, .inr (.inl 86)), (1, .inl x1), (2, .inl x2)]) (st' := [.inl (m 87 (gx_w (360 + x1)).toNat)]) (m' := m) [((147, .aload_n 0, 1, 0, 0, 0, 0), (0, 0, 0)), ((148, .getfield 7, 3, 10, 0, 5113, 0), (1, 86, 87)), ((151, .sipush 360, 3, 0, 0, 0, 0), (0, 0, 0)), ((154, .iload_n 1, 1, 0, 0, 0, 0), (0, 0, 0)), ((155, .iadd, 1, 0, 0, 0, 0), (0, 0, 0)), ((156, .iaload, 1, 0, 0, 0, 0), (0, 87, 0))] (by decide +kernel) rfl ?_
        exact hx_reti (by decide +kernel) (h9 c1 c2 c3 c4 c5 c6 c7 c8 c9 c10)
      refine hsw_c (fun c11 => ?_) (fun c11 => ?_)
      · have c11 : x2 = 9 := c11
        refine hx_blk (npc := 168) (L' := [(0, .inr (.inl 86)), (1, .inl x1), (2, .inl x2)]) (st' := [.inl (m 87 (gx_w (400 + x1)).toNat)]) (m' := m) [((158, .aload_n 0, 1, 0, 0, 0, 0), (0, 0, 0)), ((159, .getfield 7, 3, 10, 0, 5113, 0), (1, 86, 87)), ((162, .sipush 400, 3, 0, 0, 0, 0), (0, 0, 0)), ((165, .iload_n 1, 1, 0, 0, 0, 0), (0, 0, 0)), ((166, .iadd, 1, 0, 0, 0, 0), (0, 0, 0)), ((167, .iaload, 1, 0, 0, 0, 0), (0, 87, 0))] (by decide +kernel) rfl ?_
        exact hx_reti (by decide +kernel) (h10 c1 c2 c3 c4 c5 c6 c7 c8 c9 c10 c11)
      refine hsw_n ?_
      refine hx_blk (npc := 185) (L' := [(0, .inr (.inl 86)), (1, .inl x1), (2, .inl x2)]) (st' := [.inl (gx_w (19 + (m 87 (gx_w (400 + x1)).toNat))), .inl 20, .inl x2]) (m' := m) [((169, .iload_n 2, 1, 0, 0, 0, 0), (0, 0, 0)), ((170, .bipush 20, 2, 0, 0, 0, 0), (0, 0, 0)), ((172, .bipush 19, 2, 0, 0, 0, 0), (0, 0, 0)), ((174, .aload_n 0, 1, 0, 0, 0, 0), (0, 0, 0)), ((175, .getfield 7, 3, 10, 0, 5113, 0), (1, 86, 87)), ((178, .sipush 400, 3, 0, 0, 0, 0), (0, 0, 0)), ((181, .iload_n 1, 1, 0, 0, 0, 0), (0, 0, 0)), ((182, .iadd, 1, 0, 0, 0, 0), (0, 0, 0)), ((183, .iaload, 1, 0, 0, 0, 0), (0, 87, 0)), ((184, .iadd, 1, 0, 0, 0, 0), (0, 0, 0))] (by decide +kernel) rfl ?_
      refine hx_call (E := (185, .invokestatic 108, 3, 162, 0, 6023, 0)) (M' := yp_m162) [.inl x2, .inl 20, .inl (gx_w (19 + (m 87 (gx_w (400 + x1)).toNat)))] [] rfl (by decide +kernel) rfl ⟨rfl, rfl⟩ rfl rfl (hs162 (fun c12 => ?_) (fun c12 => ?_))
      · have c12 : 20 ≤ x2 ∧ x2 ≤ (gx_w (19 + (m 87 (gx_w (400 + x1)).toNat))) := c12
        show hxn xs n yp_m217 188 [(0, .inr (.inl 86)), (1, .inl x1), (2, .inl x2)] [.inl 1] m Q
        refine hx_if .eq 212 (by decide +kernel) (fun c13 => ?_) (fun c13 => ?_)
        · have c13 : (1 : Int) = 0 := c13
          exfalso; omega
        · have c13 : (1 : Int) ≠ 0 := c13
          refine hx_blk (npc := 213) (L' := [(0, .inr (.inl 86)), (1, .inl x1), (2, .inl x2)]) (st' := [.inl (m 87 (gx_w ((gx_w ((gx_w (480 + (gx_w (16 * x1)))) + x2)) - 20)).toNat)]) (m' := m) [((191, .aload_n 0, 1, 0, 0, 0, 0), (0, 0, 0)), ((192, .getfield 7, 3, 10, 0, 5113, 0), (1, 86, 87)), ((195, .sipush 480, 3, 0, 0, 0, 0), (0, 0, 0)), ((198, .bipush 16, 2, 0, 0, 0, 0), (0, 0, 0)), ((200, .iload_n 1, 1, 0, 0, 0, 0), (0, 0, 0)), ((201, .imul, 1, 0, 0, 0, 0), (0, 0, 0)), ((202, .iadd, 1, 0, 0, 0, 0), (0, 0, 0)), ((203, .iload_n 2, 1, 0, 0, 0, 0), (0, 0, 0)), ((204, .iadd, 1, 0, 0, 0, 0), (0, 0, 0)), ((205, .bipush 20, 2, 0, 0, 0, 0), (0, 0, 0)), ((207, .isub, 1, 0, 0, 0, 0), (0, 0, 0)), ((208, .iaload, 1, 0, 0, 0, 0), (0, 87, 0)), ((209, .goto 4, 3, 0, 0, 0, 0), (0, 0, 0))] (by decide +kernel) rfl ?_
          exact hx_reti (by decide +kernel) (h11 c1 c2 c3 c4 c5 c6 c7 c8 c9 c10 c11 c12)
      · have c12 : ¬ (20 ≤ x2 ∧ x2 ≤ (gx_w (19 + (m 87 (gx_w (400 + x1)).toNat)))) := c12
        show hxn xs n yp_m217 188 [(0, .inr (.inl 86)), (1, .inl x1), (2, .inl x2)] [.inl 0] m Q
        refine hx_if .eq 212 (by decide +kernel) (fun c13 => ?_) (fun c13 => ?_)
        · have c13 : (0 : Int) = 0 := c13
          refine hx_blk (npc := 213) (L' := [(0, .inr (.inl 86)), (1, .inl x1), (2, .inl x2)]) (st' := [.inl (-1)]) (m' := m) [((212, .iconst (-1), 1, 0, 0, 0, 0), (0, 0, 0))] (by decide +kernel) rfl ?_
          exact hx_reti (by decide +kernel) (h12 c1 c2 c3 c4 c5 c6 c7 c8 c9 c10 c11 c12)
        · have c13 : (0 : Int) ≠ 0 := c13
          exfalso; omega
    · have c2 : (1 : Int) = 0 := by have h : ¬ ((1 : Int) ≠ 0) := c2; omega
      exfalso; omega
  · have c1 : ¬ (aYr (m 87) x1) := c1
    show hxn xs n yp_m217 5 [(0, .inr (.inl 86)), (1, .inl x1), (2, .inl x2)] [.inl 0] m Q
    refine hx_if .ne 10 (by decide +kernel) (fun c2 => ?_) (fun c2 => ?_)
    · have c2 : (0 : Int) ≠ 0 := c2
      exfalso; omega
    · have c2 : (0 : Int) = 0 := by have h : ¬ ((0 : Int) ≠ 0) := c2; omega
      refine hx_blk (npc := 9) (L' := [(0, .inr (.inl 86)), (1, .inl x1), (2, .inl x2)]) (st' := [.inl (-1)]) (m' := m) [((8, .iconst (-1), 1, 0, 0, 0, 0), (0, 0, 0))] (by decide +kernel) rfl ?_
      exact hx_reti (by decide +kernel) (h13 c1)
end
section
/-! yearIs, by both -/
section BQ
variable {s : Nat → Int} {m : gx_M}
theorem cYr_iff {b : Nat} (h : sBk b s m) {x : Int} : cYear b m x ↔ aYr s x := by
  by_cases hx : 0 ≤ x ∧ x < 40
  · obtain ⟨Y, rfl⟩ : ∃ Y : Nat, x = (Y : Int) := ⟨x.toNat, by omega⟩
    rw [cY_iff h (by omega), aYr_iff (by omega)]
  · exact ⟨fun q => absurd ⟨q.1, q.2.1⟩ hx, fun q => absurd ⟨q.1, q.2.1⟩ hx⟩
theorem aYr_nat {x : Int} (h : aYr s x) : ∃ Y : Nat, x = (Y : Int) ∧ Y < 40 ∧ s (440 + Y) = 1 := by
  obtain ⟨h1, h2, h3⟩ := h
  refine ⟨x.toNat, by omega, by omega, ?_⟩
  have e : (440 + x).toNat = 440 + x.toNat := by omega
  rw [e] at h3
  exact h3
theorem cDeed_iff (hs : sOK s) (h : sBk 5 s m) {Y : Nat} (hY : Y < 40) : cDeed 5 m (Y : Int) ↔ s (440 + Y) = 1 ∧ s (160 + Y) = 1 := by
  unfold cDeed
  rw [cY_iff h hY, h.1.2.2.1, hmask_test hY]
  constructor
  · rintro ⟨c1, c⟩
    split at c
    · rename_i q
      rw [decide_eq_true_eq] at q
      exact ⟨c1, q⟩
    · exact absurd rfl c
  · rintro ⟨c1, c⟩
    rw [if_pos (decide_eq_true c)]
    exact ⟨c1, by decide⟩
end BQ
def qYr (s : Nat → Int) (Y : Nat) (w : Int) : Int := if w = 0 then s Y else if w = 1 then s (40 + Y) else if w = 2 then s (80 + Y) else if w = 3 then s (120 + Y) else if w = 4 then s (160 + Y) else if w = 5 then s (200 + Y) else if w = 6 then s (240 + Y) else if w = 7 then s (280 + Y) else if w = 8 then s (360 + Y) else if w = 9 then s (400 + Y) else if 20 ≤ w ∧ w ≤ 19 + s (400 + Y) then s (480 + (16 * Y + (w - 20).toNat)) else -1
def qYear (s : Nat → Int) (x w : Int) : Int := if 0 ≤ x ∧ x < 40 ∧ s (440 + x).toNat = 1 then qYr s x.toNat w else -1
theorem qYear_no {s : Nat → Int} {x w : Int} (h : ¬ aYr s x) : qYear s x w = -1 := if_neg h
theorem qYear_yes {s : Nat → Int} {Y : Nat} {w : Int} (h : aYr s (Y : Int)) : qYear s (Y : Int) w = qYr s Y w := by
  have h' : 0 ≤ (Y : Int) ∧ (Y : Int) < 40 ∧ s (440 + (Y : Int)).toNat = 1 := h
  unfold qYear
  rw [if_pos h', Int.toNat_natCast]
section QY
variable {xs : List Int32} {n : Nat} {m : gx_M} {a1 a2 : Int}
theorem c74 {Q : hQ} {s : Nat → Int} {Y : Nat} {k : Int} (hB : sBk 5 s m) (hY : Y < 40) (ht : s (440 + Y) = 1) (hs : 0 ≤ s (400 + Y) ∧ s (400 + Y) ≤ 16) (h : Q (some (.inl (if 0 ≤ k ∧ k < s (400 + Y) then s (480 + (16 * Y + k.toNat)) else -1))) m) : hxn xs n yp_m74 0 [(0, .inr (.inl 5)), (1, .inl (Y : Int)), (2, .inl k)] [] m Q := by
  have no : ¬ (0 ≤ k ∧ k < s (400 + Y)) → Q (some (.inl (-1))) m := fun c => by
    rw [if_neg c] at h
    exact h
  refine hx_dn (hr74_0 (fun _ c => no (by omega)) (fun _ _ c => no (by omega)) (fun _ c1 c2 c3 => ?_) (fun _ _ _ c => no ?_) (fun c => absurd ((cY_iff hB hY).mpr ht) c))
  · rw [Int.toNat_natCast, sB5_many hB Y hY] at c3
    rw [if_pos ⟨c1, c3⟩] at h
    have e : (gx_w ((gx_w ((Y : Int) * 16)) + k)).toNat = 16 * Y + k.toNat := by
      rw [gx_w_id (x := (Y : Int) * 16) (by omega) (by omega), gx_w_id (by omega) (by omega)]
      omega
    rw [e, sB5_hand hB _ (by omega)]
    exact h
  · rw [Int.toNat_natCast, sB5_many hB Y hY] at c
    omega
theorem q72 (b2 : hB a2) (hR : hWr xs m) : hxn xs n yp_m72 0 [(0, .inr (.inl 0)), (1, .inl a1), (2, .inl a2)] [] m (fun r _ => r = some (.inl (qYear (m 87) a1 a2))) := by
  obtain ⟨hs, hB, -⟩ := hR
  by_cases hy : aYr (m 87) a1
  case neg =>
    rw [qYear_no hy]
    have hn : ¬ cYear 5 m a1 := fun q => hy ((cYr_iff hB).mp q)
    refine hx_dn (hr72_0 ?_ ?_ ?_ ?_ ?_ ?_ ?_ ?_ ?_ ?_ ?_ ?_ ?_ (fun _ => rfl))
    all_goals exact fun q => absurd q hn
  obtain ⟨Y, rfl, hY, ht⟩ := aYr_nat hy
  rw [qYear_yes hy]
  have hm := hs.many Y hY
  have b2' : -2147483648 ≤ a2 ∧ a2 ≤ 2147483647 := b2
  refine hx_dn (hr72_0 (fun _ c => ?_) (fun _ _ c => ?_) (fun _ _ _ c => ?_) (fun _ _ _ _ c => ?_) (fun _ _ _ _ _ c d => ?_) (fun _ _ _ _ _ c d => ?_) (fun _ _ _ _ _ _ c => ?_) (fun _ _ _ _ _ _ _ c => ?_) (fun _ _ _ _ _ _ _ _ c => ?_) (fun _ _ _ _ _ _ _ _ _ c => ?_) (fun _ _ _ _ _ _ _ _ _ _ c => ?_) (fun _ d0 d1 d2 d3 d4 d5 d6 d7 d8 d9 c => ?_) (fun _ d0 d1 d2 d3 d4 d5 d6 d7 d8 d9 c => ?_) (fun c => absurd ((cY_iff hB hY).mpr ht) c))
  · rw [Int.toNat_natCast, sB5_date hB Y hY, c]
    rfl
  · rw [Int.toNat_natCast, sB5_livr hB Y hY, c]
    rfl
  · rw [Int.toNat_natCast, sB5_skl hB Y hY, c]
    rfl
  · rw [Int.toNat_natCast, sB5_met hB Y hY, c]
    rfl
  · rw [c]
    show (some (.inl 1) : Option hV) = some (.inl (m 87 (160 + Y)))
    rw [((cDeed_iff hs hB hY).mp d).2]
  · rw [c]
    show (some (.inl 0) : Option hV) = some (.inl (m 87 (160 + Y)))
    have := hs.deed Y hY
    have h0 : m 87 (160 + Y) = 0 := by
      rcases this with e | e
      · exact e
      · exact absurd ((cDeed_iff hs hB hY).mpr ⟨ht, e⟩) d
    rw [h0]
  · rw [Int.toNat_natCast, sB5_mark hB Y hY, c]
    rfl
  · rw [Int.toNat_natCast, sB5_own hB Y hY, c]
    rfl
  · rw [Int.toNat_natCast, sB5_hold hB Y hY ht, c]
    rfl
  · rw [Int.toNat_natCast, sB5_due hB Y hY, c]
    rfl
  · rw [Int.toNat_natCast, sB5_many hB Y hY, c]
    rfl
  · rw [gx_w_id (by omega) (by omega)]
    refine c74 hB hY ht hm (hx_dn (hr72_197 ?_))
    unfold qYr
    rw [if_neg d0, if_neg d1, if_neg d2, if_neg d3, if_neg d4, if_neg d5, if_neg d6, if_neg d7, if_neg d8, if_neg d9]
    by_cases e : 20 ≤ a2 ∧ a2 ≤ 19 + m 87 (400 + Y)
    · rw [if_pos e, if_pos (by omega)]
    · rw [if_neg e, if_neg (by omega)]
  · refine c74 hB hY ht hm (hx_dn (hr72_197 ?_))
    unfold qYr
    rw [if_neg d0, if_neg d1, if_neg d2, if_neg d3, if_neg d4, if_neg d5, if_neg d6, if_neg d7, if_neg d8, if_neg d9, if_neg (by omega), if_neg (by omega)]
theorem q217 (b2 : hB a2) (hR : hWr xs m) : hxn xs n yp_m217 0 [(0, .inr (.inl 86)), (1, .inl a1), (2, .inl a2)] [] m (fun r _ => r = some (.inl (qYear (m 87) a1 a2))) := by
  obtain ⟨hs, -⟩ := hR
  by_cases hy : aYr (m 87) a1
  case neg =>
    rw [qYear_no hy]
    refine hx_dn (hr217_0 ?_ ?_ ?_ ?_ ?_ ?_ ?_ ?_ ?_ ?_ ?_ ?_ (fun _ => rfl))
    all_goals exact fun q => absurd q hy
  have hy' := hy
  obtain ⟨Y, rfl, hY, ht⟩ := aYr_nat hy
  rw [qYear_yes hy']
  have hm := hs.many Y hY
  have b2' : -2147483648 ≤ a2 ∧ a2 ≤ 2147483647 := b2
  have e0 : (gx_w (0 + (Y : Int))).toNat = Y := by
    rw [gx_w_id (by omega) (by omega)]
    omega
  have e40 : (gx_w (40 + (Y : Int))).toNat = 40 + Y := wz (by decide) (by omega)
  have e80 : (gx_w (80 + (Y : Int))).toNat = 80 + Y := wz (by decide) (by omega)
  have e120 : (gx_w (120 + (Y : Int))).toNat = 120 + Y := wz (by decide) (by omega)
  have e160 : (gx_w (160 + (Y : Int))).toNat = 160 + Y := wz (by decide) (by omega)
  have e200 : (gx_w (200 + (Y : Int))).toNat = 200 + Y := wz (by decide) (by omega)
  refine hx_dn (hr217_0 (fun _ c => ?_) (fun _ _ c => ?_) (fun _ _ _ c => ?_) (fun _ _ _ _ c => ?_) (fun _ _ _ _ _ c => ?_) (fun _ _ _ _ _ _ c => ?_) (fun _ _ _ _ _ _ _ c => ?_) (fun _ _ _ _ _ _ _ _ c => ?_) (fun _ _ _ _ _ _ _ _ _ c => ?_) (fun _ _ _ _ _ _ _ _ _ _ c => ?_) (fun _ d0 d1 d2 d3 d4 d5 d6 d7 d8 d9 c => ?_) (fun _ d0 d1 d2 d3 d4 d5 d6 d7 d8 d9 c => ?_) (fun c => absurd hy' c))
  · rw [e0, c]
    rfl
  · rw [e40, c]
    rfl
  · rw [e80, c]
    rfl
  · rw [e120, c]
    rfl
  · rw [e160, c]
    rfl
  · rw [e200, c]
    rfl
  · rw [w240 hY, c]
    rfl
  · rw [w280 hY, c]
    rfl
  · rw [w360 hY, c]
    rfl
  · rw [w400 hY, c]
    rfl
  · rw [w400 hY, gx_w_id (by omega) (by omega)] at c
    unfold qYr
    rw [if_neg d0, if_neg d1, if_neg d2, if_neg d3, if_neg d4, if_neg d5, if_neg d6, if_neg d7, if_neg d8, if_neg d9, if_pos c]
    have e : (gx_w ((gx_w ((gx_w (480 + (gx_w (16 * (Y : Int))))) + a2)) - 20)).toNat = 480 + (16 * Y + (a2 - 20).toNat) := by
      rw [gx_w_id (x := 16 * (Y : Int)) (by omega) (by omega), gx_w_id (x := 480 + 16 * (Y : Int)) (by omega) (by omega), gx_w_id (x := 480 + 16 * (Y : Int) + a2) (by omega) (by omega), gx_w_id (by omega) (by omega)]
      omega
    rw [e]
  · rw [w400 hY, gx_w_id (by omega) (by omega)] at c
    unfold qYr
    rw [if_neg d0, if_neg d1, if_neg d2, if_neg d3, if_neg d4, if_neg d5, if_neg d6, if_neg d7, if_neg d8, if_neg d9, if_neg c]
end QY
end
