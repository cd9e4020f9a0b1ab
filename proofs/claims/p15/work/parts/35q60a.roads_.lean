section
/-! yearIs: roads -/
def cDeed (b : Nat) (m : gx_M) (y : Int) : Prop := cYear b m y ∧ hlcmp (hland (hlushr (m b 2) y) 1) 0 ≠ 0
/-- hasDeed from 0 on -/
theorem hs73_5 {xs : List Int32} {n : Nat} {Q : hQ} {m : gx_M} {x1 : Int}
    (h1 : cDeed 5 m x1 → Q (some (.inl 1)) m) (h0 : ¬ (cDeed 5 m x1) → Q (some (.inl 0)) m) : hxn xs n yp_m73 0 [(0, .inr (.inl 5)), (1, .inl x1)] [] m Q := by
  refine hx_dn ?_
  refine hx_blks (npc := 2) (L' := [(0, .inr (.inl 5)), (1, .inl x1)]) (st' := [.inl x1, .inr (.inl 5)]) (m' := m) ((0, .aload_n 0, 1, 0, 0, 0, 0), (0, 0, 0)) [((1, .iload_n 1, 1, 0, 0, 0, 0), (0, 0, 0))] (by decide +kernel) rfl ?_
  refine hx_call (E := (2, .invokevirtual 71, 3, 17, 0, 2188, 0)) (M' := yp_m17) [.inr (.inl 5), .inl x1] [] rfl (by decide +kernel) rfl ⟨rfl, rfl⟩ rfl rfl (hs17_5 (fun c1 => ?_) (fun c1 => ?_))
  · have c1 : cYear 5 m x1 := c1
    show hxn xs n yp_m73 5 [(0, .inr (.inl 5)), (1, .inl x1)] [.inl 1] m Q
    refine hx_if .eq 25 (by decide +kernel) (fun c2 => ?_) (fun c2 => ?_)
    · have c2 : (1 : Int) = 0 := c2
      exfalso; omega
    · have c2 : (1 : Int) ≠ 0 := c2
      refine hx_blk (npc := 18) (L' := [(0, .inr (.inl 5)), (1, .inl x1)]) (st' := [.inl (hlcmp (hland (hlushr (m 5 2) x1) 1) 0)]) (m' := m) [((8, .aload_n 0, 1, 0, 0, 0, 0), (0, 0, 0)), ((9, .getfield 59, 3, 2, 2, 1080, 0), (2, 5, 0)), ((12, .iload_n 1, 1, 0, 0, 0, 0), (0, 0, 0)), ((13, .lushr, 1, 0, 0, 0, 0), (0, 0, 0)), ((14, .lconst 1, 1, 0, 0, 0, 0), (0, 0, 0)), ((15, .land, 1, 0, 0, 0, 0), (0, 0, 0)), ((16, .lconst 0, 1, 0, 0, 0, 0), (0, 0, 0)), ((17, .lcmp, 1, 0, 0, 0, 0), (0, 0, 0))] (by decide +kernel) rfl ?_
      refine hx_if .eq 25 (by decide +kernel) (fun c2 => ?_) (fun c2 => ?_)
      · have c2 : (hlcmp (hland (hlushr (m 5 2) x1) 1) 0) = 0 := c2
        refine hx_blk (npc := 26) (L' := [(0, .inr (.inl 5)), (1, .inl x1)]) (st' := [.inl 0]) (m' := m) [((25, .iconst 0, 1, 0, 0, 0, 0), (0, 0, 0))] (by decide +kernel) rfl ?_
        exact hx_reti (by decide +kernel) (h0 (by unfold cDeed; intro q; first | exact absurd q.1 (by assumption) | exact absurd q.2 (by assumption) | exact q.2 (by omega) | (have := q.2; omega)))
      · have c2 : (hlcmp (hland (hlushr (m 5 2) x1) 1) 0) ≠ 0 := c2
        refine hx_blk (npc := 26) (L' := [(0, .inr (.inl 5)), (1, .inl x1)]) (st' := [.inl 1]) (m' := m) [((21, .iconst 1, 1, 0, 0, 0, 0), (0, 0, 0)), ((22, .goto 4, 3, 0, 0, 0, 0), (0, 0, 0))] (by decide +kernel) rfl ?_
        exact hx_reti (by decide +kernel) (h1 (by unfold cDeed; exact ⟨by assumption, by first | assumption | omega⟩))
  · have c1 : ¬ (cYear 5 m x1) := c1
    show hxn xs n yp_m73 5 [(0, .inr (.inl 5)), (1, .inl x1)] [.inl 0] m Q
    refine hx_if .eq 25 (by decide +kernel) (fun c2 => ?_) (fun c2 => ?_)
    · have c2 : (0 : Int) = 0 := c2
      refine hx_blk (npc := 26) (L' := [(0, .inr (.inl 5)), (1, .inl x1)]) (st' := [.inl 0]) (m' := m) [((25, .iconst 0, 1, 0, 0, 0, 0), (0, 0, 0))] (by decide +kernel) rfl ?_
      exact hx_reti (by decide +kernel) (h0 (by unfold cDeed; intro q; first | exact absurd q.1 (by assumption) | exact absurd q.2 (by assumption) | exact q.2 (by omega) | (have := q.2; omega)))
    · have c2 : (0 : Int) ≠ 0 := c2
      exfalso; omega

/-- handAt from 0 on -/
theorem hr74_0 {xs : List Int32} {n : Nat} {Q : hQ} {m : gx_M} {x1 x2 : Int}
    (h1 : (cYear 5 m x1) → (x2 < 0) → Q (some (.inl (-1))) m)
    (h2 : (cYear 5 m x1) → (0 ≤ x2) → (16 ≤ x2) → Q (some (.inl (-1))) m)
    (h3 : (cYear 5 m x1) → (0 ≤ x2) → (x2 < 16) → (x2 < (m 16 (x1).toNat)) → Q (some (.inl (m 17 (gx_w ((gx_w (x1 * 16)) + x2)).toNat))) m)
    (h4 : (cYear 5 m x1) → (0 ≤ x2) → (x2 < 16) → ((m 16 (x1).toNat) ≤ x2) → Q (some (.inl (-1))) m)
    (h5 : (¬ (cYear 5 m x1)) → Q (some (.inl (-1))) m) : hxn xs (n + 1) yp_m74 0 [(0, .inr (.inl 5)), (1, .inl x1), (2, .inl x2)] [] m Q := by
  refine hx_blks (npc := 2) (L' := [(0, .inr (.inl 5)), (1, .inl x1), (2, .inl x2)]) (st' := [.inl x1, .inr (.inl 5)]) (m' := m) ((0, .aload_n 0, 1, 0, 0, 0, 0), (0, 0, 0)) [((1, .iload_n 1, 1, 0, 0, 0, 0), (0, 0, 0))] (by decide +kernel) rfl ?_
  refine hx_call (E := (2, .invokevirtual 71, 3, 17, 0, 2188, 0)) (M' := yp_m17) [.inr (.inl 5), .inl x1] [] rfl (by decide +kernel) rfl ⟨rfl, rfl⟩ rfl rfl (hs17_5 (fun c1 => ?_) (fun c1 => ?_))
  · have c1 : cYear 5 m x1 := c1
    show hxn xs n yp_m74 5 [(0, .inr (.inl 5)), (1, .inl x1), (2, .inl x2)] [.inl 1] m Q
    refine hx_if .eq 28 (by decide +kernel) (fun c2 => ?_) (fun c2 => ?_)
    · have c2 : (1 : Int) = 0 := c2
      exfalso; omega
    · have c2 : (1 : Int) ≠ 0 := c2
      refine hx_blk (npc := 9) (L' := [(0, .inr (.inl 5)), (1, .inl x1), (2, .inl x2)]) (st' := [.inl x2]) (m' := m) [((8, .iload_n 2, 1, 0, 0, 0, 0), (0, 0, 0))] (by decide +kernel) rfl ?_
      refine hx_if .lt 28 (by decide +kernel) (fun c2 => ?_) (fun c2 => ?_)
      · have c2 : x2 < 0 := c2
        refine hx_blk (npc := 29) (L' := [(0, .inr (.inl 5)), (1, .inl x1), (2, .inl x2)]) (st' := [.inl (-1)]) (m' := m) [((28, .iconst (-1), 1, 0, 0, 0, 0), (0, 0, 0))] (by decide +kernel) rfl ?_
        exact hx_reti (by decide +kernel) (h1 c1 c2)
      · have c2 : 0 ≤ x2 := by have h : ¬ (x2 < 0) := c2; omega
        refine hx_blk (npc := 15) (L' := [(0, .inr (.inl 5)), (1, .inl x1), (2, .inl x2)]) (st' := [.inl 16, .inl x2]) (m' := m) [((12, .iload_n 2, 1, 0, 0, 0, 0), (0, 0, 0)), ((13, .bipush 16, 2, 0, 0, 0, 0), (0, 0, 0))] (by decide +kernel) rfl ?_
        refine hx_cmp .ge 28 (by decide +kernel) (fun c3 => ?_) (fun c3 => ?_)
        · have c3 : 16 ≤ x2 := c3
          refine hx_blk (npc := 29) (L' := [(0, .inr (.inl 5)), (1, .inl x1), (2, .inl x2)]) (st' := [.inl (-1)]) (m' := m) [((28, .iconst (-1), 1, 0, 0, 0, 0), (0, 0, 0))] (by decide +kernel) rfl ?_
          exact hx_reti (by decide +kernel) (h2 c1 c2 c3)
        · have c3 : x2 < 16 := by have h : ¬ (16 ≤ x2) := c3; omega
          refine hx_blk (npc := 25) (L' := [(0, .inr (.inl 5)), (1, .inl x1), (2, .inl x2)]) (st' := [.inl (m 16 (x1).toNat), .inl x2]) (m' := m) [((18, .iload_n 2, 1, 0, 0, 0, 0), (0, 0, 0)), ((19, .aload_n 0, 1, 0, 0, 0, 0), (0, 0, 0)), ((20, .getfield 46, 3, 2, 15, 1131, 0), (1, 5, 16)), ((23, .iload_n 1, 1, 0, 0, 0, 0), (0, 0, 0)), ((24, .iaload, 1, 0, 0, 0, 0), (0, 16, 0))] (by decide +kernel) rfl ?_
          refine hx_cmp .lt 30 (by decide +kernel) (fun c4 => ?_) (fun c4 => ?_)
          · have c4 : x2 < (m 16 (x1).toNat) := c4
            refine hx_blk (npc := 41) (L' := [(0, .inr (.inl 5)), (1, .inl x1), (2, .inl x2)]) (st' := [.inl (m 17 (gx_w ((gx_w (x1 * 16)) + x2)).toNat)]) (m' := m) [((30, .aload_n 0, 1, 0, 0, 0, 0), (0, 0, 0)), ((31, .getfield 49, 3, 2, 16, 1136, 0), (1, 5, 17)), ((34, .iload_n 1, 1, 0, 0, 0, 0), (0, 0, 0)), ((35, .bipush 16, 2, 0, 0, 0, 0), (0, 0, 0)), ((37, .imul, 1, 0, 0, 0, 0), (0, 0, 0)), ((38, .iload_n 2, 1, 0, 0, 0, 0), (0, 0, 0)), ((39, .iadd, 1, 0, 0, 0, 0), (0, 0, 0)), ((40, .iaload, 1, 0, 0, 0, 0), (0, 17, 0))] (by decide +kernel) rfl ?_
            exact hx_reti (by decide +kernel) (h3 c1 c2 c3 c4)
          · have c4 : (m 16 (x1).toNat) ≤ x2 := by have h : ¬ (x2 < (m 16 (x1).toNat)) := c4; omega
            refine hx_blk (npc := 29) (L' := [(0, .inr (.inl 5)), (1, .inl x1), (2, .inl x2)]) (st' := [.inl (-1)]) (m' := m) [((28, .iconst (-1), 1, 0, 0, 0, 0), (0, 0, 0))] (by decide +kernel) rfl ?_
            exact hx_reti (by decide +kernel) (h4 c1 c2 c3 c4)
  · have c1 : ¬ (cYear 5 m x1) := c1
    show hxn xs n yp_m74 5 [(0, .inr (.inl 5)), (1, .inl x1), (2, .inl x2)] [.inl 0] m Q
    refine hx_if .eq 28 (by decide +kernel) (fun c2 => ?_) (fun c2 => ?_)
    · have c2 : (0 : Int) = 0 := c2
      refine hx_blk (npc := 29) (L' := [(0, .inr (.inl 5)), (1, .inl x1), (2, .inl x2)]) (st' := [.inl (-1)]) (m' := m) [((28, .iconst (-1), 1, 0, 0, 0, 0), (0, 0, 0))] (by decide +kernel) rfl ?_
      exact hx_reti (by decide +kernel) (h5 c1)
    · have c2 : (0 : Int) ≠ 0 := c2
      exfalso; omega

/-- yearIs from 0 on -/
theorem hr72_0 {xs : List Int32} {n : Nat} {Q : hQ} {m : gx_M} {x1 x2 : Int}
    (h1 : (cYear 5 m x1) → (x2 = 0) → Q (some (.inl (m 7 (x1).toNat))) m)
    (h2 : (cYear 5 m x1) → (x2 ≠ 0) → (x2 = 1) → Q (some (.inl (m 8 (x1).toNat))) m)
    (h3 : (cYear 5 m x1) → (x2 ≠ 0) → (x2 ≠ 1) → (x2 = 2) → Q (some (.inl (m 9 (x1).toNat))) m)
    (h4 : (cYear 5 m x1) → (x2 ≠ 0) → (x2 ≠ 1) → (x2 ≠ 2) → (x2 = 3) → Q (some (.inl (m 10 (x1).toNat))) m)
    (h5 : (cYear 5 m x1) → (x2 ≠ 0) → (x2 ≠ 1) → (x2 ≠ 2) → (x2 ≠ 3) → (x2 = 4) → (cDeed 5 m x1) → Q (some (.inl 1)) m)
    (h6 : (cYear 5 m x1) → (x2 ≠ 0) → (x2 ≠ 1) → (x2 ≠ 2) → (x2 ≠ 3) → (x2 = 4) → (¬ (cDeed 5 m x1)) → Q (some (.inl 0)) m)
    (h7 : (cYear 5 m x1) → (x2 ≠ 0) → (x2 ≠ 1) → (x2 ≠ 2) → (x2 ≠ 3) → (x2 ≠ 4) → (x2 = 5) → Q (some (.inl (m 11 (x1).toNat))) m)
    (h8 : (cYear 5 m x1) → (x2 ≠ 0) → (x2 ≠ 1) → (x2 ≠ 2) → (x2 ≠ 3) → (x2 ≠ 4) → (x2 ≠ 5) → (x2 = 6) → Q (some (.inl (m 12 (x1).toNat))) m)
    (h9 : (cYear 5 m x1) → (x2 ≠ 0) → (x2 ≠ 1) → (x2 ≠ 2) → (x2 ≠ 3) → (x2 ≠ 4) → (x2 ≠ 5) → (x2 ≠ 6) → (x2 = 7) → Q (some (.inl (m 13 (x1).toNat))) m)
    (h10 : (cYear 5 m x1) → (x2 ≠ 0) → (x2 ≠ 1) → (x2 ≠ 2) → (x2 ≠ 3) → (x2 ≠ 4) → (x2 ≠ 5) → (x2 ≠ 6) → (x2 ≠ 7) → (x2 = 8) → Q (some (.inl (m 15 (x1).toNat))) m)
    (h11 : (cYear 5 m x1) → (x2 ≠ 0) → (x2 ≠ 1) → (x2 ≠ 2) → (x2 ≠ 3) → (x2 ≠ 4) → (x2 ≠ 5) → (x2 ≠ 6) → (x2 ≠ 7) → (x2 ≠ 8) → (x2 = 9) → Q (some (.inl (m 16 (x1).toNat))) m)
    (h12 : (cYear 5 m x1) → (x2 ≠ 0) → (x2 ≠ 1) → (x2 ≠ 2) → (x2 ≠ 3) → (x2 ≠ 4) → (x2 ≠ 5) → (x2 ≠ 6) → (x2 ≠ 7) → (x2 ≠ 8) → (x2 ≠ 9) → (20 ≤ x2) → hxn xs n yp_m74 0 [(0, .inr (.inl 5)), (1, .inl x1), (2, .inl (gx_w (x2 - 20)))] [] m (fun r m' => hxn xs n yp_m72 197 [] (hrs r ++ []) m' Q))
    (h13 : (cYear 5 m x1) → (x2 ≠ 0) → (x2 ≠ 1) → (x2 ≠ 2) → (x2 ≠ 3) → (x2 ≠ 4) → (x2 ≠ 5) → (x2 ≠ 6) → (x2 ≠ 7) → (x2 ≠ 8) → (x2 ≠ 9) → (x2 < 20) → hxn xs n yp_m74 0 [(0, .inr (.inl 5)), (1, .inl x1), (2, .inl (-1))] [] m (fun r m' => hxn xs n yp_m72 197 [] (hrs r ++ []) m' Q))
    (h14 : (¬ (cYear 5 m x1)) → Q (some (.inl (-1))) m) : hxn xs (n + 1) yp_m72 0 [(0, .inr (.inl 0)), (1, .inl x1), (2, .inl x2)] [] m Q := by
  refine hx_blks (npc := 5) (L' := [(0, .inr (.inl 0)), (1, .inl x1), (2, .inl x2)]) (st' := [.inl x1, .inr (.inl 5)]) (m' := m) ((0, .aload_n 0, 1, 0, 0, 0, 0), (0, 0, 0)) [((1, .getfield 26, 3, 9, 2, 2121, 0), (1, 0, 5)), ((4, .iload_n 1, 1, 0, 0, 0, 0), (0, 0, 0))] (by decide +kernel) rfl ?_
  refine hx_call (E := (5, .invokevirtual 156, 3, 17, 0, 3202, 0)) (M' := yp_m17) [.inr (.inl 5), .inl x1] [] rfl (by decide +kernel) rfl ⟨rfl, rfl⟩ rfl rfl (hs17_5 (fun c1 => ?_) (fun c1 => ?_))
  · have c1 : cYear 5 m x1 := c1
    show hxn xs n yp_m72 8 [(0, .inr (.inl 0)), (1, .inl x1), (2, .inl x2)] [.inl 1] m Q
    refine hx_if .ne 13 (by decide +kernel) (fun c2 => ?_) (fun c2 => ?_)
    · have c2 : (1 : Int) ≠ 0 := c2
      refine hx_blk (npc := 14) (L' := [(0, .inr (.inl 0)), (1, .inl x1), (2, .inl x2)]) (st' := [.inl x2]) (m' := m) [((13, .iload_n 2, 1, 0, 0, 0, 0), (0, 0, 0))] (by decide +kernel) rfl ?_
      refine hx_tsw 175 [(0, 68), (1, 78), (2, 88), (3, 98), (4, 108), (5, 125), (6, 135), (7, 145), (8, 155), (9, 165)] (by decide +kernel) ?_
      refine hsw_c (fun c2 => ?_) (fun c2 => ?_)
      · have c2 : x2 = 0 := c2
        refine hx_blk (npc := 77) (L' := [(0, .inr (.inl 0)), (1, .inl x1), (2, .inl x2)]) (st' := [.inl (m 7 (x1).toNat)]) (m' := m) [((68, .aload_n 0, 1, 0, 0, 0, 0), (0, 0, 0)), ((69, .getfield 26, 3, 9, 2, 2121, 0), (1, 0, 5)), ((72, .getfield 101, 3, 2, 6, 1094, 0), (1, 5, 7)), ((75, .iload_n 1, 1, 0, 0, 0, 0), (0, 0, 0)), ((76, .iaload, 1, 0, 0, 0, 0), (0, 7, 0))] (by decide +kernel) rfl ?_
        exact hx_reti (by decide +kernel) (h1 c1 c2)
      refine hsw_c (fun c3 => ?_) (fun c3 => ?_)
      · have c3 : x2 = 1 := c3
        refine hx_blk (npc := 87) (L' := [(0, .inr (.inl 0)), (1, .inl x1), (2, .inl x2)]) (st' := [.inl (m 8 (x1).toNat)]) (m' := m) [((78, .aload_n 0, 1, 0, 0, 0, 0), (0, 0, 0)), ((79, .getfield 26, 3, 9, 2, 2121, 0), (1, 0, 5)), ((82, .getfield 159, 3, 2, 7, 1098, 0), (1, 5, 8)), ((85, .iload_n 1, 1, 0, 0, 0, 0), (0, 0, 0)), ((86, .iaload, 1, 0, 0, 0, 0), (0, 8, 0))] (by decide +kernel) rfl ?_
        exact hx_reti (by decide +kernel) (h2 c1 c2 c3)
      refine hsw_c (fun c4 => ?_) (fun c4 => ?_)
      · have c4 : x2 = 2 := c4
        refine hx_blk (npc := 97) (L' := [(0, .inr (.inl 0)), (1, .inl x1), (2, .inl x2)]) (st' := [.inl (m 9 (x1).toNat)]) (m' := m) [((88, .aload_n 0, 1, 0, 0, 0, 0), (0, 0, 0)), ((89, .getfield 26, 3, 9, 2, 2121, 0), (1, 0, 5)), ((92, .getfield 104, 3, 2, 8, 1102, 0), (1, 5, 9)), ((95, .iload_n 1, 1, 0, 0, 0, 0), (0, 0, 0)), ((96, .iaload, 1, 0, 0, 0, 0), (0, 9, 0))] (by decide +kernel) rfl ?_
        exact hx_reti (by decide +kernel) (h3 c1 c2 c3 c4)
      refine hsw_c (fun c5 => ?_) (fun c5 => ?_)
      · have c5 : x2 = 3 := c5
        refine hx_blk (npc := 107) (L' := [(0, .inr (.inl 0)), (1, .inl x1), (2, .inl x2)]) (st' := [.inl (m 10 (x1).toNat)]) (m' := m) [((98, .aload_n 0, 1, 0, 0, 0, 0), (0, 0, 0)), ((99, .getfield 26, 3, 9, 2, 2121, 0), (1, 0, 5)), ((102, .getfield 107, 3, 2, 9, 1106, 0), (1, 5, 10)), ((105, .iload_n 1, 1, 0, 0, 0, 0), (0, 0, 0)), ((106, .iaload, 1, 0, 0, 0, 0), (0, 10, 0))] (by decide +kernel) rfl ?_
        exact hx_reti (by decide +kernel) (h4 c1 c2 c3 c4 c5)
      refine hsw_c (fun c6 => ?_) (fun c6 => ?_)
      · have c6 : x2 = 4 := c6
        refine hx_blk (npc := 113) (L' := [(0, .inr (.inl 0)), (1, .inl x1), (2, .inl x2)]) (st' := [.inl x1, .inr (.inl 5)]) (m' := m) [((108, .aload_n 0, 1, 0, 0, 0, 0), (0, 0, 0)), ((109, .getfield 26, 3, 9, 2, 2121, 0), (1, 0, 5)), ((112, .iload_n 1, 1, 0, 0, 0, 0), (0, 0, 0))] (by decide +kernel) rfl ?_
        refine hx_call (E := (113, .invokevirtual 162, 3, 73, 0, 3203, 0)) (M' := yp_m73) [.inr (.inl 5), .inl x1] [] rfl (by decide +kernel) rfl ⟨rfl, rfl⟩ rfl rfl (hs73_5 (fun c7 => ?_) (fun c7 => ?_))
        · have c7 : cDeed 5 m x1 := c7
          show hxn xs n yp_m72 116 [(0, .inr (.inl 0)), (1, .inl x1), (2, .inl x2)] [.inl 1] m Q
          refine hx_if .eq 123 (by decide +kernel) (fun c8 => ?_) (fun c8 => ?_)
          · have c8 : (1 : Int) = 0 := c8
            exfalso; omega
          · have c8 : (1 : Int) ≠ 0 := c8
            refine hx_blk (npc := 124) (L' := [(0, .inr (.inl 0)), (1, .inl x1), (2, .inl x2)]) (st' := [.inl 1]) (m' := m) [((119, .iconst 1, 1, 0, 0, 0, 0), (0, 0, 0)), ((120, .goto 4, 3, 0, 0, 0, 0), (0, 0, 0))] (by decide +kernel) rfl ?_
            exact hx_reti (by decide +kernel) (h5 c1 c2 c3 c4 c5 c6 c7)
        · have c7 : ¬ (cDeed 5 m x1) := c7
          show hxn xs n yp_m72 116 [(0, .inr (.inl 0)), (1, .inl x1), (2, .inl x2)] [.inl 0] m Q
          refine hx_if .eq 123 (by decide +kernel) (fun c8 => ?_) (fun c8 => ?_)
          · have c8 : (0 : Int) = 0 := c8
            refine hx_blk (npc := 124) (L' := [(0, .inr (.inl 0)), (1, .inl x1), (2, .inl x2)]) (st' := [.inl 0]) (m' := m) [((123, .iconst 0, 1, 0, 0, 0, 0), (0, 0, 0))] (by decide +kernel) rfl ?_
            exact hx_reti (by decide +kernel) (h6 c1 c2 c3 c4 c5 c6 c7)
          · have c8 : (0 : Int) ≠ 0 := c8
            exfalso; omega
      refine hsw_c (fun c7 => ?_) (fun c7 => ?_)
      · have c7 : x2 = 5 := c7
        refine hx_blk (npc := 134) (L' := [(0, .inr (.inl 0)), (1, .inl x1), (2, .inl x2)]) (st' := [.inl (m 11 (x1).toNat)]) (m' := m) [((125, .aload_n 0, 1, 0, 0, 0, 0), (0, 0, 0)), ((126, .getfield 26, 3, 9, 2, 2121, 0), (1, 0, 5)), ((129, .getfield 110, 3, 2, 10, 1109, 0), (1, 5, 11)), ((132, .iload_n 1, 1, 0, 0, 0, 0), (0, 0, 0)), ((133, .iaload, 1, 0, 0, 0, 0), (0, 11, 0))] (by decide +kernel) rfl ?_
        exact hx_reti (by decide +kernel) (h7 c1 c2 c3 c4 c5 c6 c7)
      refine hsw_c (fun c8 => ?_) (fun c8 => ?_)
      · have c8 : x2 = 6 := c8
        refine hx_blk (npc := 144) (L' := [(0, .inr (.inl 0)), (1, .inl x1), (2, .inl x2)]) (st' := [.inl (m 12 (x1).toNat)]) (m' := m) [((135, .aload_n 0, 1, 0, 0, 0, 0), (0, 0, 0)), ((136, .getfield 26, 3, 9, 2, 2121, 0), (1, 0, 5)), ((139, .getfield 165, 3, 2, 11, 1116, 0), (1, 5, 12)), ((142, .iload_n 1, 1, 0, 0, 0, 0), (0, 0, 0)), ((143, .iaload, 1, 0, 0, 0, 0), (0, 12, 0))] (by decide +kernel) rfl ?_
        exact hx_reti (by decide +kernel) (h8 c1 c2 c3 c4 c5 c6 c7 c8)
      refine hsw_c (fun c9 => ?_) (fun c9 => ?_)
      · have c9 : x2 = 7 := c9
        refine hx_blk (npc := 154) (L' := [(0, .inr (.inl 0)), (1, .inl x1), (2, .inl x2)]) (st' := [.inl (m 13 (x1).toNat)]) (m' := m) [((145, .aload_n 0, 1, 0, 0, 0, 0), (0, 0, 0)), ((146, .getfield 26, 3, 9, 2, 2121, 0), (1, 0, 5)), ((149, .getfield 168, 3, 2, 12, 1122, 0), (1, 5, 13)), ((152, .iload_n 1, 1, 0, 0, 0, 0), (0, 0, 0)), ((153, .iaload, 1, 0, 0, 0, 0), (0, 13, 0))] (by decide +kernel) rfl ?_
        exact hx_reti (by decide +kernel) (h9 c1 c2 c3 c4 c5 c6 c7 c8 c9)
      refine hsw_c (fun c10 => ?_) (fun c10 => ?_)
      · have c10 : x2 = 8 := c10
        refine hx_blk (npc := 164) (L' := [(0, .inr (.inl 0)), (1, .inl x1), (2, .inl x2)]) (st' := [.inl (m 15 (x1).toNat)]) (m' := m) [((155, .aload_n 0, 1, 0, 0, 0, 0), (0, 0, 0)), ((156, .getfield 26, 3, 9, 2, 2121, 0), (1, 0, 5)), ((159, .getfield 171, 3, 2, 14, 1130, 0), (1, 5, 15)), ((162, .iload_n 1, 1, 0, 0, 0, 0), (0, 0, 0)), ((163, .iaload, 1, 0, 0, 0, 0), (0, 15, 0))] (by decide +kernel) rfl ?_
        exact hx_reti (by decide +kernel) (h10 c1 c2 c3 c4 c5 c6 c7 c8 c9 c10)
      refine hsw_c (fun c11 => ?_) (fun c11 => ?_)
      · have c11 : x2 = 9 := c11
        refine hx_blk (npc := 174) (L' := [(0, .inr (.inl 0)), (1, .inl x1), (2, .inl x2)]) (st' := [.inl (m 16 (x1).toNat)]) (m' := m) [((165, .aload_n 0, 1, 0, 0, 0, 0), (0, 0, 0)), ((166, .getfield 26, 3, 9, 2, 2121, 0), (1, 0, 5)), ((169, .getfield 174, 3, 2, 15, 1132, 0), (1, 5, 16)), ((172, .iload_n 1, 1, 0, 0, 0, 0), (0, 0, 0)), ((173, .iaload, 1, 0, 0, 0, 0), (0, 16, 0))] (by decide +kernel) rfl ?_
        exact hx_reti (by decide +kernel) (h11 c1 c2 c3 c4 c5 c6 c7 c8 c9 c10 c11)
      refine hsw_n ?_
      refine hx_blk (npc := 183) (L' := [(0, .inr (.inl 0)), (1, .inl x1), (2, .inl x2)]) (st' := [.inl 20, .inl x2, .inl x1, .inr (.inl 5)]) (m' := m) [((175, .aload_n 0, 1, 0, 0, 0, 0), (0, 0, 0)), ((176, .getfield 26, 3, 9, 2, 2121, 0), (1, 0, 5)), ((179, .iload_n 1, 1, 0, 0, 0, 0), (0, 0, 0)), ((180, .iload_n 2, 1, 0, 0, 0, 0), (0, 0, 0)), ((181, .bipush 20, 2, 0, 0, 0, 0), (0, 0, 0))] (by decide +kernel) rfl ?_
      refine hx_cmp .ge 190 (by decide +kernel) (fun c12 => ?_) (fun c12 => ?_)
      · have c12 : 20 ≤ x2 := c12
        refine hx_blk (npc := 194) (L' := [(0, .inr (.inl 0)), (1, .inl x1), (2, .inl x2)]) (st' := [.inl (gx_w (x2 - 20)), .inl x1, .inr (.inl 5)]) (m' := m) [((190, .iload_n 2, 1, 0, 0, 0, 0), (0, 0, 0)), ((191, .bipush 20, 2, 0, 0, 0, 0), (0, 0, 0)), ((193, .isub, 1, 0, 0, 0, 0), (0, 0, 0))] (by decide +kernel) rfl ?_
        exact hx_call (E := (194, .invokevirtual 177, 3, 74, 0, 3207, 0)) (M' := yp_m74) [.inr (.inl 5), .inl x1, .inl (gx_w (x2 - 20))] [] rfl (by decide +kernel) rfl ⟨rfl, rfl⟩ rfl rfl (hx_mono (h12 c1 c2 c3 c4 c5 c6 c7 c8 c9 c10 c11 c12) (fun r m' h' => hx_pick [] h'))
      · have c12 : x2 < 20 := by have h : ¬ (20 ≤ x2) := c12; omega
        refine hx_blk (npc := 194) (L' := [(0, .inr (.inl 0)), (1, .inl x1), (2, .inl x2)]) (st' := [.inl (-1), .inl x1, .inr (.inl 5)]) (m' := m) [((186, .iconst (-1), 1, 0, 0, 0, 0), (0, 0, 0)), ((187, .goto 7, 3, 0, 0, 0, 0), (0, 0, 0))] (by decide +kernel) rfl ?_
        exact hx_call (E := (194, .invokevirtual 177, 3, 74, 0, 3207, 0)) (M' := yp_m74) [.inr (.inl 5), .inl x1, .inl (-1)] [] rfl (by decide +kernel) rfl ⟨rfl, rfl⟩ rfl rfl (hx_mono (h13 c1 c2 c3 c4 c5 c6 c7 c8 c9 c10 c11 c12) (fun r m' h' => hx_pick [] h'))
    · have c2 : (1 : Int) = 0 := by have h : ¬ ((1 : Int) ≠ 0) := c2; omega
      exfalso; omega
  · have c1 : ¬ (cYear 5 m x1) := c1
    show hxn xs n yp_m72 8 [(0, .inr (.inl 0)), (1, .inl x1), (2, .inl x2)] [.inl 0] m Q
    refine hx_if .ne 13 (by decide +kernel) (fun c2 => ?_) (fun c2 => ?_)
    · have c2 : (0 : Int) ≠ 0 := c2
      exfalso; omega
    · have c2 : (0 : Int) = 0 := by have h : ¬ ((0 : Int) ≠ 0) := c2; omega
      refine hx_blk (npc := 12) (L' := [(0, .inr (.inl 0)), (1, .inl x1), (2, .inl x2)]) (st' := [.inl (-1)]) (m' := m) [((11, .iconst (-1), 1, 0, 0, 0, 0), (0, 0, 0))] (by decide +kernel) rfl ?_
      exact hx_reti (by decide +kernel) (h14 c1)

/-- yearIs from 197 on -/
theorem hr72_197 {xs : List Int32} {n : Nat} {Q : hQ} {m : gx_M} {s0 : Int}
    (h1 : Q (some (.inl s0)) m) : hxn xs (n + 1) yp_m72 197 [] [.inl s0] m Q := by
  exact hx_reti (by decide +kernel) h1

/-- yearIs from 0 on -/
theorem hr217_0 {xs : List Int32} {n : Nat} {Q : hQ} {m : gx_M} {x1 x2 : Int}
    (h1 : (aYr (m 87) x1) → (x2 = 0) → Q (some (.inl (m 87 (gx_w (0 + x1)).toNat))) m)
    (h2 : (aYr (m 87) x1) → (x2 ≠ 0) → (x2 = 1) → Q (some (.inl (m 87 (gx_w (40 + x1)).toNat))) m)
    (h3 : (aYr (m 87) x1) → (x2 ≠ 0) → (x2 ≠ 1) → (x2 = 2) → Q (some (.inl (m 87 (gx_w (80 + x1)).toNat))) m)
    (h4 : (aYr (m 87) x1) → (x2 ≠ 0) → (x2 ≠ 1) → (x2 ≠ 2) → (x2 = 3) → Q (some (.inl (m 87 (gx_w (120 + x1)).toNat))) m)
    (h5 : (aYr (m 87) x1) → (x2 ≠ 0) → (x2 ≠ 1) → (x2 ≠ 2) → (x2 ≠ 3) → (x2 = 4) → Q (some (.inl (m 87 (gx_w (160 + x1)).toNat))) m)
    (h6 : (aYr (m 87) x1) → (x2 ≠ 0) → (x2 ≠ 1) → (x2 ≠ 2) → (x2 ≠ 3) → (x2 ≠ 4) → (x2 = 5) → Q (some (.inl (m 87 (gx_w (200 + x1)).toNat))) m)
    (h7 : (aYr (m 87) x1) → (x2 ≠ 0) → (x2 ≠ 1) → (x2 ≠ 2) → (x2 ≠ 3) → (x2 ≠ 4) → (x2 ≠ 5) → (x2 = 6) → Q (some (.inl (m 87 (gx_w (240 + x1)).toNat))) m)
    (h8 : (aYr (m 87) x1) → (x2 ≠ 0) → (x2 ≠ 1) → (x2 ≠ 2) → (x2 ≠ 3) → (x2 ≠ 4) → (x2 ≠ 5) → (x2 ≠ 6) → (x2 = 7) → Q (some (.inl (m 87 (gx_w (280 + x1)).toNat))) m)
    (h9 : (aYr (m 87) x1) → (x2 ≠ 0) → (x2 ≠ 1) → (x2 ≠ 2) → (x2 ≠ 3) → (x2 ≠ 4) → (x2 ≠ 5) → (x2 ≠ 6) → (x2 ≠ 7) → (x2 = 8) → Q (some (.inl (m 87 (gx_w (360 + x1)).toNat))) m)
    (h10 : (aYr (m 87) x1) → (x2 ≠ 0) → (x2 ≠ 1) → (x2 ≠ 2) → (x2 ≠ 3) → (x2 ≠ 4) → (x2 ≠ 5) → (x2 ≠ 6) → (x2 ≠ 7) → (x2 ≠ 8) → (x2 = 9) → Q (some (.inl (m 87 (gx_w (400 + x1)).toNat))) m)
    (h11 : (aYr (m 87) x1) → (x2 ≠ 0) → (x2 ≠ 1) → (x2 ≠ 2) → (x2 ≠ 3) → (x2 ≠ 4) → (x2 ≠ 5) → (x2 ≠ 6) → (x2 ≠ 7) → (x2 ≠ 8) → (x2 ≠ 9) → (20 ≤ x2 ∧ x2 ≤ (gx_w (19 + (m 87 (gx_w (400 + x1)).toNat)))) → Q (some (.inl (m 87 (gx_w ((gx_w ((gx_w (480 + (gx_w (16 * x1)))) + x2)) - 20)).toNat))) m)
    (h12 : (aYr (m 87) x1) → (x2 ≠ 0) → (x2 ≠ 1) → (x2 ≠ 2) → (x2 ≠ 3) → (x2 ≠ 4) → (x2 ≠ 5) → (x2 ≠ 6) → (x2 ≠ 7) → (x2 ≠ 8) → (x2 ≠ 9) → (¬ (20 ≤ x2 ∧ x2 ≤ (gx_w (19 + (m 87 (gx_w (400 + x1)).toNat))))) → Q (some (.inl (-1))) m)
    (h13 : (¬ (aYr (m 87) x1)) → Q (some (.inl (-1))) m) : hxn xs (n + 1) yp_m217 0 [(0, .inr (.inl 86)), (1, .inl x1), (2, .inl x2)] [] m Q := by
  refine hx_blks (npc := 2) (L' := [(0, .inr (.inl 86)), (1, .inl x1), (2, .inl x2)]) (st' := [.inl x1, .inr (.inl 86)]) (m' := m) ((0, .aload_n 0, 1, 0, 0, 0, 0), (0, 0, 0)) [((1, .iload_n 1, 1, 0, 0, 0, 0), (0, 0, 0))] (by decide +kernel) rfl ?_
  refine hx_call (E := (2, .invokevirtual 269, 3, 196, 0, 6156, 0)) (M' := yp_m196) [.inr (.inl 86), .inl x1] [] rfl (by decide +kernel) rfl ⟨rfl, rfl⟩ rfl rfl (hs196 (fun c1 => ?_) (fun c1 => ?_))
  · have c1 : aYr (m 87) x1 := c1
    show hxn xs n yp_m217 5 [(0, .inr (.inl 86)), (1, .inl x1), (2, .inl x2)] [.inl 1] m Q
    refine hx_if .ne 10 (by decide +kernel) (fun c2 => ?_) (fun c2 => ?_)
    · have c2 : (1 : Int) ≠ 0 := c2
      refine hx_blk (npc := 11) (L' := [(0, .inr (.inl 86)), (1, .inl x1), (2, .inl x2)]) (st' := [.inl x2]) (m' := m) [((10, .iload_n 2, 1, 0, 0, 0, 0), (0, 0, 0))] (by decide +kernel) rfl ?_
      refine hx_tsw 169 [(0, 64), (1, 73), (2, 83), (3, 93), (4, 103), (5, 114), (6, 125), (7, 136), (8, 147), (9, 158)] (by decide +kernel) ?_
      refine hsw_c (fun c2 => ?_) (fun c2 => ?_)
      · have c2 : x2 = 0 := c2
        refine hx_blk (npc := 72) (L' := [(0, .inr (.inl 86)), (1, .inl x1), (2, .inl x2)]) (st' := [.inl (m 87 (gx_w (0 + x1)).toNat)]) (m' := m) [((64, .aload_n 0, 1, 0, 0, 0, 0), (0, 0, 0)), ((65, .getfield 7, 3, 10, 0, 5113, 0), (1, 86, 87)), ((68, .iconst 0, 1, 0, 0, 0, 0), (0, 0, 0)), ((69, .iload_n 1, 1, 0, 0, 0, 0), (0, 0, 0)), ((70, .iadd, 1, 0, 0, 0, 0), (0, 0, 0)), ((71, .iaload, 1, 0, 0, 0, 0), (0, 87, 0))] (by decide +kernel) rfl ?_
        exact hx_reti (by decide +kernel) (h1 c1 c2)
      refine hsw_c (fun c3 => ?_) (fun c3 => ?_)
      · have c3 : x2 = 1 := c3
        refine hx_blk (npc := 82) (L' := [(0, .inr (.inl 86)), (1, .inl x1), (2, .inl x2)]) (st' := [.inl (m 87 (gx_w (40 + x1)).toNat)]) (m' := m) [((73, .aload_n 0, 1, 0, 0, 0, 0), (0, 0, 0)), ((74, .getfield 7, 3, 10, 0, 5113, 0), (1, 86, 87)), ((77, .bipush 40, 2, 0, 0, 0, 0), (0, 0, 0)), ((79, .iload_n 1, 1, 0, 0, 0, 0), (0, 0, 0)), ((80, .iadd, 1, 0, 0, 0, 0), (0, 0, 0)), ((81, .iaload, 1, 0, 0, 0, 0), (0, 87, 0))] (by decide +kernel) rfl ?_
        exact hx_reti (by decide +kernel) (h2 c1 c2 c3)
      refine hsw_c (fun c4 => ?_) (fun c4 => ?_)
      · have c4 : x2 = 2 := c4
        refine hx_blk (npc := 92) (L' := [(0, .inr (.inl 86)), (1, .inl x1), (2, .inl x2)]) (st' := [.inl (m 87 (gx_w (80 + x1)).toNat)]) (m' := m) [((83, .aload_n 0, 1, 0, 0, 0, 0), (0, 0, 0)), ((84, .getfield 7, 3, 10, 0, 5113, 0), (1, 86, 87)), ((87, .bipush 80, 2, 0, 0, 0, 0), (0, 0, 0)), ((89, .iload_n 1, 1, 0, 0, 0, 0), (0, 0, 0)), ((90, .iadd, 1, 0, 0, 0, 0), (0, 0, 0)), ((91, .iaload, 1, 0, 0, 0, 0), (0, 87, 0))] (by decide +kernel) rfl ?_
        exact hx_reti (by decide +kernel) (h3 c1 c2 c3 c4)
      refine hsw_c (fun c5 => ?_) (fun c5 => ?_)
      · have c5 : x2 = 3 := c5
        refine hx_blk (npc := 102) (L' := [(0, .inr (.inl 86)), (1, .inl x1), (2, .inl x2)]) (st' := [.inl (m 87 (gx_w (120 + x1)).toNat)]) (m' := m) [((93, .aload_n 0, 1, 0, 0, 0, 0), (0, 0, 0)), ((94, .getfield 7, 3, 10, 0, 5113, 0), (1, 86, 87)), ((97, .bipush 120, 2, 0, 0, 0, 0), (0, 0, 0)), ((99, .iload_n 1, 1, 0, 0, 0, 0), (0, 0, 0)), ((100, .iadd, 1, 0, 0, 0, 0), (0, 0, 0)), ((101, .iaload, 1, 0, 0, 0, 0), (0, 87, 0))] (by decide +kernel) rfl ?_
        exact hx_reti (by decide +kernel) (h4 c1 c2 c3 c4 c5)
      refine hsw_c (fun c6 => ?_) (fun c6 => ?_)
      · have c6 : x2 = 4 := c6
        refine hx_blk (npc := 113) (L' := [(0, .inr (.inl 86)), (1, .inl x1), (2, .inl x2)]) (st' := [.inl (m 87 (gx_w (160 + x1)).toNat)]) (m' := m) [((103, .aload_n 0, 1, 0, 0, 0, 0), (0, 0, 0)), ((104, .getfield 7, 3, 10, 0, 5113, 0), (1, 86, 87)), ((107, .sipush 160, 3, 0, 0, 0, 0), (0, 0, 0)), ((110, .iload_n 1, 1, 0, 0, 0, 0), (0, 0, 0)), ((111, .iadd, 1, 0, 0, 0, 0), (0, 0, 0)), ((112, .iaload, 1, 0, 0, 0, 0), (0, 87, 0))] (by decide +kernel) rfl ?_
        exact hx_reti (by decide +kernel) (h5 c1 c2 c3 c4 c5 c6)
      refine hsw_c (fun c7 => ?_) (fun c7 => ?_)
      · have c7 : x2 = 5 := c7
        refine hx_blk (npc := 124) (L' := [(0, .inr (.inl 86)), (1, .inl x1), (2, .inl x2)]) (st' := [.inl (m 87 (gx_w (200 + x1)).toNat)]) (m' := m) [((114, .aload_n 0, 1, 0, 0, 0, 0), (0, 0, 0)), ((115, .getfield 7, 3, 10, 0, 5113, 0), (1, 86, 87)), ((118, .sipush 200, 3, 0, 0, 0, 0), (0, 0, 0)), ((121, .iload_n 1, 1, 0, 0, 0, 0), (0, 0, 0)), ((122, .iadd, 1, 0, 0, 0, 0), (0, 0, 0)), ((123, .iaload, 1, 0, 0, 0, 0), (0, 87, 0))] (by decide +kernel) rfl ?_
        exact hx_reti (by decide +kernel) (h6 c1 c2 c3 c4 c5 c6 c7)
      refine hsw_c (fun c8 => ?_) (fun c8 => ?_)
      · have c8 : x2 = 6 := c8
        refine hx_blk (npc := 135) (L' := [(0, .inr (.inl 86)), (1, .inl x1), (2, .inl x2)]) (st' := [.inl (m 87 (gx_w (240 + x1)).toNat)]) (m' := m) [((125, .aload_n 0, 1, 0, 0, 0, 0), (0, 0, 0)), ((126, .getfield 7, 3, 10, 0, 5113, 0), (1, 86, 87)), ((129, .sipush 240, 3, 0, 0, 0, 0), (0, 0, 0)), ((132, .iload_n 1, 1, 0, 0, 0, 0), (0, 0, 0)), ((133, .iadd, 1, 0, 0, 0, 0), (0, 0, 0)), ((134, .iaload, 1, 0, 0, 0, 0), (0, 87, 0))] (by decide +kernel) rfl ?_
        exact hx_reti (by decide +kernel) (h7 c1 c2 c3 c4 c5 c6 c7 c8)
      refine hsw_c (fun c9 => ?_) (fun c9 => ?_)
      · have c9 : x2 = 7 := c9
        refine hx_blk (npc := 146) (L' := [(0, .inr (.inl 86)), (1, .inl x1), (2, .inl x2)]) (st' := [.inl (m 87 (gx_w (280 + x1)).toNat)]) (m' := m) [((136, .aload_n 0, 1, 0, 0, 0, 0), (0, 0, 0)), ((137, .getfield 7, 3, 10, 0, 5113, 0), (1, 86, 87)), ((140, .sipush 280, 3, 0, 0, 0, 0), (0, 0, 0)), ((143, .iload_n 1, 1, 0, 0, 0, 0), (0, 0, 0)), ((144, .iadd, 1, 0, 0, 0, 0), (0, 0, 0)), ((145, .iaload, 1, 0, 0, 0, 0), (0, 87, 0))] (by decide +kernel) rfl ?_
        exact hx_reti (by decide +kernel) (h8 c1 c2 c3 c4 c5 c6 c7 c8 c9)
      refine hsw_c (fun c10 => ?_) (fun c10 => ?_)
      · have c10 : x2 = 8 := c10
        refine hx_blk (npc := 157) (L' := [(0, .inr (.inl 86)), (1, .inl x1), (2, .inl x2)]) (st' := [.inl (m 87 (gx_w (360 + x1)).toNat)]) (m' := m) [((147, .aload_n 0, 1, 0, 0, 0, 0), (0, 0, 0)), ((148, .getfield 7, 3, 10, 0, 5113, 0), (1, 86, 87)), ((151, .sipush 360, 3, 0, 0, 0, 0), (0, 0, 0)), ((154, .iload_n 1, 1, 0, 0, 0, 0), (0, 0, 0)), ((155, .iadd, 1, 0, 0, 0, 0), (0, 0, 0)), ((156, .iaload, 1, 0, 0, 0, 0), (0, 87, 0))] (by decide +kernel) rfl ?_
        exact hx_reti (by decide +kernel) (h9 c1 c2 c3 c4 c5 c6 c7 c8 c9 c10)
      refine hsw_c (fun c11 => ?_) (fun c11 => ?_)
      · have c11 : x2 = 9 := c11
        refine hx_blk (npc := 168) (L' := [(0, .inr (.inl 86)), (1, .inl x1), (2, .inl x2)]) (st' := [.inl (m 87 (gx_w (400 + x1)).toNat)]) (m' := m) [((158, .aload_n 0, 1, 0, 0, 0, 0), (0, 0, 0)), ((159, .getfield 7, 3, 10, 0, 5113, 0), (1, 86, 87)), ((162, .sipush 400, 3, 0, 0, 0, 0), (0, 0, 0)), ((165, .iload_n 1, 1, 0, 0, 0, 0), (0, 0, 0)), ((166, .iadd, 1, 0, 0, 0, 0), (0, 0, 0)), ((167, .iaload, 1, 0, 0, 0, 0), (0, 87, 0))] (by decide +kernel) rfl ?_
        exact hx_reti (by decide +kernel) (h10 c1 c2 c3 c4 c5 c6 c7 c8 c9 c10 c11)
      refine hsw_n ?_
      refine hx_blk (npc := 185) (L' := [(0, .inr (.inl 86)), (1, .inl x1), (2, .inl x2)]) (st' := [.inl (gx_w (19 + (m 87 (gx_w (400 + x1)).toNat))), .inl 20, .inl x2]) (m' := m) [((169, .iload_n 2, 1, 0, 0, 0, 0), (0, 0, 0)), ((170, .bipush 20, 2, 0, 0, 0, 0), (0, 0, 0)), ((172, .bipush 19, 2, 0, 0, 0, 0), (0, 0, 0)), ((174, .aload_n 0, 1, 0, 0, 0, 0), (0, 0, 0)), ((175, .getfield 7, 3, 10, 0, 5113, 0), (1, 86, 87)), ((178, .sipush 400, 3, 0, 0, 0, 0), (0, 0, 0)), ((181, .iload_n 1, 1, 0, 0, 0, 0), (0, 0, 0)), ((182, .iadd, 1, 0, 0, 0, 0), (0, 0, 0)), ((183, .iaload, 1, 0, 0, 0, 0), (0, 87, 0)), ((184, .iadd, 1, 0, 0, 0, 0), (0, 0, 0))] (by decide +kernel) rfl ?_
      refine hx_call (E := (185, .invokestatic 108, 3, 162, 0, 6023, 0)) (M' := yp_m162) [.inl x2, .inl 20, .inl (gx_w (19 + (m 87 (gx_w (400 + x1)).toNat)))] [] rfl (by decide +kernel) rfl ⟨rfl, rfl⟩ rfl rfl (hs162 (fun c12 => ?_) (fun c12 => ?_))
      · have c12 : 20 ≤ x2 ∧ x2 ≤ (gx_w (19 + (m 87 (gx_w (400 + x1)).toNat))) := c12
        show hxn xs n yp_m217 188 [(0, .inr (.inl 86)), (1, .inl x1), (2, .inl x2)] [.inl 1] m Q
        refine hx_if .eq 212 (by decide +kernel) (fun c13 => ?_) (fun c13 => ?_)
        · have c13 : (1 : Int) = 0 := c13
          exfalso; omega
        · have c13 : (1 : Int) ≠ 0 := c13
          refine hx_blk (npc := 213) (L' := [(0, .inr (.inl 86)), (1, .inl x1), (2, .inl x2)]) (st' := [.inl (m 87 (gx_w ((gx_w ((gx_w (480 + (gx_w (16 * x1)))) + x2)) - 20)).toNat)]) (m' := m) [((191, .aload_n 0, 1, 0, 0, 0, 0), (0, 0, 0)), ((192, .getfield 7, 3, 10, 0, 5113, 0), (1, 86, 87)), ((195, .sipush 480, 3, 0, 0, 0, 0), (0, 0, 0)), ((198, .bipush 16, 2, 0, 0, 0, 0), (0, 0, 0)), ((200, .iload_n 1, 1, 0, 0, 0, 0), (0, 0, 0)), ((201, .imul, 1, 0, 0, 0, 0), (0, 0, 0)), ((202, .iadd, 1, 0, 0, 0, 0), (0, 0, 0)), ((203, .iload_n 2, 1, 0, 0, 0, 0), (0, 0, 0)), ((204, .iadd, 1, 0, 0, 0, 0), (0, 0, 0)), ((205, .bipush 20, 2, 0, 0, 0, 0), (0, 0, 0)), ((207, .isub, 1, 0, 0, 0, 0), (0, 0, 0)), ((208, .iaload, 1, 0, 0, 0, 0), (0, 87, 0)), ((209, .goto 4, 3, 0, 0, 0, 0), (0, 0, 0))] (by decide +kernel) rfl ?_
          exact hx_reti (by decide +kernel) (h11 c1 c2 c3 c4 c5 c6 c7 c8 c9 c10 c11 c12)
      · have c12 : ¬ (20 ≤ x2 ∧ x2 ≤ (gx_w (19 + (m 87 (gx_w (400 + x1)).toNat)))) := c12
        show hxn xs n yp_m217 188 [(0, .inr (.inl 86)), (1, .inl x1), (2, .inl x2)] [.inl 0] m Q
        refine hx_if .eq 212 (by decide +kernel) (fun c13 => ?_) (fun c13 => ?_)
        · have c13 : (0 : Int) = 0 := c13
          refine hx_blk (npc := 213) (L' := [(0, .inr (.inl 86)), (1, .inl x1), (2, .inl x2)]) (st' := [.inl (-1)]) (m' := m) [((212, .iconst (-1), 1, 0, 0, 0, 0), (0, 0, 0))] (by decide +kernel) rfl ?_
          exact hx_reti (by decide +kernel) (h12 c1 c2 c3 c4 c5 c6 c7 c8 c9 c10 c11 c12)
        · have c13 : (0 : Int) ≠ 0 := c13
          exfalso; omega
    · have c2 : (1 : Int) = 0 := by have h : ¬ ((1 : Int) ≠ 0) := c2; omega
      exfalso; omega
  · have c1 : ¬ (aYr (m 87) x1) := c1
    show hxn xs n yp_m217 5 [(0, .inr (.inl 86)), (1, .inl x1), (2, .inl x2)] [.inl 0] m Q
    refine hx_if .ne 10 (by decide +kernel) (fun c2 => ?_) (fun c2 => ?_)
    · have c2 : (0 : Int) ≠ 0 := c2
      exfalso; omega
    · have c2 : (0 : Int) = 0 := by have h : ¬ ((0 : Int) ≠ 0) := c2; omega
      refine hx_blk (npc := 9) (L' := [(0, .inr (.inl 86)), (1, .inl x1), (2, .inl x2)]) (st' := [.inl (-1)]) (m' := m) [((8, .iconst (-1), 1, 0, 0, 0, 0), (0, 0, 0))] (by decide +kernel) rfl ?_
      exact hx_reti (by decide +kernel) (h13 c1)
end
section
/-! yearIs, by both -/
section BQ
variable {s : Nat → Int} {m : gx_M}
theorem cYr_iff {b : Nat} (h : sBk b s m) {x : Int} : cYear b m x ↔ aYr s x := by
  by_cases hx : 0 ≤ x ∧ x < 40
  · obtain ⟨Y, rfl⟩ : ∃ Y : Nat, x = (Y : Int) := ⟨x.toNat, by omega⟩
    rw [cY_iff h (by omega), aYr_iff (by omega)]
  · exact ⟨fun q => absurd ⟨q.1, q.2.1⟩ hx, fun q => absurd ⟨q.1, q.2.1⟩ hx⟩
theorem aYr_nat {x : Int} (h : aYr s x) : ∃ Y : Nat, x = (Y : Int) ∧ Y < 40 ∧ s (440 + Y) = 1 := by
  obtain ⟨h1, h2, h3⟩ := h
  refine ⟨x.toNat, by omega, by omega, ?_⟩
  have e : (440 + x).toNat = 440 + x.toNat := by omega
  rw [e] at h3
  exact h3
theorem cDeed_iff (hs : sOK s) (h : sBk 5 s m) {Y : Nat} (hY : Y < 40) : cDeed 5 m (Y : Int) ↔ s (440 + Y) = 1 ∧ s (160 + Y) = 1 := by
  unfold cDeed
  rw [cY_iff h hY, h.1.2.2.1, hmask_test hY]
  constructor
  · rintro ⟨c1, c⟩
    split at c
    · rename_i q
      rw [decide_eq_true_eq] at q
      exact ⟨c1, q⟩
    · exact absurd rfl c
  · rintro ⟨c1, c⟩
    rw [if_pos (decide_eq_true c)]
    exact ⟨c1, by decide⟩
end BQ
def qYr (s : Nat → Int) (Y : Nat) (w : Int) : Int := if w = 0 then s Y else if w = 1 then s (40 + Y) else if w = 2 then s (80 + Y) else if w = 3 then s (120 + Y) else if w = 4 then s (160 + Y) else if w = 5 then s (200 + Y) else if w = 6 then s (240 + Y) else if w = 7 then s (280 + Y) else if w = 8 then s (360 + Y) else if w = 9 then s (400 + Y) else if 20 ≤ w ∧ w ≤ 19 + s (400 + Y) then s (480 + (16 * Y + (w - 20).toNat)) else -1
def qYear (s : Nat → Int) (x w : Int) : Int := if 0 ≤ x ∧ x < 40 ∧ s (440 + x).toNat = 1 then qYr s x.toNat w else -1
theorem qYear_no {s : Nat → Int} {x w : Int} (h : ¬ aYr s x) : qYear s x w = -1 := if_neg h
theorem qYear_yes {s : Nat → Int} {Y : Nat} {w : Int} (h : aYr s (Y : Int)) : qYear s (Y : Int) w = qYr s Y w := by
  have h' : 0 ≤ (Y : Int) ∧ (Y : Int) < 40 ∧ s (440 + (Y : Int)).toNat = 1 := h
  unfold qYear
  rw [if_pos h', Int.toNat_natCast]
section QY
variable {xs : List Int32} {n : Nat} {m : gx_M} {a1 a2 : Int}
theorem c74 {Q : hQ} {s : Nat → Int} {Y : Nat} {k : Int} (hB : sBk 5 s m) (hY : Y < 40) (ht : s (440 + Y) = 1) (hs : 0 ≤ s (400 + Y) ∧ s (400 + Y) ≤ 16) (h : Q (some (.inl (if 0 ≤ k ∧ k < s (400 + Y) then s (480 + (16 * Y + k.toNat)) else -1))) m) : hxn xs n yp_m74 0 [(0, .inr (.inl 5)), (1, .inl (Y : Int)), (2, .inl k)] [] m Q := by
  have no : ¬ (0 ≤ k ∧ k < s (400 + Y)) → Q (some (.inl (-1))) m := fun c => by
    rw [if_neg c] at h
    exact h
  refine hx_dn (hr74_0 (fun _ c => no (by omega)) (fun _ _ c => no (by omega)) (fun _ c1 c2 c3 => ?_) (fun _ _ _ c => no ?_) (fun c => absurd ((cY_iff hB hY).mpr ht) c))
  · rw [Int.toNat_natCast, sB5_many hB Y hY] at c3
    rw [if_pos ⟨c1, c3⟩] at h
    have e : (gx_w ((gx_w ((Y : Int) * 16)) + k)).toNat = 16 * Y + k.toNat := by
      rw [gx_w_id (x := (Y : Int) * 16) (by omega) (by omega), gx_w_id (by omega) (by omega)]
      omega
    rw [e, sB5_hand hB _ (by omega)]
    exact h
  · rw [Int.toNat_natCast, sB5_many hB Y hY] at c
    omega
theorem q72 (b2 : hB a2) (hR : hWr xs m) : hxn xs n yp_m72 0 [(0, .inr (.inl 0)), (1, .inl a1), (2, .inl a2)] [] m (fun r _ => r = some (.inl (qYear (m 87) a1 a2))) := by
  obtain ⟨hs, hB, -⟩ := hR
  by_cases hy : aYr (m 87) a1
  case neg =>
    rw [qYear_no hy]
    have hn : ¬ cYear 5 m a1 := fun q => hy ((cYr_iff hB).mp q)
    refine hx_dn (hr72_0 ?_ ?_ ?_ ?_ ?_ ?_ ?_ ?_ ?_ ?_ ?_ ?_ ?_ (fun _ => rfl))
    all_goals exact fun q => absurd q hn
  obtain ⟨Y, rfl, hY, ht⟩ := aYr_nat hy
  rw [qYear_yes hy]
  have hm := hs.many Y hY
  have b2' : -2147483648 ≤ a2 ∧ a2 ≤ 2147483647 := b2
  refine hx_dn (hr72_0 (fun _ c => ?_) (fun _ _ c => ?_) (fun _ _ _ c => ?_) (fun _ _ _ _ c => ?_) (fun _ _ _ _ _ c d => ?_) (fun _ _ _ _ _ c d => ?_) (fun _ _ _ _ _ _ c => ?_) (fun _ _ _ _ _ _ _ c => ?_) (fun _ _ _ _ _ _ _ _ c => ?_) (fun _ _ _ _ _ _ _ _ _ c => ?_) (fun _ _ _ _ _ _ _ _ _ _ c => ?_) (fun _ d0 d1 d2 d3 d4 d5 d6 d7 d8 d9 c => ?_) (fun _ d0 d1 d2 d3 d4 d5 d6 d7 d8 d9 c => ?_) (fun c => absurd ((cY_iff hB hY).mpr ht) c))
  · rw [Int.toNat_natCast, sB5_date hB Y hY, c]
    rfl
  · rw [Int.toNat_natCast, sB5_livr hB Y hY, c]
    rfl
  · rw [Int.toNat_natCast, sB5_skl hB Y hY, c]
    rfl
  · rw [Int.toNat_natCast, sB5_met hB Y hY, c]
    rfl
  · rw [c]
    show (some (.inl 1) : Option hV) = some (.inl (m 87 (160 + Y)))
    rw [((cDeed_iff hs hB hY).mp d).2]
  · rw [c]
    show (some (.inl 0) : Option hV) = some (.inl (m 87 (160 + Y)))
    have := hs.deed Y hY
    have h0 : m 87 (160 + Y) = 0 := by
      rcases this with e | e
      · exact e
      · exact absurd ((cDeed_iff hs hB hY).mpr ⟨ht, e⟩) d
    rw [h0]
  · rw [Int.toNat_natCast, sB5_mark hB Y hY, c]
    rfl
  · rw [Int.toNat_natCast, sB5_own hB Y hY, c]
    rfl
  · rw [Int.toNat_natCast, sB5_hold hB Y hY ht, c]
    rfl
  · rw [Int.toNat_natCast, sB5_due hB Y hY, c]
    rfl
  · rw [Int.toNat_natCast, sB5_many hB Y hY, c]
    rfl
  · rw [gx_w_id (by omega) (by omega)]
    refine c74 hB hY ht hm (hx_dn (hr72_197 ?_))
    unfold qYr
    rw [if_neg d0, if_neg d1, if_neg d2, if_neg d3, if_neg d4, if_neg d5, if_neg d6, if_neg d7, if_neg d8, if_neg d9]
    by_cases e : 20 ≤ a2 ∧ a2 ≤ 19 + m 87 (400 + Y)
    · rw [if_pos e, if_pos (by omega)]
    · rw [if_neg e, if_neg (by omega)]
  · refine c74 hB hY ht hm (hx_dn (hr72_197 ?_))
    unfold qYr
    rw [if_neg d0, if_neg d1, if_neg d2, if_neg d3, if_neg d4, if_neg d5, if_neg d6, if_neg d7, if_neg d8, if_neg d9, if_neg (by omega), if_neg (by omega)]
theorem q217 (b2 : hB a2) (hR : hWr xs m) : hxn xs n yp_m217 0 [(0, .inr (.inl 86)), (1, .inl a1), (2, .inl a2)] [] m (fun r _ => r = some (.inl (qYear (m 87) a1 a2))) := by
  obtain ⟨hs, -⟩ := hR
  by_cases hy : aYr (m 87) a1
  case neg =>
    rw [qYear_no hy]
    refine hx_dn (hr217_0 ?_ ?_ ?_ ?_ ?_ ?_ ?_ ?_ ?_ ?_ ?_ ?_ (fun _ => rfl))
    all_goals exact fun q => absurd q hy
  have hy' := hy
  obtain ⟨Y, rfl, hY, ht⟩ := aYr_nat hy
  rw [qYear_yes hy']
  have hm := hs.many Y hY
  have b2' : -2147483648 ≤ a2 ∧ a2 ≤ 2147483647 := b2
  have e0 : (gx_w (0 + (Y : Int))).toNat = Y := by
    rw [gx_w_id (by omega) (by omega)]
    omega
  have e40 : (gx_w (40 + (Y : Int))).toNat = 40 + Y := wz (by decide) (by omega)
  have e80 : (gx_w (80 + (Y : Int))).toNat = 80 + Y := wz (by decide) (by omega)
  have e120 : (gx_w (120 + (Y : Int))).toNat = 120 + Y := wz (by decide) (by omega)
  have e160 : (gx_w (160 + (Y : Int))).toNat = 160 + Y := wz (by decide) (by omega)
  have e200 : (gx_w (200 + (Y : Int))).toNat = 200 + Y := wz (by decide) (by omega)
  refine hx_dn (hr217_0 (fun _ c => ?_) (fun _ _ c => ?_) (fun _ _ _ c => ?_) (fun _ _ _ _ c => ?_) (fun _ _ _ _ _ c => ?_) (fun _ _ _ _ _ _ c => ?_) (fun _ _ _ _ _ _ _ c => ?_) (fun _ _ _ _ _ _ _ _ c => ?_) (fun _ _ _ _ _ _ _ _ _ c => ?_) (fun _ _ _ _ _ _ _ _ _ _ c => ?_) (fun _ d0 d1 d2 d3 d4 d5 d6 d7 d8 d9 c => ?_) (fun _ d0 d1 d2 d3 d4 d5 d6 d7 d8 d9 c => ?_) (fun c => absurd hy' c))
  · rw [e0, c]
    rfl
  · rw [e40, c]
    rfl
  · rw [e80, c]
    rfl
  · rw [e120, c]
    rfl
  · rw [e160, c]
    rfl
  · rw [e200, c]
    rfl
  · rw [w240 hY, c]
    rfl
  · rw [w280 hY, c]
    rfl
  · rw [w360 hY, c]
    rfl
  · rw [w400 hY, c]
    rfl
  · rw [w400 hY, gx_w_id (by omega) (by omega)] at c
    unfold qYr
    rw [if_neg d0, if_neg d1, if_neg d2, if_neg d3, if_neg d4, if_neg d5, if_neg d6, if_neg d7, if_neg d8, if_neg d9, if_pos c]
    have e : (gx_w ((gx_w ((gx_w (480 + (gx_w (16 * (Y : Int))))) + a2)) - 20)).toNat = 480 + (16 * Y + (a2 - 20).toNat) := by
      rw [gx_w_id (x := 16 * (Y : Int)) (by omega) (by omega), gx_w_id (x := 480 + 16 * (Y : Int)) (by omega) (by omega), gx_w_id (x := 480 + 16 * (Y : Int) + a2) (by omega) (by omega), gx_w_id (by omega) (by omega)]
      omega
    rw [e]
  · rw [w400 hY, gx_w_id (by omega) (by omega)] at c
    unfold qYr
    rw [if_neg d0, if_neg d1, if_neg d2, if_neg d3, if_neg d4, if_neg d5, if_neg d6, if_neg d7, if_neg d8, if_neg d9, if_neg c]
end QY
end
section
/-! personIs, years: roads -/
/-- handsOf from 0 on -/
theorem hr77_0 {xs : List Int32} {n : Nat} {Q : hQ} {m : gx_M} {x1 : Int}
    (h1 : (cYear 5 m x1) → hxn xs n yp_m77 14 [(0, .inr (.inl 5)), (1, .inl x1), (2, .inl 0), (3, .inl 0)] [] m Q)
    (h2 : (¬ (cYear 5 m x1)) → Q (some (.inl 0)) m) : hxn xs (n + 1) yp_m77 0 [(0, .inr (.inl 5)), (1, .inl x1)] [] m Q := by
  refine hx_blks (npc := 4) (L' := [(0, .inr (.inl 5)), (1, .inl x1), (2, .inl 0)]) (st' := [.inl x1, .inr (.inl 5)]) (m' := m) ((0, .iconst 0, 1, 0, 0, 0, 0), (0, 0, 0)) [((1, .istore_n 2, 1, 0, 0, 0, 0), (0, 0, 0)), ((2, .aload_n 0, 1, 0, 0, 0, 0), (0, 0, 0)), ((3, .iload_n 1, 1, 0, 0, 0, 0), (0, 0, 0))] (by decide +kernel) rfl ?_
  refine hx_call (E := (4, .invokevirtual 71, 3, 17, 0, 2188, 0)) (M' := yp_m17) [.inr (.inl 5), .inl x1] [] rfl (by decide +kernel) rfl ⟨rfl, rfl⟩ rfl rfl (hs17_5 (fun c1 => ?_) (fun c1 => ?_))
  · have c1 : cYear 5 m x1 := c1
    show hxn xs n yp_m77 7 [(0, .inr (.inl 5)), (1, .inl x1), (2, .inl 0)] [.inl 1] m Q
    refine hx_if .ne 12 (by decide +kernel) (fun c2 => ?_) (fun c2 => ?_)
    · have c2 : (1 : Int) ≠ 0 := c2
      refine hx_blk (npc := 14) (L' := [(0, .inr (.inl 5)), (1, .inl x1), (2, .inl 0), (3, .inl 0)]) (st' := []) (m' := m) [((12, .iconst 0, 1, 0, 0, 0, 0), (0, 0, 0)), ((13, .istore_n 3, 1, 0, 0, 0, 0), (0, 0, 0))] (by decide +kernel) rfl ?_
      exact hx_pick [0, 1, 2, 3] (h1 c1)
    · have c2 : (1 : Int) = 0 := by have h : ¬ ((1 : Int) ≠ 0) := c2; omega
      exfalso; omega
  · have c1 : ¬ (cYear 5 m x1) := c1
    show hxn xs n yp_m77 7 [(0, .inr (.inl 5)), (1, .inl x1), (2, .inl 0)] [.inl 0] m Q
    refine hx_if .ne 12 (by decide +kernel) (fun c2 => ?_) (fun c2 => ?_)
    · have c2 : (0 : Int) ≠ 0 := c2
      exfalso; omega
    · have c2 : (0 : Int) = 0 := by have h : ¬ ((0 : Int) ≠ 0) := c2; omega
      refine hx_blk (npc := 11) (L' := [(0, .inr (.inl 5)), (1, .inl x1), (2, .inl 0)]) (st' := [.inl 0]) (m' := m) [((10, .iload_n 2, 1, 0, 0, 0, 0), (0, 0, 0))] (by decide +kernel) rfl ?_
      exact hx_reti (by decide +kernel) (h2 c1)

/-- handsOf from 14 on -/
theorem hr77_14 {xs : List Int32} {n : Nat} {Q : hQ} {m : gx_M} {x1 x2 x3 : Int}
    (h1 : (16 ≤ x3) → Q (some (.inl x2)) m)
    (h2 : (x3 < 16) → ((m 16 (x1).toNat) ≤ x3) → Q (some (.inl x2)) m)
    (h3 : (x3 < 16) → (x3 < (m 16 (x1).toNat)) → hxn xs n yp_m77 14 [(0, .inr (.inl 5)), (1, .inl x1), (2, .inl (gx_or x2 (gx_shl 1 (m 17 (gx_w ((gx_w (x1 * 16)) + x3)).toNat)))), (3, .inl (gx_w (x3 + 1)))] [] m Q) : hxn xs (n + 1) yp_m77 14 [(0, .inr (.inl 5)), (1, .inl x1), (2, .inl x2), (3, .inl x3)] [] m Q := by
  refine hx_blks (npc := 17) (L' := [(0, .inr (.inl 5)), (1, .inl x1), (2, .inl x2), (3, .inl x3)]) (st' := [.inl 16, .inl x3]) (m' := m) ((14, .iload_n 3, 1, 0, 0, 0, 0), (0, 0, 0)) [((15, .bipush 16, 2, 0, 0, 0, 0), (0, 0, 0))] (by decide +kernel) rfl ?_
  refine hx_cmp .ge 52 (by decide +kernel) (fun c1 => ?_) (fun c1 => ?_)
  · have c1 : 16 ≤ x3 := c1
    refine hx_blk (npc := 53) (L' := [(0, .inr (.inl 5)), (1, .inl x1), (2, .inl x2), (3, .inl x3)]) (st' := [.inl x2]) (m' := m) [((52, .iload_n 2, 1, 0, 0, 0, 0), (0, 0, 0))] (by decide +kernel) rfl ?_
    exact hx_reti (by decide +kernel) (h1 c1)
  · have c1 : x3 < 16 := by have h : ¬ (16 ≤ x3) := c1; omega
    refine hx_blk (npc := 27) (L' := [(0, .inr (.inl 5)), (1, .inl x1), (2, .inl x2), (3, .inl x3)]) (st' := [.inl (m 16 (x1).toNat), .inl x3]) (m' := m) [((20, .iload_n 3, 1, 0, 0, 0, 0), (0, 0, 0)), ((21, .aload_n 0, 1, 0, 0, 0, 0), (0, 0, 0)), ((22, .getfield 46, 3, 2, 15, 1131, 0), (1, 5, 16)), ((25, .iload_n 1, 1, 0, 0, 0, 0), (0, 0, 0)), ((26, .iaload, 1, 0, 0, 0, 0), (0, 16, 0))] (by decide +kernel) rfl ?_
    refine hx_cmp .ge 52 (by decide +kernel) (fun c2 => ?_) (fun c2 => ?_)
    · have c2 : (m 16 (x1).toNat) ≤ x3 := c2
      refine hx_blk (npc := 53) (L' := [(0, .inr (.inl 5)), (1, .inl x1), (2, .inl x2), (3, .inl x3)]) (st' := [.inl x2]) (m' := m) [((52, .iload_n 2, 1, 0, 0, 0, 0), (0, 0, 0))] (by decide +kernel) rfl ?_
      exact hx_reti (by decide +kernel) (h2 c1 c2)
    · have c2 : x3 < (m 16 (x1).toNat) := by have h : ¬ ((m 16 (x1).toNat) ≤ x3) := c2; omega
      refine hx_blk (npc := 14) (L' := [(0, .inr (.inl 5)), (1, .inl x1), (2, .inl (gx_or x2 (gx_shl 1 (m 17 (gx_w ((gx_w (x1 * 16)) + x3)).toNat)))), (3, .inl (gx_w (x3 + 1)))]) (st' := []) (m' := m) [((30, .iload_n 2, 1, 0, 0, 0, 0), (0, 0, 0)), ((31, .iconst 1, 1, 0, 0, 0, 0), (0, 0, 0)), ((32, .aload_n 0, 1, 0, 0, 0, 0), (0, 0, 0)), ((33, .getfield 49, 3, 2, 16, 1136, 0), (1, 5, 17)), ((36, .iload_n 1, 1, 0, 0, 0, 0), (0, 0, 0)), ((37, .bipush 16, 2, 0, 0, 0, 0), (0, 0, 0)), ((39, .imul, 1, 0, 0, 0, 0), (0, 0, 0)), ((40, .iload_n 3, 1, 0, 0, 0, 0), (0, 0, 0)), ((41, .iadd, 1, 0, 0, 0, 0), (0, 0, 0)), ((42, .iaload, 1, 0, 0, 0, 0), (0, 17, 0)), ((43, .ishl, 1, 0, 0, 0, 0), (0, 0, 0)), ((44, .ior, 1, 0, 0, 0, 0), (0, 0, 0)), ((45, .istore_n 2, 1, 0, 0, 0, 0), (0, 0, 0)), ((46, .iinc 3 1, 3, 0, 0, 0, 0), (0, 0, 0)), ((49, .goto (-35), 3, 0, 0, 0, 0), (0, 0, 0))] (by decide +kernel) rfl ?_
      exact hx_pick [0, 1, 2, 3] (h3 c1 c2)

/-- had from 0 on -/
theorem hr76_0 {xs : List Int32} {n : Nat} {Q : hQ} {m : gx_M} {x1 : Int}
    (h1 : hxn xs n yp_m76 5 [(0, .inr (.inl 5)), (1, .inl x1), (2, .inr (.inr 0)), (4, .inl 0)] [] m Q) : hxn xs (n + 1) yp_m76 0 [(0, .inr (.inl 5)), (1, .inl x1)] [] m Q := by
  refine hx_blks (npc := 5) (L' := [(0, .inr (.inl 5)), (1, .inl x1), (2, .inr (.inr 0)), (4, .inl 0)]) (st' := []) (m' := m) ((0, .lconst 0, 1, 0, 0, 0, 0), (0, 0, 0)) [((1, .lstore_n 2, 1, 0, 0, 0, 0), (0, 0, 0)), ((2, .iconst 0, 1, 0, 0, 0, 0), (0, 0, 0)), ((3, .istore 4, 2, 0, 0, 0, 0), (0, 0, 0))] (by decide +kernel) rfl ?_
  exact hx_pick [0, 1, 2, 4] h1

/-- had from 5 on -/
theorem hr76_5 {xs : List Int32} {n : Nat} {Q : hQ} {m : gx_M} {x1 x2 x4 : Int}
    (h1 : (40 ≤ x4) → Q (some (.inr (.inr x2))) m)
    (h2 : (x4 < 40) → hxn xs n yp_m77 0 [(0, .inr (.inl 5)), (1, .inl x4)] [] m (fun r m' => hxn xs n yp_m76 18 [(0, .inr (.inl 5)), (1, .inl x1), (2, .inr (.inr x2)), (4, .inl x4)] (hrs r ++ []) m' Q)) : hxn xs (n + 1) yp_m76 5 [(0, .inr (.inl 5)), (1, .inl x1), (2, .inr (.inr x2)), (4, .inl x4)] [] m Q := by
  refine hx_blks (npc := 9) (L' := [(0, .inr (.inl 5)), (1, .inl x1), (2, .inr (.inr x2)), (4, .inl x4)]) (st' := [.inl 40, .inl x4]) (m' := m) ((5, .iload 4, 2, 0, 0, 0, 0), (0, 0, 0)) [((7, .bipush 40, 2, 0, 0, 0, 0), (0, 0, 0))] (by decide +kernel) rfl ?_
  refine hx_cmp .ge 38 (by decide +kernel) (fun c1 => ?_) (fun c1 => ?_)
  · have c1 : 40 ≤ x4 := c1
    refine hx_blk (npc := 39) (L' := [(0, .inr (.inl 5)), (1, .inl x1), (2, .inr (.inr x2)), (4, .inl x4)]) (st' := [.inr (.inr x2)]) (m' := m) [((38, .lload_n 2, 1, 0, 0, 0, 0), (0, 0, 0))] (by decide +kernel) rfl ?_
    exact hx_retl (by decide +kernel) (h1 c1)
  · have c1 : x4 < 40 := by have h : ¬ (40 ≤ x4) := c1; omega
    refine hx_blk (npc := 15) (L' := [(0, .inr (.inl 5)), (1, .inl x1), (2, .inr (.inr x2)), (4, .inl x4)]) (st' := [.inl x4, .inr (.inl 5)]) (m' := m) [((12, .aload_n 0, 1, 0, 0, 0, 0), (0, 0, 0)), ((13, .iload 4, 2, 0, 0, 0, 0), (0, 0, 0))] (by decide +kernel) rfl ?_
    exact hx_call (E := (15, .invokevirtual 109, 3, 77, 0, 3222, 0)) (M' := yp_m77) [.inr (.inl 5), .inl x4] [] rfl (by decide +kernel) rfl ⟨rfl, rfl⟩ rfl rfl (hx_mono (h2 c1) (fun r m' h' => hx_pick [0, 1, 2, 4] h'))

/-- had from 18 on -/
theorem hr76_18 {xs : List Int32} {n : Nat} {Q : hQ} {m : gx_M} {x1 x2 x4 s0 : Int}
    (h1 : ((gx_and (gx_shr s0 x1) 1) = 0) → hxn xs n yp_m76 5 [(0, .inr (.inl 5)), (1, .inl x1), (2, .inr (.inr x2)), (4, .inl (gx_w (x4 + 1)))] [] m Q)
    (h2 : ((gx_and (gx_shr s0 x1) 1) ≠ 0) → hxn xs n yp_m76 5 [(0, .inr (.inl 5)), (1, .inl x1), (2, .inr (.inr (hlor x2 (hlshl 1 x4)))), (4, .inl (gx_w (x4 + 1)))] [] m Q) : hxn xs (n + 1) yp_m76 18 [(0, .inr (.inl 5)), (1, .inl x1), (2, .inr (.inr x2)), (4, .inl x4)] [.inl s0] m Q := by
  have f1 := gx_and_bd (gx_shr s0 x1) 1 (by decide)
  refine hx_blks (npc := 22) (L' := [(0, .inr (.inl 5)), (1, .inl x1), (2, .inr (.inr x2)), (4, .inl x4)]) (st' := [.inl (gx_and (gx_shr s0 x1) 1)]) (m' := m) ((18, .iload_n 1, 1, 0, 0, 0, 0), (0, 0, 0)) [((19, .ishr, 1, 0, 0, 0, 0), (0, 0, 0)), ((20, .iconst 1, 1, 0, 0, 0, 0), (0, 0, 0)), ((21, .iand, 1, 0, 0, 0, 0), (0, 0, 0))] (by decide +kernel) rfl ?_
  refine hx_if .eq 32 (by decide +kernel) (fun c1 => ?_) (fun c1 => ?_)
  · have c1 : (gx_and (gx_shr s0 x1) 1) = 0 := c1
    refine hx_blk (npc := 5) (L' := [(0, .inr (.inl 5)), (1, .inl x1), (2, .inr (.inr x2)), (4, .inl (gx_w (x4 + 1)))]) (st' := []) (m' := m) [((32, .iinc 4 1, 3, 0, 0, 0, 0), (0, 0, 0)), ((35, .goto (-30), 3, 0, 0, 0, 0), (0, 0, 0))] (by decide +kernel) rfl ?_
    exact hx_pick [0, 1, 2, 4] (h1 c1)
  · have c1 : (gx_and (gx_shr s0 x1) 1) ≠ 0 := c1
    refine hx_blk (npc := 5) (L' := [(0, .inr (.inl 5)), (1, .inl x1), (2, .inr (.inr (hlor x2 (hlshl 1 x4)))), (4, .inl (gx_w (x4 + 1)))]) (st' := []) (m' := m) [((25, .lload_n 2, 1, 0, 0, 0, 0), (0, 0, 0)), ((26, .lconst 1, 1, 0, 0, 0, 0), (0, 0, 0)), ((27, .iload 4, 2, 0, 0, 0, 0), (0, 0, 0)), ((29, .lshl, 1, 0, 0, 0, 0), (0, 0, 0)), ((30, .lor, 1, 0, 0, 0, 0), (0, 0, 0)), ((31, .lstore_n 2, 1, 0, 0, 0, 0), (0, 0, 0)), ((32, .iinc 4 1, 3, 0, 0, 0, 0), (0, 0, 0)), ((35, .goto (-30), 3, 0, 0, 0, 0), (0, 0, 0))] (by decide +kernel) rfl ?_
    exact hx_pick [0, 1, 2, 4] (h2 c1)

/-- held from 0 on -/
theorem hr78_0 {xs : List Int32} {n : Nat} {Q : hQ} {m : gx_M} {x1 : Int}
    (h1 : hxn xs n yp_m78 5 [(0, .inr (.inl 5)), (1, .inl x1), (2, .inr (.inr 0)), (4, .inl 0)] [] m Q) : hxn xs (n + 1) yp_m78 0 [(0, .inr (.inl 5)), (1, .inl x1)] [] m Q := by
  refine hx_blks (npc := 5) (L' := [(0, .inr (.inl 5)), (1, .inl x1), (2, .inr (.inr 0)), (4, .inl 0)]) (st' := []) (m' := m) ((0, .lconst 0, 1, 0, 0, 0, 0), (0, 0, 0)) [((1, .lstore_n 2, 1, 0, 0, 0, 0), (0, 0, 0)), ((2, .iconst 0, 1, 0, 0, 0, 0), (0, 0, 0)), ((3, .istore 4, 2, 0, 0, 0, 0), (0, 0, 0))] (by decide +kernel) rfl ?_
  exact hx_pick [0, 1, 2, 4] h1

/-- held from 5 on -/
theorem hr78_5 {xs : List Int32} {n : Nat} {Q : hQ} {m : gx_M} {x1 x2 x4 : Int}
    (h1 : (40 ≤ x4) → Q (some (.inr (.inr x2))) m)
    (h2 : (x4 < 40) → (cPwd 5 13 m x4) → ((m 13 (x4).toNat) ≠ x1) → hxn xs n yp_m78 5 [(0, .inr (.inl 5)), (1, .inl x1), (2, .inr (.inr x2)), (4, .inl (gx_w (x4 + 1)))] [] m Q)
    (h3 : (x4 < 40) → (cPwd 5 13 m x4) → ((m 13 (x4).toNat) = x1) → hxn xs n yp_m78 5 [(0, .inr (.inl 5)), (1, .inl x1), (2, .inr (.inr (hlor x2 (hlshl 1 x4)))), (4, .inl (gx_w (x4 + 1)))] [] m Q)
    (h4 : (x4 < 40) → (¬ (cPwd 5 13 m x4)) → hxn xs n yp_m78 5 [(0, .inr (.inl 5)), (1, .inl x1), (2, .inr (.inr x2)), (4, .inl (gx_w (x4 + 1)))] [] m Q) : hxn xs (n + 1) yp_m78 5 [(0, .inr (.inl 5)), (1, .inl x1), (2, .inr (.inr x2)), (4, .inl x4)] [] m Q := by
  refine hx_blks (npc := 9) (L' := [(0, .inr (.inl 5)), (1, .inl x1), (2, .inr (.inr x2)), (4, .inl x4)]) (st' := [.inl 40, .inl x4]) (m' := m) ((5, .iload 4, 2, 0, 0, 0, 0), (0, 0, 0)) [((7, .bipush 40, 2, 0, 0, 0, 0), (0, 0, 0))] (by decide +kernel) rfl ?_
  refine hx_cmp .ge 45 (by decide +kernel) (fun c1 => ?_) (fun c1 => ?_)
  · have c1 : 40 ≤ x4 := c1
    refine hx_blk (npc := 46) (L' := [(0, .inr (.inl 5)), (1, .inl x1), (2, .inr (.inr x2)), (4, .inl x4)]) (st' := [.inr (.inr x2)]) (m' := m) [((45, .lload_n 2, 1, 0, 0, 0, 0), (0, 0, 0))] (by decide +kernel) rfl ?_
    exact hx_retl (by decide +kernel) (h1 c1)
  · have c1 : x4 < 40 := by have h : ¬ (40 ≤ x4) := c1; omega
    refine hx_blk (npc := 15) (L' := [(0, .inr (.inl 5)), (1, .inl x1), (2, .inr (.inr x2)), (4, .inl x4)]) (st' := [.inl x4, .inr (.inl 5)]) (m' := m) [((12, .aload_n 0, 1, 0, 0, 0, 0), (0, 0, 0)), ((13, .iload 4, 2, 0, 0, 0, 0), (0, 0, 0))] (by decide +kernel) rfl ?_
    refine hx_call (E := (15, .invokevirtual 106, 3, 79, 0, 3230, 0)) (M' := yp_m79) [.inr (.inl 5), .inl x4] [] rfl (by decide +kernel) rfl ⟨rfl, rfl⟩ rfl rfl (hs79_5 (fun c2 => ?_) (fun c2 => ?_))
    · have c2 : cPwd 5 13 m x4 := c2
      show hxn xs n yp_m78 18 [(0, .inr (.inl 5)), (1, .inl x1), (2, .inr (.inr x2)), (4, .inl x4)] [.inl 1] m Q
      refine hx_if .eq 39 (by decide +kernel) (fun c3 => ?_) (fun c3 => ?_)
      · have c3 : (1 : Int) = 0 := c3
        exfalso; omega
      · have c3 : (1 : Int) ≠ 0 := c3
        refine hx_blk (npc := 29) (L' := [(0, .inr (.inl 5)), (1, .inl x1), (2, .inr (.inr x2)), (4, .inl x4)]) (st' := [.inl x1, .inl (m 13 (x4).toNat)]) (m' := m) [((21, .aload_n 0, 1, 0, 0, 0, 0), (0, 0, 0)), ((22, .getfield 37, 3, 2, 12, 1119, 0), (1, 5, 13)), ((25, .iload 4, 2, 0, 0, 0, 0), (0, 0, 0)), ((27, .iaload, 1, 0, 0, 0, 0), (0, 13, 0)), ((28, .iload_n 1, 1, 0, 0, 0, 0), (0, 0, 0))] (by decide +kernel) rfl ?_
        refine hx_cmp .ne 39 (by decide +kernel) (fun c3 => ?_) (fun c3 => ?_)
        · have c3 : (m 13 (x4).toNat) ≠ x1 := c3
          refine hx_blk (npc := 5) (L' := [(0, .inr (.inl 5)), (1, .inl x1), (2, .inr (.inr x2)), (4, .inl (gx_w (x4 + 1)))]) (st' := []) (m' := m) [((39, .iinc 4 1, 3, 0, 0, 0, 0), (0, 0, 0)), ((42, .goto (-37), 3, 0, 0, 0, 0), (0, 0, 0))] (by decide +kernel) rfl ?_
          exact hx_pick [0, 1, 2, 4] (h2 c1 c2 c3)
        · have c3 : (m 13 (x4).toNat) = x1 := by have h : ¬ ((m 13 (x4).toNat) ≠ x1) := c3; omega
          refine hx_blk (npc := 5) (L' := [(0, .inr (.inl 5)), (1, .inl x1), (2, .inr (.inr (hlor x2 (hlshl 1 x4)))), (4, .inl (gx_w (x4 + 1)))]) (st' := []) (m' := m) [((32, .lload_n 2, 1, 0, 0, 0, 0), (0, 0, 0)), ((33, .lconst 1, 1, 0, 0, 0, 0), (0, 0, 0)), ((34, .iload 4, 2, 0, 0, 0, 0), (0, 0, 0)), ((36, .lshl, 1, 0, 0, 0, 0), (0, 0, 0)), ((37, .lor, 1, 0, 0, 0, 0), (0, 0, 0)), ((38, .lstore_n 2, 1, 0, 0, 0, 0), (0, 0, 0)), ((39, .iinc 4 1, 3, 0, 0, 0, 0), (0, 0, 0)), ((42, .goto (-37), 3, 0, 0, 0, 0), (0, 0, 0))] (by decide +kernel) rfl ?_
          exact hx_pick [0, 1, 2, 4] (h3 c1 c2 c3)
    · have c2 : ¬ (cPwd 5 13 m x4) := c2
      show hxn xs n yp_m78 18 [(0, .inr (.inl 5)), (1, .inl x1), (2, .inr (.inr x2)), (4, .inl x4)] [.inl 0] m Q
      refine hx_if .eq 39 (by decide +kernel) (fun c3 => ?_) (fun c3 => ?_)
      · have c3 : (0 : Int) = 0 := c3
        refine hx_blk (npc := 5) (L' := [(0, .inr (.inl 5)), (1, .inl x1), (2, .inr (.inr x2)), (4, .inl (gx_w (x4 + 1)))]) (st' := []) (m' := m) [((39, .iinc 4 1, 3, 0, 0, 0, 0), (0, 0, 0)), ((42, .goto (-37), 3, 0, 0, 0, 0), (0, 0, 0))] (by decide +kernel) rfl ?_
        exact hx_pick [0, 1, 2, 4] (h4 c1 c2)
      · have c3 : (0 : Int) ≠ 0 := c3
        exfalso; omega

/-- personIs from 0 on -/
theorem hr75_0 {xs : List Int32} {n : Nat} {Q : hQ} {m : gx_M} {x1 x2 : Int}
    (h1 : (cPers 5 m x1) → (x2 = 0) → Q (some (.inl (m 6 (x1).toNat))) m)
    (h2 : (cPers 5 m x1) → (x2 ≠ 0) → (x2 = 1) → hxn xs n yp_m60 0 [(0, .inr (.inl 5)), (1, .inl x1)] [] m (fun r m' => hxn xs n yp_m75 66 [] (hrs r ++ []) m' Q))
    (h3 : (cPers 5 m x1) → (x2 ≠ 0) → (x2 ≠ 1) → (x2 = 2) → hxn xs n yp_m60 0 [(0, .inr (.inl 5)), (1, .inl x1)] [] m (fun r m' => hxn xs n yp_m75 82 [] (hrs r ++ [.inr (.inl 5)]) m' Q))
    (h4 : (cPers 5 m x1) → (x2 ≠ 0) → (x2 ≠ 1) → (x2 ≠ 2) → (x2 = 3) → hxn xs n yp_m76 0 [(0, .inr (.inl 5)), (1, .inl x1)] [] m (fun r m' => hxn xs n yp_m75 94 [] (hrs r ++ []) m' Q))
    (h5 : (cPers 5 m x1) → (x2 ≠ 0) → (x2 ≠ 1) → (x2 ≠ 2) → (x2 ≠ 3) → (x2 = 4) → hxn xs n yp_m78 0 [(0, .inr (.inl 5)), (1, .inl x1)] [] m (fun r m' => hxn xs n yp_m75 106 [] (hrs r ++ []) m' Q))
    (h6 : (cPers 5 m x1) → (x2 ≠ 0) → (x2 ≠ 1) → (x2 ≠ 2) → (x2 ≠ 3) → (x2 ≠ 4) → Q (some (.inl (-1))) m)
    (h7 : (¬ (cPers 5 m x1)) → Q (some (.inl (-1))) m) : hxn xs (n + 1) yp_m75 0 [(0, .inr (.inl 0)), (1, .inl x1), (2, .inl x2)] [] m Q := by
  refine hx_blks (npc := 5) (L' := [(0, .inr (.inl 0)), (1, .inl x1), (2, .inl x2)]) (st' := [.inl x1, .inr (.inl 5)]) (m' := m) ((0, .aload_n 0, 1, 0, 0, 0, 0), (0, 0, 0)) [((1, .getfield 26, 3, 9, 2, 2121, 0), (1, 0, 5)), ((4, .iload_n 1, 1, 0, 0, 0, 0), (0, 0, 0))] (by decide +kernel) rfl ?_
  refine hx_call (E := (5, .invokevirtual 94, 3, 13, 0, 2171, 0)) (M' := yp_m13) [.inr (.inl 5), .inl x1] [] rfl (by decide +kernel) rfl ⟨rfl, rfl⟩ rfl rfl (hs13_5 (fun c1 => ?_) (fun c1 => ?_))
  · have c1 : cPers 5 m x1 := c1
    show hxn xs n yp_m75 8 [(0, .inr (.inl 0)), (1, .inl x1), (2, .inl x2)] [.inl 1] m Q
    refine hx_if .ne 13 (by decide +kernel) (fun c2 => ?_) (fun c2 => ?_)
    · have c2 : (1 : Int) ≠ 0 := c2
      refine hx_blk (npc := 14) (L' := [(0, .inr (.inl 0)), (1, .inl x1), (2, .inl x2)]) (st' := [.inl x2]) (m' := m) [((13, .iload_n 2, 1, 0, 0, 0, 0), (0, 0, 0))] (by decide +kernel) rfl ?_
      refine hx_tsw 110 [(0, 48), (1, 58), (2, 70), (3, 86), (4, 98)] (by decide +kernel) ?_
      refine hsw_c (fun c2 => ?_) (fun c2 => ?_)
      · have c2 : x2 = 0 := c2
        refine hx_blk (npc := 57) (L' := [(0, .inr (.inl 0)), (1, .inl x1), (2, .inl x2)]) (st' := [.inl (m 6 (x1).toNat)]) (m' := m) [((48, .aload_n 0, 1, 0, 0, 0, 0), (0, 0, 0)), ((49, .getfield 26, 3, 9, 2, 2121, 0), (1, 0, 5)), ((52, .getfield 90, 3, 2, 5, 1090, 0), (1, 5, 6)), ((55, .iload_n 1, 1, 0, 0, 0, 0), (0, 0, 0)), ((56, .iaload, 1, 0, 0, 0, 0), (0, 6, 0))] (by decide +kernel) rfl ?_
        exact hx_reti (by decide +kernel) (h1 c1 c2)
      refine hsw_c (fun c3 => ?_) (fun c3 => ?_)
      · have c3 : x2 = 1 := c3
        refine hx_blk (npc := 63) (L' := [(0, .inr (.inl 0)), (1, .inl x1), (2, .inl x2)]) (st' := [.inl x1, .inr (.inl 5)]) (m' := m) [((58, .aload_n 0, 1, 0, 0, 0, 0), (0, 0, 0)), ((59, .getfield 26, 3, 9, 2, 2121, 0), (1, 0, 5)), ((62, .iload_n 1, 1, 0, 0, 0, 0), (0, 0, 0))] (by decide +kernel) rfl ?_
        exact hx_call (E := (63, .invokevirtual 181, 3, 60, 0, 3215, 0)) (M' := yp_m60) [.inr (.inl 5), .inl x1] [] rfl (by decide +kernel) rfl ⟨rfl, rfl⟩ rfl rfl (hx_mono (h2 c1 c2 c3) (fun r m' h' => hx_pick [] h'))
      refine hsw_c (fun c4 => ?_) (fun c4 => ?_)
      · have c4 : x2 = 2 := c4
        refine hx_blk (npc := 79) (L' := [(0, .inr (.inl 0)), (1, .inl x1), (2, .inl x2)]) (st' := [.inl x1, .inr (.inl 5), .inr (.inl 5)]) (m' := m) [((70, .aload_n 0, 1, 0, 0, 0, 0), (0, 0, 0)), ((71, .getfield 26, 3, 9, 2, 2121, 0), (1, 0, 5)), ((74, .aload_n 0, 1, 0, 0, 0, 0), (0, 0, 0)), ((75, .getfield 26, 3, 9, 2, 2121, 0), (1, 0, 5)), ((78, .iload_n 1, 1, 0, 0, 0, 0), (0, 0, 0))] (by decide +kernel) rfl ?_
        exact hx_call (E := (79, .invokevirtual 181, 3, 60, 0, 3215, 0)) (M' := yp_m60) [.inr (.inl 5), .inl x1] [.inr (.inl 5)] rfl (by decide +kernel) rfl ⟨rfl, rfl⟩ rfl rfl (hx_mono (h3 c1 c2 c3 c4) (fun r m' h' => hx_pick [] h'))
      refine hsw_c (fun c5 => ?_) (fun c5 => ?_)
      · have c5 : x2 = 3 := c5
        refine hx_blk (npc := 91) (L' := [(0, .inr (.inl 0)), (1, .inl x1), (2, .inl x2)]) (st' := [.inl x1, .inr (.inl 5)]) (m' := m) [((86, .aload_n 0, 1, 0, 0, 0, 0), (0, 0, 0)), ((87, .getfield 26, 3, 9, 2, 2121, 0), (1, 0, 5)), ((90, .iload_n 1, 1, 0, 0, 0, 0), (0, 0, 0))] (by decide +kernel) rfl ?_
        exact hx_call (E := (91, .invokevirtual 194, 3, 76, 0, 3218, 0)) (M' := yp_m76) [.inr (.inl 5), .inl x1] [] rfl (by decide +kernel) rfl ⟨rfl, rfl⟩ rfl rfl (hx_mono (h4 c1 c2 c3 c4 c5) (fun r m' h' => hx_pick [] h'))
      refine hsw_c (fun c6 => ?_) (fun c6 => ?_)
      · have c6 : x2 = 4 := c6
        refine hx_blk (npc := 103) (L' := [(0, .inr (.inl 0)), (1, .inl x1), (2, .inl x2)]) (st' := [.inl x1, .inr (.inl 5)]) (m' := m) [((98, .aload_n 0, 1, 0, 0, 0, 0), (0, 0, 0)), ((99, .getfield 26, 3, 9, 2, 2121, 0), (1, 0, 5)), ((102, .iload_n 1, 1, 0, 0, 0, 0), (0, 0, 0))] (by decide +kernel) rfl ?_
        exact hx_call (E := (103, .invokevirtual 197, 3, 78, 0, 3226, 0)) (M' := yp_m78) [.inr (.inl 5), .inl x1] [] rfl (by decide +kernel) rfl ⟨rfl, rfl⟩ rfl rfl (hx_mono (h5 c1 c2 c3 c4 c5 c6) (fun r m' h' => hx_pick [] h'))
      refine hsw_n ?_
      refine hx_blk (npc := 111) (L' := [(0, .inr (.inl 0)), (1, .inl x1), (2, .inl x2)]) (st' := [.inl (-1)]) (m' := m) [((110, .iconst (-1), 1, 0, 0, 0, 0), (0, 0, 0))] (by decide +kernel) rfl ?_
      exact hx_reti (by decide +kernel) (h6 c1 c2 c3 c4 c5 c6)
    · have c2 : (1 : Int) = 0 := by have h : ¬ ((1 : Int) ≠ 0) := c2; omega
      exfalso; omega
  · have c1 : ¬ (cPers 5 m x1) := c1
    show hxn xs n yp_m75 8 [(0, .inr (.inl 0)), (1, .inl x1), (2, .inl x2)] [.inl 0] m Q
    refine hx_if .ne 13 (by decide +kernel) (fun c2 => ?_) (fun c2 => ?_)
    · have c2 : (0 : Int) ≠ 0 := c2
      exfalso; omega
    · have c2 : (0 : Int) = 0 := by have h : ¬ ((0 : Int) ≠ 0) := c2; omega
      refine hx_blk (npc := 12) (L' := [(0, .inr (.inl 0)), (1, .inl x1), (2, .inl x2)]) (st' := [.inl (-1)]) (m' := m) [((11, .iconst (-1), 1, 0, 0, 0, 0), (0, 0, 0))] (by decide +kernel) rfl ?_
      exact hx_reti (by decide +kernel) (h7 c1)

/-- personIs from 66 on -/
theorem hr75_66 {xs : List Int32} {n : Nat} {Q : hQ} {m : gx_M} {s0 : Int}
    (h1 : hxn xs n yp_m61 0 [(0, .inr (.inr s0))] [] m (fun r m' => hxn xs n yp_m75 69 [] (hrs r ++ []) m' Q)) : hxn xs (n + 1) yp_m75 66 [] [.inr (.inr s0)] m Q := by
  exact hx_calls (E := (66, .invokestatic 185, 3, 61, 0, 3216, 0)) (M' := yp_m61) [.inr (.inr s0)] [] rfl (by decide +kernel) rfl ⟨rfl, rfl⟩ rfl rfl (hx_mono h1 (fun r m' h' => hx_pick [] h'))

/-- personIs from 69 on -/
theorem hr75_69 {xs : List Int32} {n : Nat} {Q : hQ} {m : gx_M} {s0 : Int}
    (h1 : Q (some (.inl s0)) m) : hxn xs (n + 1) yp_m75 69 [] [.inl s0] m Q := by
  exact hx_reti (by decide +kernel) h1

/-- personIs from 82 on -/
theorem hr75_82 {xs : List Int32} {n : Nat} {Q : hQ} {m : gx_M} {s1 : Int}
    (h1 : hxn xs n yp_m64 0 [(0, .inr (.inl 5)), (1, .inr (.inr s1))] [] m (fun r m' => hxn xs n yp_m75 85 [] (hrs r ++ []) m' Q)) : hxn xs (n + 1) yp_m75 82 [] [.inr (.inr s1), .inr (.inl 5)] m Q := by
  exact hx_calls (E := (82, .invokevirtual 191, 3, 64, 0, 3217, 0)) (M' := yp_m64) [.inr (.inl 5), .inr (.inr s1)] [] rfl (by decide +kernel) rfl ⟨rfl, rfl⟩ rfl rfl (hx_mono h1 (fun r m' h' => hx_pick [] h'))

/-- personIs from 85 on -/
theorem hr75_85 {xs : List Int32} {n : Nat} {Q : hQ} {m : gx_M} {s0 : Int}
    (h1 : Q (some (.inl s0)) m) : hxn xs (n + 1) yp_m75 85 [] [.inl s0] m Q := by
  exact hx_reti (by decide +kernel) h1

/-- personIs from 94 on -/
theorem hr75_94 {xs : List Int32} {n : Nat} {Q : hQ} {m : gx_M} {s0 : Int}
    (h1 : hxn xs n yp_m61 0 [(0, .inr (.inr s0))] [] m (fun r m' => hxn xs n yp_m75 97 [] (hrs r ++ []) m' Q)) : hxn xs (n + 1) yp_m75 94 [] [.inr (.inr s0)] m Q := by
  exact hx_calls (E := (94, .invokestatic 185, 3, 61, 0, 3216, 0)) (M' := yp_m61) [.inr (.inr s0)] [] rfl (by decide +kernel) rfl ⟨rfl, rfl⟩ rfl rfl (hx_mono h1 (fun r m' h' => hx_pick [] h'))

/-- personIs from 97 on -/
theorem hr75_97 {xs : List Int32} {n : Nat} {Q : hQ} {m : gx_M} {s0 : Int}
    (h1 : Q (some (.inl s0)) m) : hxn xs (n + 1) yp_m75 97 [] [.inl s0] m Q := by
  exact hx_reti (by decide +kernel) h1

/-- personIs from 106 on -/
theorem hr75_106 {xs : List Int32} {n : Nat} {Q : hQ} {m : gx_M} {s0 : Int}
    (h1 : hxn xs n yp_m61 0 [(0, .inr (.inr s0))] [] m (fun r m' => hxn xs n yp_m75 109 [] (hrs r ++ []) m' Q)) : hxn xs (n + 1) yp_m75 106 [] [.inr (.inr s0)] m Q := by
  exact hx_calls (E := (106, .invokestatic 185, 3, 61, 0, 3216, 0)) (M' := yp_m61) [.inr (.inr s0)] [] rfl (by decide +kernel) rfl ⟨rfl, rfl⟩ rfl rfl (hx_mono h1 (fun r m' h' => hx_pick [] h'))

/-- personIs from 109 on -/
theorem hr75_109 {xs : List Int32} {n : Nat} {Q : hQ} {m : gx_M} {s0 : Int}
    (h1 : Q (some (.inl s0)) m) : hxn xs (n + 1) yp_m75 109 [] [.inl s0] m Q := by
  exact hx_reti (by decide +kernel) h1

/-- years from 0 on -/
theorem hr80_0 {xs : List Int32} {n : Nat} {Q : hQ} {m : gx_M} {x1 x2 : Int}
    (h1 : (cPers 5 m x1) → (x2 < 0) → Q (some (.inl (-1))) m)
    (h2 : (cPers 5 m x1) → (0 ≤ x2) → (x2 ≤ 3) → (2 ≤ x2) → hxn xs n yp_m76 0 [(0, .inr (.inl 5)), (1, .inl x1)] [] m (fun r m' => hxn xs n yp_m80 46 [(2, .inl x2)] (hrs r ++ []) m' Q))
    (h3 : (cPers 5 m x1) → (0 ≤ x2) → (x2 ≤ 3) → (x2 < 2) → hxn xs n yp_m60 0 [(0, .inr (.inl 5)), (1, .inl x1)] [] m (fun r m' => hxn xs n yp_m80 35 [(2, .inl x2)] (hrs r ++ []) m' Q))
    (h4 : (cPers 5 m x1) → (0 ≤ x2) → (3 < x2) → Q (some (.inl (-1))) m)
    (h5 : (¬ (cPers 5 m x1)) → Q (some (.inl (-1))) m) : hxn xs (n + 1) yp_m80 0 [(0, .inr (.inl 0)), (1, .inl x1), (2, .inl x2)] [] m Q := by
  refine hx_blks (npc := 5) (L' := [(0, .inr (.inl 0)), (1, .inl x1), (2, .inl x2)]) (st' := [.inl x1, .inr (.inl 5)]) (m' := m) ((0, .aload_n 0, 1, 0, 0, 0, 0), (0, 0, 0)) [((1, .getfield 26, 3, 9, 2, 2121, 0), (1, 0, 5)), ((4, .iload_n 1, 1, 0, 0, 0, 0), (0, 0, 0))] (by decide +kernel) rfl ?_
  refine hx_call (E := (5, .invokevirtual 94, 3, 13, 0, 2171, 0)) (M' := yp_m13) [.inr (.inl 5), .inl x1] [] rfl (by decide +kernel) rfl ⟨rfl, rfl⟩ rfl rfl (hs13_5 (fun c1 => ?_) (fun c1 => ?_))
  · have c1 : cPers 5 m x1 := c1
    show hxn xs n yp_m80 8 [(0, .inr (.inl 0)), (1, .inl x1), (2, .inl x2)] [.inl 1] m Q
    refine hx_if .eq 20 (by decide +kernel) (fun c2 => ?_) (fun c2 => ?_)
    · have c2 : (1 : Int) = 0 := c2
      exfalso; omega
    · have c2 : (1 : Int) ≠ 0 := c2
      refine hx_blk (npc := 12) (L' := [(0, .inr (.inl 0)), (1, .inl x1), (2, .inl x2)]) (st' := [.inl x2]) (m' := m) [((11, .iload_n 2, 1, 0, 0, 0, 0), (0, 0, 0))] (by decide +kernel) rfl ?_
      refine hx_if .lt 20 (by decide +kernel) (fun c2 => ?_) (fun c2 => ?_)
      · have c2 : x2 < 0 := c2
        refine hx_blk (npc := 21) (L' := [(0, .inr (.inl 0)), (1, .inl x1), (2, .inl x2)]) (st' := [.inl (-1)]) (m' := m) [((20, .iconst (-1), 1, 0, 0, 0, 0), (0, 0, 0))] (by decide +kernel) rfl ?_
        exact hx_reti (by decide +kernel) (h1 c1 c2)
      · have c2 : 0 ≤ x2 := by have h : ¬ (x2 < 0) := c2; omega
        refine hx_blk (npc := 17) (L' := [(0, .inr (.inl 0)), (1, .inl x1), (2, .inl x2)]) (st' := [.inl 3, .inl x2]) (m' := m) [((15, .iload_n 2, 1, 0, 0, 0, 0), (0, 0, 0)), ((16, .iconst 3, 1, 0, 0, 0, 0), (0, 0, 0))] (by decide +kernel) rfl ?_
        refine hx_cmp .le 22 (by decide +kernel) (fun c3 => ?_) (fun c3 => ?_)
        · have c3 : x2 ≤ 3 := c3
          refine hx_blk (npc := 24) (L' := [(0, .inr (.inl 0)), (1, .inl x1), (2, .inl x2)]) (st' := [.inl 2, .inl x2]) (m' := m) [((22, .iload_n 2, 1, 0, 0, 0, 0), (0, 0, 0)), ((23, .iconst 2, 1, 0, 0, 0, 0), (0, 0, 0))] (by decide +kernel) rfl ?_
          refine hx_cmp .ge 38 (by decide +kernel) (fun c4 => ?_) (fun c4 => ?_)
          · have c4 : 2 ≤ x2 := c4
            refine hx_blk (npc := 43) (L' := [(0, .inr (.inl 0)), (1, .inl x1), (2, .inl x2)]) (st' := [.inl x1, .inr (.inl 5)]) (m' := m) [((38, .aload_n 0, 1, 0, 0, 0, 0), (0, 0, 0)), ((39, .getfield 26, 3, 9, 2, 2121, 0), (1, 0, 5)), ((42, .iload_n 1, 1, 0, 0, 0, 0), (0, 0, 0))] (by decide +kernel) rfl ?_
            exact hx_call (E := (43, .invokevirtual 194, 3, 76, 0, 3218, 0)) (M' := yp_m76) [.inr (.inl 5), .inl x1] [] rfl (by decide +kernel) rfl ⟨rfl, rfl⟩ rfl rfl (hx_mono (h2 c1 c2 c3 c4) (fun r m' h' => hx_pick [2] h'))
          · have c4 : x2 < 2 := by have h : ¬ (2 ≤ x2) := c4; omega
            refine hx_blk (npc := 32) (L' := [(0, .inr (.inl 0)), (1, .inl x1), (2, .inl x2)]) (st' := [.inl x1, .inr (.inl 5)]) (m' := m) [((27, .aload_n 0, 1, 0, 0, 0, 0), (0, 0, 0)), ((28, .getfield 26, 3, 9, 2, 2121, 0), (1, 0, 5)), ((31, .iload_n 1, 1, 0, 0, 0, 0), (0, 0, 0))] (by decide +kernel) rfl ?_
            exact hx_call (E := (32, .invokevirtual 181, 3, 60, 0, 3215, 0)) (M' := yp_m60) [.inr (.inl 5), .inl x1] [] rfl (by decide +kernel) rfl ⟨rfl, rfl⟩ rfl rfl (hx_mono (h3 c1 c2 c3 c4) (fun r m' h' => hx_pick [2] h'))
        · have c3 : 3 < x2 := by have h : ¬ (x2 ≤ 3) := c3; omega
          refine hx_blk (npc := 21) (L' := [(0, .inr (.inl 0)), (1, .inl x1), (2, .inl x2)]) (st' := [.inl (-1)]) (m' := m) [((20, .iconst (-1), 1, 0, 0, 0, 0), (0, 0, 0))] (by decide +kernel) rfl ?_
          exact hx_reti (by decide +kernel) (h4 c1 c2 c3)
  · have c1 : ¬ (cPers 5 m x1) := c1
    show hxn xs n yp_m80 8 [(0, .inr (.inl 0)), (1, .inl x1), (2, .inl x2)] [.inl 0] m Q
    refine hx_if .eq 20 (by decide +kernel) (fun c2 => ?_) (fun c2 => ?_)
    · have c2 : (0 : Int) = 0 := c2
      refine hx_blk (npc := 21) (L' := [(0, .inr (.inl 0)), (1, .inl x1), (2, .inl x2)]) (st' := [.inl (-1)]) (m' := m) [((20, .iconst (-1), 1, 0, 0, 0, 0), (0, 0, 0))] (by decide +kernel) rfl ?_
      exact hx_reti (by decide +kernel) (h5 c1)
    · have c2 : (0 : Int) ≠ 0 := c2
      exfalso; omega

/-- years from 35 on -/
theorem hr80_35 {xs : List Int32} {n : Nat} {Q : hQ} {m : gx_M} {x2 s0 : Int}
    (h1 : Q (some (.inl (gx_and (gx_w (hlushr s0 (20 * (gx_and x2 1)))) 1048575))) m) : hxn xs (n + 1) yp_m80 35 [(2, .inl x2)] [.inr (.inr s0)] m Q := by
  have f1 := gx_and_bd x2 1 (by decide)
  have e2 : gx_w (20 * (gx_and x2 1)) = 20 * (gx_and x2 1) := gx_w_id (by omega) (by omega)
  have f3 := gx_and_bd (gx_w (hlushr s0 (20 * (gx_and x2 1)))) 1048575 (by decide)
  refine hx_blks (npc := 63) (L' := [(2, .inl x2), (3, .inr (.inr s0)), (5, .inl 1048575)]) (st' := [.inl (gx_and (gx_w (hlushr s0 (gx_w (20 * (gx_and x2 1))))) 1048575)]) (m' := m) ((35, .goto 11, 3, 0, 0, 0, 0), (0, 0, 0)) [((46, .lstore_n 3, 1, 0, 0, 0, 0), (0, 0, 0)), ((47, .ldc 200, 2, 0, 0, 3238, 1048575), (0, 0, 0)), ((49, .istore 5, 2, 0, 0, 0, 0), (0, 0, 0)), ((51, .lload_n 3, 1, 0, 0, 0, 0), (0, 0, 0)), ((52, .bipush 20, 2, 0, 0, 0, 0), (0, 0, 0)), ((54, .iload_n 2, 1, 0, 0, 0, 0), (0, 0, 0)), ((55, .iconst 1, 1, 0, 0, 0, 0), (0, 0, 0)), ((56, .iand, 1, 0, 0, 0, 0), (0, 0, 0)), ((57, .imul, 1, 0, 0, 0, 0), (0, 0, 0)), ((58, .lushr, 1, 0, 0, 0, 0), (0, 0, 0)), ((59, .l2i, 1, 0, 0, 0, 0), (0, 0, 0)), ((60, .iload 5, 2, 0, 0, 0, 0), (0, 0, 0)), ((62, .iand, 1, 0, 0, 0, 0), (0, 0, 0))] (by decide +kernel) rfl ?_
  rw [e2]
  exact hx_reti (by decide +kernel) h1

/-- years from 46 on -/
theorem hr80_46 {xs : List Int32} {n : Nat} {Q : hQ} {m : gx_M} {x2 s0 : Int}
    (h1 : Q (some (.inl (gx_and (gx_w (hlushr s0 (20 * (gx_and x2 1)))) 1048575))) m) : hxn xs (n + 1) yp_m80 46 [(2, .inl x2)] [.inr (.inr s0)] m Q := by
  have f1 := gx_and_bd x2 1 (by decide)
  have e2 : gx_w (20 * (gx_and x2 1)) = 20 * (gx_and x2 1) := gx_w_id (by omega) (by omega)
  have f3 := gx_and_bd (gx_w (hlushr s0 (20 * (gx_and x2 1)))) 1048575 (by decide)
  refine hx_blks (npc := 63) (L' := [(2, .inl x2), (3, .inr (.inr s0)), (5, .inl 1048575)]) (st' := [.inl (gx_and (gx_w (hlushr s0 (gx_w (20 * (gx_and x2 1))))) 1048575)]) (m' := m) ((46, .lstore_n 3, 1, 0, 0, 0, 0), (0, 0, 0)) [((47, .ldc 200, 2, 0, 0, 3238, 1048575), (0, 0, 0)), ((49, .istore 5, 2, 0, 0, 0, 0), (0, 0, 0)), ((51, .lload_n 3, 1, 0, 0, 0, 0), (0, 0, 0)), ((52, .bipush 20, 2, 0, 0, 0, 0), (0, 0, 0)), ((54, .iload_n 2, 1, 0, 0, 0, 0), (0, 0, 0)), ((55, .iconst 1, 1, 0, 0, 0, 0), (0, 0, 0)), ((56, .iand, 1, 0, 0, 0, 0), (0, 0, 0)), ((57, .imul, 1, 0, 0, 0, 0), (0, 0, 0)), ((58, .lushr, 1, 0, 0, 0, 0), (0, 0, 0)), ((59, .l2i, 1, 0, 0, 0, 0), (0, 0, 0)), ((60, .iload 5, 2, 0, 0, 0, 0), (0, 0, 0)), ((62, .iand, 1, 0, 0, 0, 0), (0, 0, 0))] (by decide +kernel) rfl ?_
  rw [e2]
  exact hx_reti (by decide +kernel) h1

/-- hasHad from 0 on -/
theorem hr220_0 {xs : List Int32} {n : Nat} {Q : hQ} {m : gx_M} {x1 x2 : Int}
    (h1 : hxn xs n yp_m220 2 [(0, .inr (.inl 86)), (1, .inl x1), (2, .inl x2), (3, .inl 0)] [] m Q) : hxn xs (n + 1) yp_m220 0 [(0, .inr (.inl 86)), (1, .inl x1), (2, .inl x2)] [] m Q := by
  refine hx_blks (npc := 2) (L' := [(0, .inr (.inl 86)), (1, .inl x1), (2, .inl x2), (3, .inl 0)]) (st' := []) (m' := m) ((0, .iconst 0, 1, 0, 0, 0, 0), (0, 0, 0)) [((1, .istore_n 3, 1, 0, 0, 0, 0), (0, 0, 0))] (by decide +kernel) rfl ?_
  exact hx_pick [0, 1, 2, 3] h1

/-- hasHad from 2 on -/
theorem hr220_2 {xs : List Int32} {n : Nat} {Q : hQ} {m : gx_M} {x1 x2 x3 : Int}
    (h1 : ((m 87 (gx_w (400 + x1)).toNat) ≤ x3) → Q (some (.inl 0)) m)
    (h2 : (x3 < (m 87 (gx_w (400 + x1)).toNat)) → ((m 87 (gx_w (440 + x1)).toNat) ≠ 1) → Q (some (.inl 0)) m)
    (h3 : (x3 < (m 87 (gx_w (400 + x1)).toNat)) → ((m 87 (gx_w (440 + x1)).toNat) = 1) → ((m 87 (gx_w ((gx_w (480 + (gx_w (16 * x1)))) + x3)).toNat) ≠ x2) → hxn xs n yp_m220 2 [(0, .inr (.inl 86)), (1, .inl x1), (2, .inl x2), (3, .inl (gx_w (x3 + 1)))] [] m Q)
    (h4 : (x3 < (m 87 (gx_w (400 + x1)).toNat)) → ((m 87 (gx_w (440 + x1)).toNat) = 1) → ((m 87 (gx_w ((gx_w (480 + (gx_w (16 * x1)))) + x3)).toNat) = x2) → Q (some (.inl 1)) m) : hxn xs (n + 1) yp_m220 2 [(0, .inr (.inl 86)), (1, .inl x1), (2, .inl x2), (3, .inl x3)] [] m Q := by
  refine hx_blks (npc := 13) (L' := [(0, .inr (.inl 86)), (1, .inl x1), (2, .inl x2), (3, .inl x3)]) (st' := [.inl (m 87 (gx_w (400 + x1)).toNat), .inl x3]) (m' := m) ((2, .iload_n 3, 1, 0, 0, 0, 0), (0, 0, 0)) [((3, .aload_n 0, 1, 0, 0, 0, 0), (0, 0, 0)), ((4, .getfield 7, 3, 10, 0, 5113, 0), (1, 86, 87)), ((7, .sipush 400, 3, 0, 0, 0, 0), (0, 0, 0)), ((10, .iload_n 1, 1, 0, 0, 0, 0), (0, 0, 0)), ((11, .iadd, 1, 0, 0, 0, 0), (0, 0, 0)), ((12, .iaload, 1, 0, 0, 0, 0), (0, 87, 0))] (by decide +kernel) rfl ?_
  refine hx_cmp .ge 57 (by decide +kernel) (fun c1 => ?_) (fun c1 => ?_)
  · have c1 : (m 87 (gx_w (400 + x1)).toNat) ≤ x3 := c1
    refine hx_blk (npc := 58) (L' := [(0, .inr (.inl 86)), (1, .inl x1), (2, .inl x2), (3, .inl x3)]) (st' := [.inl 0]) (m' := m) [((57, .iconst 0, 1, 0, 0, 0, 0), (0, 0, 0))] (by decide +kernel) rfl ?_
    exact hx_reti (by decide +kernel) (h1 c1)
  · have c1 : x3 < (m 87 (gx_w (400 + x1)).toNat) := by have h : ¬ ((m 87 (gx_w (400 + x1)).toNat) ≤ x3) := c1; omega
    refine hx_blk (npc := 27) (L' := [(0, .inr (.inl 86)), (1, .inl x1), (2, .inl x2), (3, .inl x3)]) (st' := [.inl 1, .inl (m 87 (gx_w (440 + x1)).toNat)]) (m' := m) [((16, .aload_n 0, 1, 0, 0, 0, 0), (0, 0, 0)), ((17, .getfield 7, 3, 10, 0, 5113, 0), (1, 86, 87)), ((20, .sipush 440, 3, 0, 0, 0, 0), (0, 0, 0)), ((23, .iload_n 1, 1, 0, 0, 0, 0), (0, 0, 0)), ((24, .iadd, 1, 0, 0, 0, 0), (0, 0, 0)), ((25, .iaload, 1, 0, 0, 0, 0), (0, 87, 0)), ((26, .iconst 1, 1, 0, 0, 0, 0), (0, 0, 0))] (by decide +kernel) rfl ?_
    refine hx_cmp .ne 57 (by decide +kernel) (fun c2 => ?_) (fun c2 => ?_)
    · have c2 : (m 87 (gx_w (440 + x1)).toNat) ≠ 1 := c2
      refine hx_blk (npc := 58) (L' := [(0, .inr (.inl 86)), (1, .inl x1), (2, .inl x2), (3, .inl x3)]) (st' := [.inl 0]) (m' := m) [((57, .iconst 0, 1, 0, 0, 0, 0), (0, 0, 0))] (by decide +kernel) rfl ?_
      exact hx_reti (by decide +kernel) (h2 c1 c2)
    · have c2 : (m 87 (gx_w (440 + x1)).toNat) = 1 := by have h : ¬ ((m 87 (gx_w (440 + x1)).toNat) ≠ 1) := c2; omega
      refine hx_blk (npc := 46) (L' := [(0, .inr (.inl 86)), (1, .inl x1), (2, .inl x2), (3, .inl x3)]) (st' := [.inl x2, .inl (m 87 (gx_w ((gx_w (480 + (gx_w (16 * x1)))) + x3)).toNat)]) (m' := m) [((30, .aload_n 0, 1, 0, 0, 0, 0), (0, 0, 0)), ((31, .getfield 7, 3, 10, 0, 5113, 0), (1, 86, 87)), ((34, .sipush 480, 3, 0, 0, 0, 0), (0, 0, 0)), ((37, .bipush 16, 2, 0, 0, 0, 0), (0, 0, 0)), ((39, .iload_n 1, 1, 0, 0, 0, 0), (0, 0, 0)), ((40, .imul, 1, 0, 0, 0, 0), (0, 0, 0)), ((41, .iadd, 1, 0, 0, 0, 0), (0, 0, 0)), ((42, .iload_n 3, 1, 0, 0, 0, 0), (0, 0, 0)), ((43, .iadd, 1, 0, 0, 0, 0), (0, 0, 0)), ((44, .iaload, 1, 0, 0, 0, 0), (0, 87, 0)), ((45, .iload_n 2, 1, 0, 0, 0, 0), (0, 0, 0))] (by decide +kernel) rfl ?_
      refine hx_cmp .ne 51 (by decide +kernel) (fun c3 => ?_) (fun c3 => ?_)
      · have c3 : (m 87 (gx_w ((gx_w (480 + (gx_w (16 * x1)))) + x3)).toNat) ≠ x2 := c3
        refine hx_blk (npc := 2) (L' := [(0, .inr (.inl 86)), (1, .inl x1), (2, .inl x2), (3, .inl (gx_w (x3 + 1)))]) (st' := []) (m' := m) [((51, .iinc 3 1, 3, 0, 0, 0, 0), (0, 0, 0)), ((54, .goto (-52), 3, 0, 0, 0, 0), (0, 0, 0))] (by decide +kernel) rfl ?_
        exact hx_pick [0, 1, 2, 3] (h3 c1 c2 c3)
      · have c3 : (m 87 (gx_w ((gx_w (480 + (gx_w (16 * x1)))) + x3)).toNat) = x2 := by have h : ¬ ((m 87 (gx_w ((gx_w (480 + (gx_w (16 * x1)))) + x3)).toNat) ≠ x2) := c3; omega
        refine hx_blk (npc := 50) (L' := [(0, .inr (.inl 86)), (1, .inl x1), (2, .inl x2), (3, .inl x3)]) (st' := [.inl 1]) (m' := m) [((49, .iconst 1, 1, 0, 0, 0, 0), (0, 0, 0))] (by decide +kernel) rfl ?_
        exact hx_reti (by decide +kernel) (h4 c1 c2 c3)

/-- hadBy from 0 on -/
theorem hr219_0 {xs : List Int32} {n : Nat} {Q : hQ} {m : gx_M} {x1 : Int}
    (h1 : hxn xs n yp_m219 4 [(0, .inr (.inl 86)), (1, .inl x1), (2, .inl 0), (3, .inl 0)] [] m Q) : hxn xs (n + 1) yp_m219 0 [(0, .inr (.inl 86)), (1, .inl x1)] [] m Q := by
  refine hx_blks (npc := 4) (L' := [(0, .inr (.inl 86)), (1, .inl x1), (2, .inl 0), (3, .inl 0)]) (st' := []) (m' := m) ((0, .iconst 0, 1, 0, 0, 0, 0), (0, 0, 0)) [((1, .istore_n 2, 1, 0, 0, 0, 0), (0, 0, 0)), ((2, .iconst 0, 1, 0, 0, 0, 0), (0, 0, 0)), ((3, .istore_n 3, 1, 0, 0, 0, 0), (0, 0, 0))] (by decide +kernel) rfl ?_
  exact hx_pick [0, 1, 2, 3] h1

/-- hadBy from 4 on -/
theorem hr219_4 {xs : List Int32} {n : Nat} {Q : hQ} {m : gx_M} {x1 x2 x3 : Int}
    (h1 : (40 ≤ x3) → Q (some (.inl x2)) m)
    (h2 : (x3 < 40) → hxn xs n yp_m220 0 [(0, .inr (.inl 86)), (1, .inl x3), (2, .inl x1)] [] m (fun r m' => hxn xs n yp_m219 17 [(0, .inr (.inl 86)), (1, .inl x1), (3, .inl x3)] (hrs r ++ [.inl x2]) m' Q)) : hxn xs (n + 1) yp_m219 4 [(0, .inr (.inl 86)), (1, .inl x1), (2, .inl x2), (3, .inl x3)] [] m Q := by
  refine hx_blks (npc := 7) (L' := [(0, .inr (.inl 86)), (1, .inl x1), (2, .inl x2), (3, .inl x3)]) (st' := [.inl 40, .inl x3]) (m' := m) ((4, .iload_n 3, 1, 0, 0, 0, 0), (0, 0, 0)) [((5, .bipush 40, 2, 0, 0, 0, 0), (0, 0, 0))] (by decide +kernel) rfl ?_
  refine hx_cmp .ge 33 (by decide +kernel) (fun c1 => ?_) (fun c1 => ?_)
  · have c1 : 40 ≤ x3 := c1
    refine hx_blk (npc := 34) (L' := [(0, .inr (.inl 86)), (1, .inl x1), (2, .inl x2), (3, .inl x3)]) (st' := [.inl x2]) (m' := m) [((33, .iload_n 2, 1, 0, 0, 0, 0), (0, 0, 0))] (by decide +kernel) rfl ?_
    exact hx_reti (by decide +kernel) (h1 c1)
  · have c1 : x3 < 40 := by have h : ¬ (40 ≤ x3) := c1; omega
    refine hx_blk (npc := 14) (L' := [(0, .inr (.inl 86)), (1, .inl x1), (2, .inl x2), (3, .inl x3)]) (st' := [.inl x1, .inl x3, .inr (.inl 86), .inl x2]) (m' := m) [((10, .iload_n 2, 1, 0, 0, 0, 0), (0, 0, 0)), ((11, .aload_n 0, 1, 0, 0, 0, 0), (0, 0, 0)), ((12, .iload_n 3, 1, 0, 0, 0, 0), (0, 0, 0)), ((13, .iload_n 1, 1, 0, 0, 0, 0), (0, 0, 0))] (by decide +kernel) rfl ?_
    exact hx_call (E := (14, .invokevirtual 303, 3, 220, 0, 7008, 0)) (M' := yp_m220) [.inr (.inl 86), .inl x3, .inl x1] [.inl x2] rfl (by decide +kernel) rfl ⟨rfl, rfl⟩ rfl rfl (hx_mono (h2 c1) (fun r m' h' => hx_pick [0, 1, 3] h'))

/-- hadBy from 17 on -/
theorem hr219_17 {xs : List Int32} {n : Nat} {Q : hQ} {m : gx_M} {x1 x3 s0 s1 : Int}
    (h1 : (s1 = 0) → hxn xs n yp_m219 4 [(0, .inr (.inl 86)), (1, .inl x1), (2, .inl (gx_w (s0 + 0))), (3, .inl (gx_w (x3 + 1)))] [] m Q)
    (h2 : (s1 ≠ 0) → hxn xs n yp_m219 4 [(0, .inr (.inl 86)), (1, .inl x1), (2, .inl (gx_w (s0 + 1))), (3, .inl (gx_w (x3 + 1)))] [] m Q) : hxn xs (n + 1) yp_m219 17 [(0, .inr (.inl 86)), (1, .inl x1), (3, .inl x3)] [.inl s1, .inl s0] m Q := by
  refine hx_ifs .eq 24 (by decide +kernel) (fun c1 => ?_) (fun c1 => ?_)
  · have c1 : s1 = 0 := c1
    refine hx_blk (npc := 4) (L' := [(0, .inr (.inl 86)), (1, .inl x1), (3, .inl (gx_w (x3 + 1))), (2, .inl (gx_w (s0 + 0)))]) (st' := []) (m' := m) [((24, .iconst 0, 1, 0, 0, 0, 0), (0, 0, 0)), ((25, .iadd, 1, 0, 0, 0, 0), (0, 0, 0)), ((26, .istore_n 2, 1, 0, 0, 0, 0), (0, 0, 0)), ((27, .iinc 3 1, 3, 0, 0, 0, 0), (0, 0, 0)), ((30, .goto (-26), 3, 0, 0, 0, 0), (0, 0, 0))] (by decide +kernel) rfl ?_
    exact hx_pick [0, 1, 2, 3] (h1 c1)
  · have c1 : s1 ≠ 0 := c1
    refine hx_blk (npc := 4) (L' := [(0, .inr (.inl 86)), (1, .inl x1), (3, .inl (gx_w (x3 + 1))), (2, .inl (gx_w (s0 + 1)))]) (st' := []) (m' := m) [((20, .iconst 1, 1, 0, 0, 0, 0), (0, 0, 0)), ((21, .goto 4, 3, 0, 0, 0, 0), (0, 0, 0)), ((25, .iadd, 1, 0, 0, 0, 0), (0, 0, 0)), ((26, .istore_n 2, 1, 0, 0, 0, 0), (0, 0, 0)), ((27, .iinc 3 1, 3, 0, 0, 0, 0), (0, 0, 0)), ((30, .goto (-26), 3, 0, 0, 0, 0), (0, 0, 0))] (by decide +kernel) rfl ?_
    exact hx_pick [0, 1, 2, 3] (h2 c1)

/-- heldBy from 0 on -/
theorem hr221_0 {xs : List Int32} {n : Nat} {Q : hQ} {m : gx_M} {x1 : Int}
    (h1 : hxn xs n yp_m221 4 [(0, .inr (.inl 86)), (1, .inl x1), (2, .inl 0), (3, .inl 0)] [] m Q) : hxn xs (n + 1) yp_m221 0 [(0, .inr (.inl 86)), (1, .inl x1)] [] m Q := by
  refine hx_blks (npc := 4) (L' := [(0, .inr (.inl 86)), (1, .inl x1), (2, .inl 0), (3, .inl 0)]) (st' := []) (m' := m) ((0, .iconst 0, 1, 0, 0, 0, 0), (0, 0, 0)) [((1, .istore_n 2, 1, 0, 0, 0, 0), (0, 0, 0)), ((2, .iconst 0, 1, 0, 0, 0, 0), (0, 0, 0)), ((3, .istore_n 3, 1, 0, 0, 0, 0), (0, 0, 0))] (by decide +kernel) rfl ?_
  exact hx_pick [0, 1, 2, 3] h1

/-- heldBy from 4 on -/
theorem hr221_4 {xs : List Int32} {n : Nat} {Q : hQ} {m : gx_M} {x1 x2 x3 : Int}
    (h1 : (40 ≤ x3) → Q (some (.inl x2)) m)
    (h2 : (x3 < 40) → (aYr (m 87) x3) → ((m 87 (gx_w (280 + x3)).toNat) ≠ x1) → hxn xs n yp_m221 4 [(0, .inr (.inl 86)), (1, .inl x1), (2, .inl (gx_w (x2 + 0))), (3, .inl (gx_w (x3 + 1)))] [] m Q)
    (h3 : (x3 < 40) → (aYr (m 87) x3) → ((m 87 (gx_w (280 + x3)).toNat) = x1) → hxn xs n yp_m221 4 [(0, .inr (.inl 86)), (1, .inl x1), (2, .inl (gx_w (x2 + 1))), (3, .inl (gx_w (x3 + 1)))] [] m Q)
    (h4 : (x3 < 40) → (¬ (aYr (m 87) x3)) → hxn xs n yp_m221 4 [(0, .inr (.inl 86)), (1, .inl x1), (2, .inl (gx_w (x2 + 0))), (3, .inl (gx_w (x3 + 1)))] [] m Q) : hxn xs (n + 1) yp_m221 4 [(0, .inr (.inl 86)), (1, .inl x1), (2, .inl x2), (3, .inl x3)] [] m Q := by
  refine hx_blks (npc := 7) (L' := [(0, .inr (.inl 86)), (1, .inl x1), (2, .inl x2), (3, .inl x3)]) (st' := [.inl 40, .inl x3]) (m' := m) ((4, .iload_n 3, 1, 0, 0, 0, 0), (0, 0, 0)) [((5, .bipush 40, 2, 0, 0, 0, 0), (0, 0, 0))] (by decide +kernel) rfl ?_
  refine hx_cmp .ge 46 (by decide +kernel) (fun c1 => ?_) (fun c1 => ?_)
  · have c1 : 40 ≤ x3 := c1
    refine hx_blk (npc := 47) (L' := [(0, .inr (.inl 86)), (1, .inl x1), (2, .inl x2), (3, .inl x3)]) (st' := [.inl x2]) (m' := m) [((46, .iload_n 2, 1, 0, 0, 0, 0), (0, 0, 0))] (by decide +kernel) rfl ?_
    exact hx_reti (by decide +kernel) (h1 c1)
  · have c1 : x3 < 40 := by have h : ¬ (40 ≤ x3) := c1; omega
    refine hx_blk (npc := 13) (L' := [(0, .inr (.inl 86)), (1, .inl x1), (2, .inl x2), (3, .inl x3)]) (st' := [.inl x3, .inr (.inl 86), .inl x2]) (m' := m) [((10, .iload_n 2, 1, 0, 0, 0, 0), (0, 0, 0)), ((11, .aload_n 0, 1, 0, 0, 0, 0), (0, 0, 0)), ((12, .iload_n 3, 1, 0, 0, 0, 0), (0, 0, 0))] (by decide +kernel) rfl ?_
    refine hx_call (E := (13, .invokevirtual 269, 3, 196, 0, 6156, 0)) (M' := yp_m196) [.inr (.inl 86), .inl x3] [.inl x2] rfl (by decide +kernel) rfl ⟨rfl, rfl⟩ rfl rfl (hs196 (fun c2 => ?_) (fun c2 => ?_))
    · have c2 : aYr (m 87) x3 := c2
      show hxn xs n yp_m221 16 [(0, .inr (.inl 86)), (1, .inl x1), (2, .inl x2), (3, .inl x3)] [.inl 1, .inl x2] m Q
      refine hx_if .eq 37 (by decide +kernel) (fun c3 => ?_) (fun c3 => ?_)
      · have c3 : (1 : Int) = 0 := c3
        exfalso; omega
      · have c3 : (1 : Int) ≠ 0 := c3
        refine hx_blk (npc := 30) (L' := [(0, .inr (.inl 86)), (1, .inl x1), (2, .inl x2), (3, .inl x3)]) (st' := [.inl x1, .inl (m 87 (gx_w (280 + x3)).toNat), .inl x2]) (m' := m) [((19, .aload_n 0, 1, 0, 0, 0, 0), (0, 0, 0)), ((20, .getfield 7, 3, 10, 0, 5113, 0), (1, 86, 87)), ((23, .sipush 280, 3, 0, 0, 0, 0), (0, 0, 0)), ((26, .iload_n 3, 1, 0, 0, 0, 0), (0, 0, 0)), ((27, .iadd, 1, 0, 0, 0, 0), (0, 0, 0)), ((28, .iaload, 1, 0, 0, 0, 0), (0, 87, 0)), ((29, .iload_n 1, 1, 0, 0, 0, 0), (0, 0, 0))] (by decide +kernel) rfl ?_
        refine hx_cmp .ne 37 (by decide +kernel) (fun c3 => ?_) (fun c3 => ?_)
        · have c3 : (m 87 (gx_w (280 + x3)).toNat) ≠ x1 := c3
          refine hx_blk (npc := 4) (L' := [(0, .inr (.inl 86)), (1, .inl x1), (2, .inl (gx_w (x2 + 0))), (3, .inl (gx_w (x3 + 1)))]) (st' := []) (m' := m) [((37, .iconst 0, 1, 0, 0, 0, 0), (0, 0, 0)), ((38, .iadd, 1, 0, 0, 0, 0), (0, 0, 0)), ((39, .istore_n 2, 1, 0, 0, 0, 0), (0, 0, 0)), ((40, .iinc 3 1, 3, 0, 0, 0, 0), (0, 0, 0)), ((43, .goto (-39), 3, 0, 0, 0, 0), (0, 0, 0))] (by decide +kernel) rfl ?_
          exact hx_pick [0, 1, 2, 3] (h2 c1 c2 c3)
        · have c3 : (m 87 (gx_w (280 + x3)).toNat) = x1 := by have h : ¬ ((m 87 (gx_w (280 + x3)).toNat) ≠ x1) := c3; omega
          refine hx_blk (npc := 4) (L' := [(0, .inr (.inl 86)), (1, .inl x1), (2, .inl (gx_w (x2 + 1))), (3, .inl (gx_w (x3 + 1)))]) (st' := []) (m' := m) [((33, .iconst 1, 1, 0, 0, 0, 0), (0, 0, 0)), ((34, .goto 4, 3, 0, 0, 0, 0), (0, 0, 0)), ((38, .iadd, 1, 0, 0, 0, 0), (0, 0, 0)), ((39, .istore_n 2, 1, 0, 0, 0, 0), (0, 0, 0)), ((40, .iinc 3 1, 3, 0, 0, 0, 0), (0, 0, 0)), ((43, .goto (-39), 3, 0, 0, 0, 0), (0, 0, 0))] (by decide +kernel) rfl ?_
          exact hx_pick [0, 1, 2, 3] (h3 c1 c2 c3)
    · have c2 : ¬ (aYr (m 87) x3) := c2
      show hxn xs n yp_m221 16 [(0, .inr (.inl 86)), (1, .inl x1), (2, .inl x2), (3, .inl x3)] [.inl 0, .inl x2] m Q
      refine hx_if .eq 37 (by decide +kernel) (fun c3 => ?_) (fun c3 => ?_)
      · have c3 : (0 : Int) = 0 := c3
        refine hx_blk (npc := 4) (L' := [(0, .inr (.inl 86)), (1, .inl x1), (2, .inl (gx_w (x2 + 0))), (3, .inl (gx_w (x3 + 1)))]) (st' := []) (m' := m) [((37, .iconst 0, 1, 0, 0, 0, 0), (0, 0, 0)), ((38, .iadd, 1, 0, 0, 0, 0), (0, 0, 0)), ((39, .istore_n 2, 1, 0, 0, 0, 0), (0, 0, 0)), ((40, .iinc 3 1, 3, 0, 0, 0, 0), (0, 0, 0)), ((43, .goto (-39), 3, 0, 0, 0, 0), (0, 0, 0))] (by decide +kernel) rfl ?_
        exact hx_pick [0, 1, 2, 3] (h4 c1 c2)
      · have c3 : (0 : Int) ≠ 0 := c3
        exfalso; omega

/-- personIs from 0 on -/
theorem hr218_0 {xs : List Int32} {n : Nat} {Q : hQ} {m : gx_M} {x1 x2 : Int}
    (h1 : (aPers (m 87) x1) → (x2 = 0) → Q (some (.inl (m 87 (gx_w (1120 + x1)).toNat))) m)
    (h2 : (aPers (m 87) x1) → (x2 ≠ 0) → (x2 = 1) → hxn xs n yp_m204 0 [(0, .inr (.inl 86)), (1, .inl x1)] [] m (fun r m' => hxn xs n yp_m218 60 [] (hrs r ++ []) m' Q))
    (h3 : (aPers (m 87) x1) → (x2 ≠ 0) → (x2 ≠ 1) → (x2 = 2) → hxn xs n yp_m207 0 [(0, .inr (.inl 86)), (1, .inl x1), (2, .inl (-1))] [] m (fun r m' => hxn xs n yp_m218 67 [] (hrs r ++ []) m' Q))
    (h4 : (aPers (m 87) x1) → (x2 ≠ 0) → (x2 ≠ 1) → (x2 ≠ 2) → (x2 = 3) → hxn xs n yp_m219 0 [(0, .inr (.inl 86)), (1, .inl x1)] [] m (fun r m' => hxn xs n yp_m218 73 [] (hrs r ++ []) m' Q))
    (h5 : (aPers (m 87) x1) → (x2 ≠ 0) → (x2 ≠ 1) → (x2 ≠ 2) → (x2 ≠ 3) → (x2 = 4) → hxn xs n yp_m221 0 [(0, .inr (.inl 86)), (1, .inl x1)] [] m (fun r m' => hxn xs n yp_m218 79 [] (hrs r ++ []) m' Q))
    (h6 : (aPers (m 87) x1) → (x2 ≠ 0) → (x2 ≠ 1) → (x2 ≠ 2) → (x2 ≠ 3) → (x2 ≠ 4) → Q (some (.inl (-1))) m)
    (h7 : (¬ (aPers (m 87) x1)) → Q (some (.inl (-1))) m) : hxn xs (n + 1) yp_m218 0 [(0, .inr (.inl 86)), (1, .inl x1), (2, .inl x2)] [] m Q := by
  refine hx_blks (npc := 2) (L' := [(0, .inr (.inl 86)), (1, .inl x1), (2, .inl x2)]) (st' := [.inl x1, .inr (.inl 86)]) (m' := m) ((0, .aload_n 0, 1, 0, 0, 0, 0), (0, 0, 0)) [((1, .iload_n 1, 1, 0, 0, 0, 0), (0, 0, 0))] (by decide +kernel) rfl ?_
  refine hx_call (E := (2, .invokevirtual 113, 3, 164, 0, 6031, 0)) (M' := yp_m164) [.inr (.inl 86), .inl x1] [] rfl (by decide +kernel) rfl ⟨rfl, rfl⟩ rfl rfl (hs164 (fun c1 => ?_) (fun c1 => ?_))
  · have c1 : aPers (m 87) x1 := c1
    show hxn xs n yp_m218 5 [(0, .inr (.inl 86)), (1, .inl x1), (2, .inl x2)] [.inl 1] m Q
    refine hx_if .ne 10 (by decide +kernel) (fun c2 => ?_) (fun c2 => ?_)
    · have c2 : (1 : Int) ≠ 0 := c2
      refine hx_blk (npc := 11) (L' := [(0, .inr (.inl 86)), (1, .inl x1), (2, .inl x2)]) (st' := [.inl x2]) (m' := m) [((10, .iload_n 2, 1, 0, 0, 0, 0), (0, 0, 0))] (by decide +kernel) rfl ?_
      refine hx_tsw 80 [(0, 44), (1, 55), (2, 61), (3, 68), (4, 74)] (by decide +kernel) ?_
      refine hsw_c (fun c2 => ?_) (fun c2 => ?_)
      · have c2 : x2 = 0 := c2
        refine hx_blk (npc := 54) (L' := [(0, .inr (.inl 86)), (1, .inl x1), (2, .inl x2)]) (st' := [.inl (m 87 (gx_w (1120 + x1)).toNat)]) (m' := m) [((44, .aload_n 0, 1, 0, 0, 0, 0), (0, 0, 0)), ((45, .getfield 7, 3, 10, 0, 5113, 0), (1, 86, 87)), ((48, .sipush 1120, 3, 0, 0, 0, 0), (0, 0, 0)), ((51, .iload_n 1, 1, 0, 0, 0, 0), (0, 0, 0)), ((52, .iadd, 1, 0, 0, 0, 0), (0, 0, 0)), ((53, .iaload, 1, 0, 0, 0, 0), (0, 87, 0))] (by decide +kernel) rfl ?_
        exact hx_reti (by decide +kernel) (h1 c1 c2)
      refine hsw_c (fun c3 => ?_) (fun c3 => ?_)
      · have c3 : x2 = 1 := c3
        refine hx_blk (npc := 57) (L' := [(0, .inr (.inl 86)), (1, .inl x1), (2, .inl x2)]) (st' := [.inl x1, .inr (.inl 86)]) (m' := m) [((55, .aload_n 0, 1, 0, 0, 0, 0), (0, 0, 0)), ((56, .iload_n 1, 1, 0, 0, 0, 0), (0, 0, 0))] (by decide +kernel) rfl ?_
        exact hx_call (E := (57, .invokevirtual 235, 3, 204, 0, 6187, 0)) (M' := yp_m204) [.inr (.inl 86), .inl x1] [] rfl (by decide +kernel) rfl ⟨rfl, rfl⟩ rfl rfl (hx_mono (h2 c1 c2 c3) (fun r m' h' => hx_pick [] h'))
      refine hsw_c (fun c4 => ?_) (fun c4 => ?_)
      · have c4 : x2 = 2 := c4
        refine hx_blk (npc := 64) (L' := [(0, .inr (.inl 86)), (1, .inl x1), (2, .inl x2)]) (st' := [.inl (-1), .inl x1, .inr (.inl 86)]) (m' := m) [((61, .aload_n 0, 1, 0, 0, 0, 0), (0, 0, 0)), ((62, .iload_n 1, 1, 0, 0, 0, 0), (0, 0, 0)), ((63, .iconst (-1), 1, 0, 0, 0, 0), (0, 0, 0))] (by decide +kernel) rfl ?_
        exact hx_call (E := (64, .invokevirtual 244, 3, 207, 0, 6198, 0)) (M' := yp_m207) [.inr (.inl 86), .inl x1, .inl (-1)] [] rfl (by decide +kernel) rfl ⟨rfl, rfl⟩ rfl rfl (hx_mono (h3 c1 c2 c3 c4) (fun r m' h' => hx_pick [] h'))
      refine hsw_c (fun c5 => ?_) (fun c5 => ?_)
      · have c5 : x2 = 3 := c5
        refine hx_blk (npc := 70) (L' := [(0, .inr (.inl 86)), (1, .inl x1), (2, .inl x2)]) (st' := [.inl x1, .inr (.inl 86)]) (m' := m) [((68, .aload_n 0, 1, 0, 0, 0, 0), (0, 0, 0)), ((69, .iload_n 1, 1, 0, 0, 0, 0), (0, 0, 0))] (by decide +kernel) rfl ?_
        exact hx_call (E := (70, .invokevirtual 306, 3, 219, 0, 7004, 0)) (M' := yp_m219) [.inr (.inl 86), .inl x1] [] rfl (by decide +kernel) rfl ⟨rfl, rfl⟩ rfl rfl (hx_mono (h4 c1 c2 c3 c4 c5) (fun r m' h' => hx_pick [] h'))
      refine hsw_c (fun c6 => ?_) (fun c6 => ?_)
      · have c6 : x2 = 4 := c6
        refine hx_blk (npc := 76) (L' := [(0, .inr (.inl 86)), (1, .inl x1), (2, .inl x2)]) (st' := [.inl x1, .inr (.inl 86)]) (m' := m) [((74, .aload_n 0, 1, 0, 0, 0, 0), (0, 0, 0)), ((75, .iload_n 1, 1, 0, 0, 0, 0), (0, 0, 0))] (by decide +kernel) rfl ?_
        exact hx_call (E := (76, .invokevirtual 309, 3, 221, 0, 7012, 0)) (M' := yp_m221) [.inr (.inl 86), .inl x1] [] rfl (by decide +kernel) rfl ⟨rfl, rfl⟩ rfl rfl (hx_mono (h5 c1 c2 c3 c4 c5 c6) (fun r m' h' => hx_pick [] h'))
      refine hsw_n ?_
      refine hx_blk (npc := 81) (L' := [(0, .inr (.inl 86)), (1, .inl x1), (2, .inl x2)]) (st' := [.inl (-1)]) (m' := m) [((80, .iconst (-1), 1, 0, 0, 0, 0), (0, 0, 0))] (by decide +kernel) rfl ?_
      exact hx_reti (by decide +kernel) (h6 c1 c2 c3 c4 c5 c6)
    · have c2 : (1 : Int) = 0 := by have h : ¬ ((1 : Int) ≠ 0) := c2; omega
      exfalso; omega
  · have c1 : ¬ (aPers (m 87) x1) := c1
    show hxn xs n yp_m218 5 [(0, .inr (.inl 86)), (1, .inl x1), (2, .inl x2)] [.inl 0] m Q
    refine hx_if .ne 10 (by decide +kernel) (fun c2 => ?_) (fun c2 => ?_)
    · have c2 : (0 : Int) ≠ 0 := c2
      exfalso; omega
    · have c2 : (0 : Int) = 0 := by have h : ¬ ((0 : Int) ≠ 0) := c2; omega
      refine hx_blk (npc := 9) (L' := [(0, .inr (.inl 86)), (1, .inl x1), (2, .inl x2)]) (st' := [.inl (-1)]) (m' := m) [((8, .iconst (-1), 1, 0, 0, 0, 0), (0, 0, 0))] (by decide +kernel) rfl ?_
      exact hx_reti (by decide +kernel) (h7 c1)

/-- personIs from 60 on -/
theorem hr218_60 {xs : List Int32} {n : Nat} {Q : hQ} {m : gx_M} {s0 : Int}
    (h1 : Q (some (.inl s0)) m) : hxn xs (n + 1) yp_m218 60 [] [.inl s0] m Q := by
  exact hx_reti (by decide +kernel) h1

/-- personIs from 67 on -/
theorem hr218_67 {xs : List Int32} {n : Nat} {Q : hQ} {m : gx_M} {s0 : Int}
    (h1 : Q (some (.inl s0)) m) : hxn xs (n + 1) yp_m218 67 [] [.inl s0] m Q := by
  exact hx_reti (by decide +kernel) h1

/-- personIs from 73 on -/
theorem hr218_73 {xs : List Int32} {n : Nat} {Q : hQ} {m : gx_M} {s0 : Int}
    (h1 : Q (some (.inl s0)) m) : hxn xs (n + 1) yp_m218 73 [] [.inl s0] m Q := by
  exact hx_reti (by decide +kernel) h1

/-- personIs from 79 on -/
theorem hr218_79 {xs : List Int32} {n : Nat} {Q : hQ} {m : gx_M} {s0 : Int}
    (h1 : Q (some (.inl s0)) m) : hxn xs (n + 1) yp_m218 79 [] [.inl s0] m Q := by
  exact hx_reti (by decide +kernel) h1

/-- years from 0 on -/
theorem hr222_0 {xs : List Int32} {n : Nat} {Q : hQ} {m : gx_M} {x1 x2 : Int}
    (h1 : (aPers (m 87) x1) → (0 ≤ x2 ∧ x2 ≤ 3) → hxn xs n yp_m222 24 [(0, .inr (.inl 86)), (1, .inl x1), (2, .inl x2), (3, .inl 0), (4, .inl 0)] [] m Q)
    (h2 : (aPers (m 87) x1) → (¬ (0 ≤ x2 ∧ x2 ≤ 3)) → Q (some (.inl (-1))) m)
    (h3 : (¬ (aPers (m 87) x1)) → Q (some (.inl (-1))) m) : hxn xs (n + 1) yp_m222 0 [(0, .inr (.inl 86)), (1, .inl x1), (2, .inl x2)] [] m Q := by
  refine hx_blks (npc := 2) (L' := [(0, .inr (.inl 86)), (1, .inl x1), (2, .inl x2)]) (st' := [.inl x1, .inr (.inl 86)]) (m' := m) ((0, .aload_n 0, 1, 0, 0, 0, 0), (0, 0, 0)) [((1, .iload_n 1, 1, 0, 0, 0, 0), (0, 0, 0))] (by decide +kernel) rfl ?_
  refine hx_call (E := (2, .invokevirtual 113, 3, 164, 0, 6031, 0)) (M' := yp_m164) [.inr (.inl 86), .inl x1] [] rfl (by decide +kernel) rfl ⟨rfl, rfl⟩ rfl rfl (hs164 (fun c1 => ?_) (fun c1 => ?_))
  · have c1 : aPers (m 87) x1 := c1
    show hxn xs n yp_m222 5 [(0, .inr (.inl 86)), (1, .inl x1), (2, .inl x2)] [.inl 1] m Q
    refine hx_if .eq 17 (by decide +kernel) (fun c2 => ?_) (fun c2 => ?_)
    · have c2 : (1 : Int) = 0 := c2
      exfalso; omega
    · have c2 : (1 : Int) ≠ 0 := c2
      refine hx_blk (npc := 11) (L' := [(0, .inr (.inl 86)), (1, .inl x1), (2, .inl x2)]) (st' := [.inl 3, .inl 0, .inl x2]) (m' := m) [((8, .iload_n 2, 1, 0, 0, 0, 0), (0, 0, 0)), ((9, .iconst 0, 1, 0, 0, 0, 0), (0, 0, 0)), ((10, .iconst 3, 1, 0, 0, 0, 0), (0, 0, 0))] (by decide +kernel) rfl ?_
      refine hx_call (E := (11, .invokestatic 108, 3, 162, 0, 6023, 0)) (M' := yp_m162) [.inl x2, .inl 0, .inl 3] [] rfl (by decide +kernel) rfl ⟨rfl, rfl⟩ rfl rfl (hs162 (fun c2 => ?_) (fun c2 => ?_))
      · have c2 : 0 ≤ x2 ∧ x2 ≤ 3 := c2
        show hxn xs n yp_m222 14 [(0, .inr (.inl 86)), (1, .inl x1), (2, .inl x2)] [.inl 1] m Q
        refine hx_if .ne 19 (by decide +kernel) (fun c3 => ?_) (fun c3 => ?_)
        · have c3 : (1 : Int) ≠ 0 := c3
          refine hx_blk (npc := 24) (L' := [(0, .inr (.inl 86)), (1, .inl x1), (2, .inl x2), (3, .inl 0), (4, .inl 0)]) (st' := []) (m' := m) [((19, .iconst 0, 1, 0, 0, 0, 0), (0, 0, 0)), ((20, .istore_n 3, 1, 0, 0, 0, 0), (0, 0, 0)), ((21, .iconst 0, 1, 0, 0, 0, 0), (0, 0, 0)), ((22, .istore 4, 2, 0, 0, 0, 0), (0, 0, 0))] (by decide +kernel) rfl ?_
          exact hx_pick [0, 1, 2, 3, 4] (h1 c1 c2)
        · have c3 : (1 : Int) = 0 := by have h : ¬ ((1 : Int) ≠ 0) := c3; omega
          exfalso; omega
      · have c2 : ¬ (0 ≤ x2 ∧ x2 ≤ 3) := c2
        show hxn xs n yp_m222 14 [(0, .inr (.inl 86)), (1, .inl x1), (2, .inl x2)] [.inl 0] m Q
        refine hx_if .ne 19 (by decide +kernel) (fun c3 => ?_) (fun c3 => ?_)
        · have c3 : (0 : Int) ≠ 0 := c3
          exfalso; omega
        · have c3 : (0 : Int) = 0 := by have h : ¬ ((0 : Int) ≠ 0) := c3; omega
          refine hx_blk (npc := 18) (L' := [(0, .inr (.inl 86)), (1, .inl x1), (2, .inl x2)]) (st' := [.inl (-1)]) (m' := m) [((17, .iconst (-1), 1, 0, 0, 0, 0), (0, 0, 0))] (by decide +kernel) rfl ?_
          exact hx_reti (by decide +kernel) (h2 c1 c2)
  · have c1 : ¬ (aPers (m 87) x1) := c1
    show hxn xs n yp_m222 5 [(0, .inr (.inl 86)), (1, .inl x1), (2, .inl x2)] [.inl 0] m Q
    refine hx_if .eq 17 (by decide +kernel) (fun c2 => ?_) (fun c2 => ?_)
    · have c2 : (0 : Int) = 0 := c2
      refine hx_blk (npc := 18) (L' := [(0, .inr (.inl 86)), (1, .inl x1), (2, .inl x2)]) (st' := [.inl (-1)]) (m' := m) [((17, .iconst (-1), 1, 0, 0, 0, 0), (0, 0, 0))] (by decide +kernel) rfl ?_
      exact hx_reti (by decide +kernel) (h3 c1)
    · have c2 : (0 : Int) ≠ 0 := c2
      exfalso; omega

/-- years from 24 on -/
theorem hr222_24 {xs : List Int32} {n : Nat} {Q : hQ} {m : gx_M} {x1 x2 x3 x4 : Int}
    (h1 : (20 ≤ x4) → Q (some (.inl x3)) m)
    (h2 : (x4 < 20) → (2 ≤ x2) → hxn xs n yp_m220 0 [(0, .inr (.inl 86)), (1, .inl (gx_w ((gx_w (20 * (Int.tmod x2 2))) + x4))), (2, .inl x1)] [] m (fun r m' => hxn xs n yp_m222 67 [(0, .inr (.inl 86)), (1, .inl x1), (2, .inl x2), (3, .inl x3), (4, .inl x4)] (hrs r ++ []) m' Q))
    (h3 : (x4 < 20) → (x2 < 2) → hxn xs n yp_m205 0 [(0, .inr (.inl 86)), (1, .inl (gx_w ((gx_w (20 * (Int.tmod x2 2))) + x4))), (2, .inl x1)] [] m (fun r m' => hxn xs n yp_m222 54 [(0, .inr (.inl 86)), (1, .inl x1), (2, .inl x2), (3, .inl x3), (4, .inl x4)] (hrs r ++ []) m' Q)) : hxn xs (n + 1) yp_m222 24 [(0, .inr (.inl 86)), (1, .inl x1), (2, .inl x2), (3, .inl x3), (4, .inl x4)] [] m Q := by
  refine hx_blks (npc := 28) (L' := [(0, .inr (.inl 86)), (1, .inl x1), (2, .inl x2), (3, .inl x3), (4, .inl x4)]) (st' := [.inl 20, .inl x4]) (m' := m) ((24, .iload 4, 2, 0, 0, 0, 0), (0, 0, 0)) [((26, .bipush 20, 2, 0, 0, 0, 0), (0, 0, 0))] (by decide +kernel) rfl ?_
  refine hx_cmp .ge 83 (by decide +kernel) (fun c1 => ?_) (fun c1 => ?_)
  · have c1 : 20 ≤ x4 := c1
    refine hx_blk (npc := 84) (L' := [(0, .inr (.inl 86)), (1, .inl x1), (2, .inl x2), (3, .inl x3), (4, .inl x4)]) (st' := [.inl x3]) (m' := m) [((83, .iload_n 3, 1, 0, 0, 0, 0), (0, 0, 0))] (by decide +kernel) rfl ?_
    exact hx_reti (by decide +kernel) (h1 c1)
  · have c1 : x4 < 20 := by have h : ¬ (20 ≤ x4) := c1; omega
    refine hx_blk (npc := 44) (L' := [(0, .inr (.inl 86)), (1, .inl x1), (2, .inl x2), (3, .inl x3), (4, .inl x4), (5, .inl (gx_w ((gx_w (20 * (Int.tmod x2 2))) + x4)))]) (st' := [.inl 2, .inl x2]) (m' := m) [((31, .bipush 20, 2, 0, 0, 0, 0), (0, 0, 0)), ((33, .iload_n 2, 1, 0, 0, 0, 0), (0, 0, 0)), ((34, .iconst 2, 1, 0, 0, 0, 0), (0, 0, 0)), ((35, .irem, 1, 0, 0, 0, 0), (0, 0, 0)), ((36, .imul, 1, 0, 0, 0, 0), (0, 0, 0)), ((37, .iload 4, 2, 0, 0, 0, 0), (0, 0, 0)), ((39, .iadd, 1, 0, 0, 0, 0), (0, 0, 0)), ((40, .istore 5, 2, 0, 0, 0, 0), (0, 0, 0)), ((42, .iload_n 2, 1, 0, 0, 0, 0), (0, 0, 0)), ((43, .iconst 2, 1, 0, 0, 0, 0), (0, 0, 0))] (by decide +kernel) rfl ?_
    refine hx_cmp .ge 60 (by decide +kernel) (fun c2 => ?_) (fun c2 => ?_)
    · have c2 : 2 ≤ x2 := c2
      refine hx_blk (npc := 64) (L' := [(0, .inr (.inl 86)), (1, .inl x1), (2, .inl x2), (3, .inl x3), (4, .inl x4), (5, .inl (gx_w ((gx_w (20 * (Int.tmod x2 2))) + x4)))]) (st' := [.inl x1, .inl (gx_w ((gx_w (20 * (Int.tmod x2 2))) + x4)), .inr (.inl 86)]) (m' := m) [((60, .aload_n 0, 1, 0, 0, 0, 0), (0, 0, 0)), ((61, .iload 5, 2, 0, 0, 0, 0), (0, 0, 0)), ((63, .iload_n 1, 1, 0, 0, 0, 0), (0, 0, 0))] (by decide +kernel) rfl ?_
      exact hx_call (E := (64, .invokevirtual 303, 3, 220, 0, 7008, 0)) (M' := yp_m220) [.inr (.inl 86), .inl (gx_w ((gx_w (20 * (Int.tmod x2 2))) + x4)), .inl x1] [] rfl (by decide +kernel) rfl ⟨rfl, rfl⟩ rfl rfl (hx_mono (h2 c1 c2) (fun r m' h' => hx_pick [0, 1, 2, 3, 4] h'))
    · have c2 : x2 < 2 := by have h : ¬ (2 ≤ x2) := c2; omega
      refine hx_blk (npc := 51) (L' := [(0, .inr (.inl 86)), (1, .inl x1), (2, .inl x2), (3, .inl x3), (4, .inl x4), (5, .inl (gx_w ((gx_w (20 * (Int.tmod x2 2))) + x4)))]) (st' := [.inl x1, .inl (gx_w ((gx_w (20 * (Int.tmod x2 2))) + x4)), .inr (.inl 86)]) (m' := m) [((47, .aload_n 0, 1, 0, 0, 0, 0), (0, 0, 0)), ((48, .iload 5, 2, 0, 0, 0, 0), (0, 0, 0)), ((50, .iload_n 1, 1, 0, 0, 0, 0), (0, 0, 0))] (by decide +kernel) rfl ?_
      exact hx_call (E := (51, .invokevirtual 117, 3, 205, 0, 6191, 0)) (M' := yp_m205) [.inr (.inl 86), .inl (gx_w ((gx_w (20 * (Int.tmod x2 2))) + x4)), .inl x1] [] rfl (by decide +kernel) rfl ⟨rfl, rfl⟩ rfl rfl (hx_mono (h3 c1 c2) (fun r m' h' => hx_pick [0, 1, 2, 3, 4] h'))

/-- years from 54 on -/
theorem hr222_54 {xs : List Int32} {n : Nat} {Q : hQ} {m : gx_M} {x1 x2 x3 x4 s0 : Int}
    (h1 : (s0 = 0) → hxn xs n yp_m222 24 [(0, .inr (.inl 86)), (1, .inl x1), (2, .inl x2), (3, .inl x3), (4, .inl (gx_w (x4 + 1)))] [] m Q)
    (h2 : (s0 ≠ 0) → hxn xs n yp_m222 24 [(0, .inr (.inl 86)), (1, .inl x1), (2, .inl x2), (3, .inl (gx_or x3 (gx_shl 1 x4))), (4, .inl (gx_w (x4 + 1)))] [] m Q) : hxn xs (n + 1) yp_m222 54 [(0, .inr (.inl 86)), (1, .inl x1), (2, .inl x2), (3, .inl x3), (4, .inl x4)] [.inl s0] m Q := by
  refine hx_ifs .eq 77 (by decide +kernel) (fun c1 => ?_) (fun c1 => ?_)
  · have c1 : s0 = 0 := c1
    refine hx_blk (npc := 24) (L' := [(0, .inr (.inl 86)), (1, .inl x1), (2, .inl x2), (3, .inl x3), (4, .inl (gx_w (x4 + 1)))]) (st' := []) (m' := m) [((77, .iinc 4 1, 3, 0, 0, 0, 0), (0, 0, 0)), ((80, .goto (-56), 3, 0, 0, 0, 0), (0, 0, 0))] (by decide +kernel) rfl ?_
    exact hx_pick [0, 1, 2, 3, 4] (h1 c1)
  · have c1 : s0 ≠ 0 := c1
    refine hx_blk (npc := 24) (L' := [(0, .inr (.inl 86)), (1, .inl x1), (2, .inl x2), (3, .inl (gx_or x3 (gx_shl 1 x4))), (4, .inl (gx_w (x4 + 1)))]) (st' := []) (m' := m) [((57, .goto 13, 3, 0, 0, 0, 0), (0, 0, 0)), ((70, .iload_n 3, 1, 0, 0, 0, 0), (0, 0, 0)), ((71, .iconst 1, 1, 0, 0, 0, 0), (0, 0, 0)), ((72, .iload 4, 2, 0, 0, 0, 0), (0, 0, 0)), ((74, .ishl, 1, 0, 0, 0, 0), (0, 0, 0)), ((75, .ior, 1, 0, 0, 0, 0), (0, 0, 0)), ((76, .istore_n 3, 1, 0, 0, 0, 0), (0, 0, 0)), ((77, .iinc 4 1, 3, 0, 0, 0, 0), (0, 0, 0)), ((80, .goto (-56), 3, 0, 0, 0, 0), (0, 0, 0))] (by decide +kernel) rfl ?_
    exact hx_pick [0, 1, 2, 3, 4] (h2 c1)

/-- years from 67 on -/
theorem hr222_67 {xs : List Int32} {n : Nat} {Q : hQ} {m : gx_M} {x1 x2 x3 x4 s0 : Int}
    (h1 : (s0 = 0) → hxn xs n yp_m222 24 [(0, .inr (.inl 86)), (1, .inl x1), (2, .inl x2), (3, .inl x3), (4, .inl (gx_w (x4 + 1)))] [] m Q)
    (h2 : (s0 ≠ 0) → hxn xs n yp_m222 24 [(0, .inr (.inl 86)), (1, .inl x1), (2, .inl x2), (3, .inl (gx_or x3 (gx_shl 1 x4))), (4, .inl (gx_w (x4 + 1)))] [] m Q) : hxn xs (n + 1) yp_m222 67 [(0, .inr (.inl 86)), (1, .inl x1), (2, .inl x2), (3, .inl x3), (4, .inl x4)] [.inl s0] m Q := by
  refine hx_ifs .eq 77 (by decide +kernel) (fun c1 => ?_) (fun c1 => ?_)
  · have c1 : s0 = 0 := c1
    refine hx_blk (npc := 24) (L' := [(0, .inr (.inl 86)), (1, .inl x1), (2, .inl x2), (3, .inl x3), (4, .inl (gx_w (x4 + 1)))]) (st' := []) (m' := m) [((77, .iinc 4 1, 3, 0, 0, 0, 0), (0, 0, 0)), ((80, .goto (-56), 3, 0, 0, 0, 0), (0, 0, 0))] (by decide +kernel) rfl ?_
    exact hx_pick [0, 1, 2, 3, 4] (h1 c1)
  · have c1 : s0 ≠ 0 := c1
    refine hx_blk (npc := 24) (L' := [(0, .inr (.inl 86)), (1, .inl x1), (2, .inl x2), (3, .inl (gx_or x3 (gx_shl 1 x4))), (4, .inl (gx_w (x4 + 1)))]) (st' := []) (m' := m) [((70, .iload_n 3, 1, 0, 0, 0, 0), (0, 0, 0)), ((71, .iconst 1, 1, 0, 0, 0, 0), (0, 0, 0)), ((72, .iload 4, 2, 0, 0, 0, 0), (0, 0, 0)), ((74, .ishl, 1, 0, 0, 0, 0), (0, 0, 0)), ((75, .ior, 1, 0, 0, 0, 0), (0, 0, 0)), ((76, .istore_n 3, 1, 0, 0, 0, 0), (0, 0, 0)), ((77, .iinc 4 1, 3, 0, 0, 0, 0), (0, 0, 0)), ((80, .goto (-56), 3, 0, 0, 0, 0), (0, 0, 0))] (by decide +kernel) rfl ?_
    exact hx_pick [0, 1, 2, 3, 4] (h2 c1)
end
section
/-! who has had a year, who holds one: by both -/
def hAnyB (f : Nat → Bool) : Nat → Bool
  | 0 => false
  | k + 1 => hAnyB f k || f k
theorem hAnyB_iff {f : Nat → Bool} : ∀ {k : Nat}, hAnyB f k = true ↔ ∃ j, j < k ∧ f j = true
  | 0 => ⟨fun h => (nomatch h), fun ⟨j, h, _⟩ => absurd h (Nat.not_lt_zero _)⟩
  | k + 1 => by
    show (hAnyB f k || f k) = true ↔ _
    rw [Bool.or_eq_true, hAnyB_iff]
    constructor
    · rintro (⟨j, h1, h2⟩ | h)
      · exact ⟨j, by omega, h2⟩
      · exact ⟨k, by omega, h⟩
    · rintro ⟨j, h1, h2⟩
      by_cases e : j = k
      · subst e
        exact .inr h2
      · exact .inl ⟨j, by omega, h2⟩
theorem hAnyB_f {f : Nat → Bool} {k : Nat} (h : ∀ j, j < k → f j = false) : hAnyB f k = false := by
  rw [Bool.eq_false_iff]
  intro q
  obtain ⟨j, h1, h2⟩ := hAnyB_iff.mp q
  rw [h j h1] at h2
  cases h2
def aHad (s : Nat → Int) (p : Int) (y : Nat) : Bool := decide (s (440 + y) = 1) && hAnyB (fun k => decide (s (480 + (16 * y + k)) = p)) (s (400 + y)).toNat
def aHeld (s : Nat → Int) (p : Int) (y : Nat) : Bool := decide (s (440 + y) = 1) && decide (s (280 + y) = p)
def hgr (s : Nat → Int) (y : Nat) : Nat → Nat
  | 0 => 0
  | k + 1 => hgr s y k ||| 2 ^ (s (480 + (16 * y + k))).toNat
def hGr (s : Nat → Int) (y : Nat) : Nat := if s (440 + y) = 1 then hgr s y (s (400 + y)).toNat else 0
theorem p2_lt {P : Nat} (h : P < 8) : 2 ^ P < 256 := by
  have : P = 0 ∨ P = 1 ∨ P = 2 ∨ P = 3 ∨ P = 4 ∨ P = 5 ∨ P = 6 ∨ P = 7 := by omega
  rcases this with rfl | rfl | rfl | rfl | rfl | rfl | rfl | rfl <;> decide
section SH
variable {s : Nat → Int} {y : Nat}
theorem hgr_lt (hs : sOK s) (hy : y < 40) : ∀ k, k ≤ 16 → hgr s y k < 256
  | 0, _ => by show 0 < 256; decide
  | k + 1, hk => by
    have ih := hgr_lt hs hy k (by omega)
    have hh := hs.hand (16 * y + k) (by omega)
    exact Nat.or_lt_two_pow (n := 8) ih (p2_lt (by omega))
theorem hgr_bit (hs : sOK s) (hy : y < 40) {p : Nat} : ∀ k, k ≤ 16 → (hgr s y k).testBit p = hAnyB (fun k => decide (s (480 + (16 * y + k)) = (p : Int))) k
  | 0, _ => Nat.zero_testBit p
  | k + 1, hk => by
    have ih := hgr_bit hs hy (p := p) k (by omega)
    have hh := hs.hand (16 * y + k) (by omega)
    show (hgr s y k ||| 2 ^ (s (480 + (16 * y + k))).toNat).testBit p = (hAnyB (fun k => decide (s (480 + (16 * y + k)) = (p : Int))) k || decide (s (480 + (16 * y + k)) = (p : Int)))
    rw [Nat.testBit_or, ih, Nat.testBit_two_pow]
    congr 1
    exact decide_eq_decide.mpr ⟨fun e => by omega, fun e => by omega⟩
theorem hGr_lt (hs : sOK s) (hy : y < 40) : hGr s y < 256 := by
  have hm := hs.many y hy
  unfold hGr
  split
  · exact hgr_lt hs hy _ (by omega)
  · decide
theorem hGr_bit (hs : sOK s) (hy : y < 40) {p : Nat} : (hGr s y).testBit p = aHad s (p : Int) y := by
  have hm := hs.many y hy
  unfold hGr aHad
  split
  · rename_i h
    rw [decide_eq_true h, Bool.true_and]
    exact hgr_bit hs hy _ (by omega)
  · rename_i h
    rw [decide_eq_false h, Bool.false_and]
    exact Nat.zero_testBit p
theorem hGr_tst (hs : sOK s) (hy : y < 40) {p : Nat} (hp : p < 8) : gx_and (gx_shr ((hGr s y : Nat) : Int) (p : Int)) 1 = if aHad s (p : Int) y = true then 1 else 0 := by
  have := hGr_lt hs hy
  rw [hibit (by omega) (by omega), hGr_bit hs hy]
end SH
section SC
variable {xs : List Int32} {n : Nat} {Q : hQ} {s : Nat → Int} {m : gx_M} {Y : Nat}
theorem c77 (hs : sOK s) (hB : sBk 5 s m) (hY : Y < 40) (h : Q (some (.inl ((hGr s Y : Nat) : Int))) m) : hxn xs n yp_m77 0 [(0, .inr (.inl 5)), (1, .inl (Y : Int))] [] m Q := by
  have hm := hs.many Y hY
  unfold hGr at h
  refine hx_dn (hr77_0 (fun c => ?_) (fun c => ?_))
  · rw [if_pos ((cY_iff hB hY).mp c)] at h
    have hl := hloop (N := (s (400 + Y)).toNat) (P := fun k => hxn xs n yp_m77 14 [(0, .inr (.inl 5)), (1, .inl (Y : Int)), (2, .inl ((hgr s Y k : Nat) : Int)), (3, .inl (k : Int))] [] m Q) (hx_dn (hr77_14 (fun _ => h) (fun _ _ => h) (fun _ c => ?_))) (fun k hk ih => ?_) 0 (Nat.zero_le _)
    · exact hl
    · rw [Int.toNat_natCast, sB5_many hB Y hY] at c
      exact absurd c (by omega)
    · have hh := hs.hand (16 * Y + k) (by omega)
      have hg := hgr_lt hs hY k (by omega)
      have e2 := p2_lt (P := (s (480 + (16 * Y + k))).toNat) (by omega)
      refine hx_dn (hr77_14 (fun c => absurd c (by omega)) (fun _ c => ?_) (fun _ _ => ?_))
      · rw [Int.toNat_natCast, sB5_many hB Y hY] at c
        exact absurd c (by omega)
      · have ei : (gx_w ((gx_w ((Y : Int) * 16)) + (k : Int))).toNat = 16 * Y + k := by
          rw [gx_w_id (x := (Y : Int) * 16) (by omega) (by omega), gx_w_id (by omega) (by omega)]
          omega
        obtain ⟨H, hH⟩ : ∃ H : Nat, s (480 + (16 * Y + k)) = (H : Int) := ⟨(s (480 + (16 * Y + k))).toNat, by omega⟩
        have ih : hxn xs n yp_m77 14 [(0, .inr (.inl 5)), (1, .inl (Y : Int)), (2, .inl ((hgr s Y k ||| 2 ^ (s (480 + (16 * Y + k))).toNat : Nat) : Int)), (3, .inl ((k + 1 : Nat) : Int))] [] m Q := ih
        rw [hH, Int.toNat_natCast] at ih e2
        rw [ei, sB5_hand hB _ (by omega), hH, hshl_one H (by omega), hor_nat (by omega) (by omega), ew_u (by omega)]
        exact ih
  · rw [if_neg (fun q => c ((cY_iff hB hY).mpr q))] at h
    exact h
theorem c76 {p : Nat} (hp : p < 8) (hs : sOK s) (hB : sBk 5 s m) (h : Q (some (.inr (.inr ((hmask (aHad s (p : Int)) 40 : Nat) : Int)))) m) : hxn xs n yp_m76 0 [(0, .inr (.inl 5)), (1, .inl (p : Int))] [] m Q := by
  have hl := hloop (N := 40) (P := fun y => hxn xs n yp_m76 5 [(0, .inr (.inl 5)), (1, .inl (p : Int)), (2, .inr (.inr ((hmask (aHad s (p : Int)) y : Nat) : Int))), (4, .inl (y : Int))] [] m Q) (hx_dn (hr76_5 (fun _ => h) (fun c => absurd c (by decide)))) (fun y hy ih => ?_) 0 (Nat.zero_le _)
  · exact hx_dn (hr76_0 hl)
  · refine hx_dn (hr76_5 (fun c => absurd c (by omega)) (fun _ => c77 hs hB hy ?_))
    have et := hGr_tst hs hy hp
    refine hx_dn (hr76_18 (fun c => ?_) (fun c => ?_))
    · rw [et] at c
      have hf : aHad s (p : Int) y = false := by
        split at c
        · cases c
        · rename_i g
          simpa using g
      rw [hmask_f hf] at ih
      rw [ew_u (by omega)]
      exact ih
    · rw [et] at c
      have hf : aHad s (p : Int) y = true := by
        split at c
        · assumption
        · exact absurd rfl c
      rw [hmask_t hf] at ih
      rw [ew_u (by omega), hmask_grow hy]
      exact ih
theorem c78 {p : Nat} (hs : sOK s) (hB : sBk 5 s m) (h : Q (some (.inr (.inr ((hmask (aHeld s (p : Int)) 40 : Nat) : Int)))) m) : hxn xs n yp_m78 0 [(0, .inr (.inl 5)), (1, .inl (p : Int))] [] m Q := by
  have hl := hloop (N := 40) (P := fun y => hxn xs n yp_m78 5 [(0, .inr (.inl 5)), (1, .inl (p : Int)), (2, .inr (.inr ((hmask (aHeld s (p : Int)) y : Nat) : Int))), (4, .inl (y : Int))] [] m Q) (hx_dn (hr78_5 (fun _ => h) (fun c => absurd c (by decide)) (fun c => absurd c (by decide)) (fun c => absurd c (by decide)))) (fun y hy ih => ?_) 0 (Nat.zero_le _)
  · exact hx_dn (hr78_0 hl)
  · have no : aHeld s (p : Int) y = false → hxn xs n yp_m78 5 [(0, .inr (.inl 5)), (1, .inl (p : Int)), (2, .inr (.inr ((hmask (aHeld s (p : Int)) y : Nat) : Int))), (4, .inl (gx_w ((y : Int) + 1)))] [] m Q := fun hf => by
      rw [hmask_f hf] at ih
      rw [ew_u (by omega)]
      exact ih
    have iff := cPw5_iff hs hB hy
    refine hx_dn (hr78_5 (fun c => absurd c (by omega)) (fun _ c d => no ?_) (fun _ c d => ?_) (fun _ c => no ?_))
    · rw [Int.toNat_natCast, sB5_hold hB y hy (iff.mp c).1] at d
      unfold aHeld
      rw [decide_eq_false d, Bool.and_false]
    · rw [Int.toNat_natCast, sB5_hold hB y hy (iff.mp c).1] at d
      have hf : aHeld s (p : Int) y = true := by
        unfold aHeld
        rw [decide_eq_true d, decide_eq_true (iff.mp c).1]
        rfl
      rw [hmask_t hf] at ih
      rw [ew_u (by omega), hmask_grow hy]
      exact ih
    · unfold aHeld
      rw [Bool.and_eq_false_iff, decide_eq_false_iff_not, decide_eq_false_iff_not]
      by_cases e : s (440 + y) = 1
      · right
        intro q
        exact c (iff.mpr ⟨e, by omega⟩)
      · exact .inl e
theorem c60 {p : Int} (hB : sBk 5 s m) (h : Q (some (.inr (.inr ((hmask (aOwn s p) 40 : Nat) : Int)))) m) : hxn xs n yp_m60 0 [(0, .inr (.inl 5)), (1, .inl p)] [] m Q := hs60 (sB5_yrs hB) (sB5_own hB) h
theorem c64 {f : Nat → Bool} (hB : sBk 5 s m) (h : Q (some (.inl (hOr f (fun j => s (80 + j)) 40))) m) : hxn xs n yp_m64 0 [(0, .inr (.inl 5)), (1, .inr (.inr ((hmask f 40 : Nat) : Int)))] [] m Q := hs64 (v := fun j => s (80 + j)) (sB5_skl hB) h
theorem c61 {f : Nat → Bool} (h : Q (some (.inl ((hcnt f 40 : Nat) : Int))) m) : hxn xs n yp_m61 0 [(0, .inr (.inr ((hmask f 40 : Nat) : Int)))] [] m Q := by
  refine hs61 (hmask_lt _ 40) ?_
  rw [hpop_hmask]
  exact h
/-! the reference -/
theorem r220 {p : Int} (hs : sOK (m 87)) (hY : Y < 40) (h : Q (some (.inl (if aHad (m 87) p Y = true then 1 else 0))) m) : hxn xs n yp_m220 0 [(0, .inr (.inl 86)), (1, .inl (Y : Int)), (2, .inl p)] [] m Q := by
  have hm := hs.many Y hY
  have hT := hs.there Y hY
  unfold aHad at h
  have hl := hloop (N := (m 87 (400 + Y)).toNat) (P := fun k => hAnyB (fun k => decide (m 87 (480 + (16 * Y + k)) = p)) k = false → hxn xs n yp_m220 2 [(0, .inr (.inl 86)), (1, .inl (Y : Int)), (2, .inl p), (3, .inl (k : Int))] [] m Q) (fun q => ?_) (fun k hk ih q => ?_) 0 (Nat.zero_le _) rfl
  · exact hx_dn (hr220_0 hl)
  · refine hx_dn (hr220_2 (fun _ => ?_) (fun c => ?_) (fun c => ?_) (fun c => ?_))
    · rw [q, Bool.and_false, if_neg (by decide)] at h
      exact h
    all_goals
      rw [w400 hY] at c
      exact absurd c (by omega)
  · have ei : (gx_w ((gx_w (480 + (gx_w (16 * (Y : Int))))) + (k : Int))).toNat = 480 + (16 * Y + k) := by
      rw [gx_w_id (x := 16 * (Y : Int)) (by omega) (by omega), gx_w_id (x := 480 + 16 * (Y : Int)) (by omega) (by omega), gx_w_id (by omega) (by omega)]
      omega
    refine hx_dn (hr220_2 (fun c => ?_) (fun _ d => ?_) (fun _ d e => ?_) (fun _ d e => ?_))
    · rw [w400 hY] at c
      exact absurd c (by omega)
    · rw [w440 hY] at d
      rw [decide_eq_false d, Bool.false_and, if_neg (by decide)] at h
      exact h
    · rw [ei] at e
      rw [ew_u (by omega)]
      refine ih ?_
      show (hAnyB _ k || decide (m 87 (480 + (16 * Y + k)) = p)) = false
      rw [q, decide_eq_false e]
      rfl
    · rw [w440 hY] at d
      rw [ei] at e
      have ha : hAnyB (fun k => decide (m 87 (480 + (16 * Y + k)) = p)) (m 87 (400 + Y)).toNat = true := hAnyB_iff.mpr ⟨k, hk, decide_eq_true e⟩
      rw [decide_eq_true d, ha, if_pos (show (true && true) = true from rfl)] at h
      exact h
theorem r219 {p : Int} (hs : sOK (m 87)) (h : Q (some (.inl ((hcnt (aHad (m 87) p) 40 : Nat) : Int))) m) : hxn xs n yp_m219 0 [(0, .inr (.inl 86)), (1, .inl p)] [] m Q := by
  have hl := hloop (N := 40) (P := fun y => hxn xs n yp_m219 4 [(0, .inr (.inl 86)), (1, .inl p), (2, .inl ((hcnt (aHad (m 87) p) y : Nat) : Int)), (3, .inl (y : Int))] [] m Q) (hx_dn (hr219_4 (fun _ => h) (fun c => absurd c (by decide)))) (fun y hy ih => ?_) 0 (Nat.zero_le _)
  · exact hx_dn (hr219_0 hl)
  · refine hx_dn (hr219_4 (fun c => absurd c (by omega)) (fun _ => r220 hs hy ?_))
    have hle := hcnt_le (aHad (m 87) p) y
    by_cases c : aHad (m 87) p y = true
    · rw [if_pos c]
      rw [hcnt_t c] at ih
      refine hx_dn (hr219_17 (fun c => absurd c (by decide)) (fun _ => ?_))
      rw [ew_u (by omega), gx_w_id (by omega) (by omega)]
      exact ih
    · rw [if_neg c]
      rw [hcnt_f (by simpa using c)] at ih
      refine hx_dn (hr219_17 (fun _ => ?_) (fun c => absurd rfl c))
      rw [ew_u (by omega), gx_w_id (by omega) (by omega)]
      exact ih
theorem r221 {p : Int} (hs : sOK (m 87)) (h : Q (some (.inl ((hcnt (aHeld (m 87) p) 40 : Nat) : Int))) m) : hxn xs n yp_m221 0 [(0, .inr (.inl 86)), (1, .inl p)] [] m Q := by
  have hl := hloop (N := 40) (P := fun y => hxn xs n yp_m221 4 [(0, .inr (.inl 86)), (1, .inl p), (2, .inl ((hcnt (aHeld (m 87) p) y : Nat) : Int)), (3, .inl (y : Int))] [] m Q) (hx_dn (hr221_4 (fun _ => h) (fun c => absurd c (by decide)) (fun c => absurd c (by decide)) (fun c => absurd c (by decide)))) (fun y hy ih => ?_) 0 (Nat.zero_le _)
  · exact hx_dn (hr221_0 hl)
  · have hle := hcnt_le (aHeld (m 87) p) y
    have no : aHeld (m 87) p y = false → hxn xs n yp_m221 4 [(0, .inr (.inl 86)), (1, .inl p), (2, .inl (gx_w (((hcnt (aHeld (m 87) p) y : Nat) : Int) + 0))), (3, .inl (gx_w ((y : Int) + 1)))] [] m Q := fun hf => by
      rw [hcnt_f hf] at ih
      rw [ew_u (by omega), gx_w_id (by omega) (by omega)]
      exact ih
    refine hx_dn (hr221_4 (fun c => absurd c (by omega)) (fun _ c d => no ?_) (fun _ c d => ?_) (fun _ c => no ?_))
    · rw [w280 hy] at d
      unfold aHeld
      rw [decide_eq_false d, Bool.and_false]
    · rw [w280 hy] at d
      have hf : aHeld (m 87) p y = true := by
        unfold aHeld
        rw [decide_eq_true d, decide_eq_true ((aYr_iff hy).mp c)]
        rfl
      rw [hcnt_t hf] at ih
      rw [ew_u (by omega), gx_w_id (by omega) (by omega)]
      exact ih
    · unfold aHeld
      rw [decide_eq_false (fun q => c ((aYr_iff hy).mpr q)), Bool.false_and]
theorem r207 {p : Int} (hs : sOK (m 87)) (h : Q (some (.inl (hOr (aOwn (m 87) p) (fun j => m 87 (80 + j)) 40))) m) : hxn xs n yp_m207 0 [(0, .inr (.inl 86)), (1, .inl p), (2, .inl (-1))] [] m Q := by
  refine hs207 hs.there ?_
  have e : hOr (aKn (m 87) p (-1)) (fun j => m 87 (80 + j)) 40 = hOr (aOwn (m 87) p) (fun j => m 87 (80 + j)) 40 := hOr_ext 40 (fun j _ => by
    unfold aKn
    rw [decide_eq_false (show ¬ ((j : Int) = -1) by omega)]
    simp) (fun _ _ => rfl)
  rw [e]
  exact h
theorem aPers_nat {x : Int} (h : aPers s x) : ∃ P : Nat, x = (P : Int) ∧ P < 8 ∧ gx_and (gx_shr (s 1128) (P : Int)) 1 = 1 := by
  obtain ⟨h1, h2, h3⟩ := h
  refine ⟨x.toNat, by omega, by omega, ?_⟩
  rw [Int.toNat_of_nonneg h1]
  exact h3
end SC
end
section
/-! common, regime: roads -/
/-- firstDate from 0 on -/
theorem hr144_0 {xs : List Int32} {n : Nat} {Q : hQ} {m : gx_M} {x2 : Int}
    (h1 : hxn xs n yp_m144 7 [(1, .inr (.inl 5)), (2, .inr (.inr x2)), (4, .inl (-2)), (5, .inl 0)] [] m Q) : hxn xs (n + 1) yp_m144 0 [(1, .inr (.inl 5)), (2, .inr (.inr x2))] [] m Q := by
  refine hx_blks (npc := 7) (L' := [(1, .inr (.inl 5)), (2, .inr (.inr x2)), (4, .inl (-2)), (5, .inl 0)]) (st' := []) (m' := m) ((0, .bipush (-2), 2, 0, 0, 0, 0), (0, 0, 0)) [((2, .istore 4, 2, 0, 0, 0, 0), (0, 0, 0)), ((4, .iconst 0, 1, 0, 0, 0, 0), (0, 0, 0)), ((5, .istore 5, 2, 0, 0, 0, 0), (0, 0, 0))] (by decide +kernel) rfl ?_
  exact hx_pick [1, 2, 4, 5] h1

/-- firstDate from 7 on -/
theorem hr144_7 {xs : List Int32} {n : Nat} {Q : hQ} {m : gx_M} {x2 x4 x5 : Int}
    (h1 : (40 ≤ x5) → Q (some (.inl x4)) m)
    (h2 : (x5 < 40) → ((hlcmp (hland (hlushr x2 x5) 1) 0) ≠ 0) → (x4 = (-2)) → hxn xs n yp_m144 7 [(1, .inr (.inl 5)), (2, .inr (.inr x2)), (4, .inl (m 7 (x5).toNat)), (5, .inl (gx_w (x5 + 1)))] [] m Q)
    (h3 : (x5 < 40) → ((hlcmp (hland (hlushr x2 x5) 1) 0) ≠ 0) → (x4 ≠ (-2)) → (x4 ≤ (m 7 (x5).toNat)) → hxn xs n yp_m144 7 [(1, .inr (.inl 5)), (2, .inr (.inr x2)), (4, .inl x4), (5, .inl (gx_w (x5 + 1)))] [] m Q)
    (h4 : (x5 < 40) → ((hlcmp (hland (hlushr x2 x5) 1) 0) ≠ 0) → (x4 ≠ (-2)) → ((m 7 (x5).toNat) < x4) → hxn xs n yp_m144 7 [(1, .inr (.inl 5)), (2, .inr (.inr x2)), (4, .inl (m 7 (x5).toNat)), (5, .inl (gx_w (x5 + 1)))] [] m Q)
    (h5 : (x5 < 40) → ((hlcmp (hland (hlushr x2 x5) 1) 0) = 0) → hxn xs n yp_m144 7 [(1, .inr (.inl 5)), (2, .inr (.inr x2)), (4, .inl x4), (5, .inl (gx_w (x5 + 1)))] [] m Q) : hxn xs (n + 1) yp_m144 7 [(1, .inr (.inl 5)), (2, .inr (.inr x2)), (4, .inl x4), (5, .inl x5)] [] m Q := by
  refine hx_blks (npc := 11) (L' := [(1, .inr (.inl 5)), (2, .inr (.inr x2)), (4, .inl x4), (5, .inl x5)]) (st' := [.inl 40, .inl x5]) (m' := m) ((7, .iload 5, 2, 0, 0, 0, 0), (0, 0, 0)) [((9, .bipush 40, 2, 0, 0, 0, 0), (0, 0, 0))] (by decide +kernel) rfl ?_
  refine hx_cmp .ge 62 (by decide +kernel) (fun c1 => ?_) (fun c1 => ?_)
  · have c1 : 40 ≤ x5 := c1
    refine hx_blk (npc := 64) (L' := [(1, .inr (.inl 5)), (2, .inr (.inr x2)), (4, .inl x4), (5, .inl x5)]) (st' := [.inl x4]) (m' := m) [((62, .iload 4, 2, 0, 0, 0, 0), (0, 0, 0))] (by decide +kernel) rfl ?_
    exact hx_reti (by decide +kernel) (h1 c1)
  · have c1 : x5 < 40 := by have h : ¬ (40 ≤ x5) := c1; omega
    refine hx_blk (npc := 22) (L' := [(1, .inr (.inl 5)), (2, .inr (.inr x2)), (4, .inl x4), (5, .inl x5)]) (st' := [.inl (hlcmp (hland (hlushr x2 x5) 1) 0)]) (m' := m) [((14, .lload_n 2, 1, 0, 0, 0, 0), (0, 0, 0)), ((15, .iload 5, 2, 0, 0, 0, 0), (0, 0, 0)), ((17, .lushr, 1, 0, 0, 0, 0), (0, 0, 0)), ((18, .lconst 1, 1, 0, 0, 0, 0), (0, 0, 0)), ((19, .land, 1, 0, 0, 0, 0), (0, 0, 0)), ((20, .lconst 0, 1, 0, 0, 0, 0), (0, 0, 0)), ((21, .lcmp, 1, 0, 0, 0, 0), (0, 0, 0))] (by decide +kernel) rfl ?_
    refine hx_if .ne 28 (by decide +kernel) (fun c2 => ?_) (fun c2 => ?_)
    · have c2 : (hlcmp (hland (hlushr x2 x5) 1) 0) ≠ 0 := c2
      refine hx_blk (npc := 32) (L' := [(1, .inr (.inl 5)), (2, .inr (.inr x2)), (4, .inl x4), (5, .inl x5)]) (st' := [.inl (-2), .inl x4]) (m' := m) [((28, .iload 4, 2, 0, 0, 0, 0), (0, 0, 0)), ((30, .bipush (-2), 2, 0, 0, 0, 0), (0, 0, 0))] (by decide +kernel) rfl ?_
      refine hx_cmp .eq 47 (by decide +kernel) (fun c3 => ?_) (fun c3 => ?_)
      · have c3 : x4 = (-2) := c3
        refine hx_blk (npc := 7) (L' := [(1, .inr (.inl 5)), (2, .inr (.inr x2)), (4, .inl (m 7 (x5).toNat)), (5, .inl (gx_w (x5 + 1)))]) (st' := []) (m' := m) [((47, .aload_n 1, 1, 0, 0, 0, 0), (0, 0, 0)), ((48, .getfield 33, 3, 2, 6, 1093, 0), (1, 5, 7)), ((51, .iload 5, 2, 0, 0, 0, 0), (0, 0, 0)), ((53, .iaload, 1, 0, 0, 0, 0), (0, 7, 0)), ((54, .istore 4, 2, 0, 0, 0, 0), (0, 0, 0)), ((56, .iinc 5 1, 3, 0, 0, 0, 0), (0, 0, 0)), ((59, .goto (-52), 3, 0, 0, 0, 0), (0, 0, 0))] (by decide +kernel) rfl ?_
        exact hx_pick [1, 2, 4, 5] (h2 c1 c2 c3)
      · have c3 : x4 ≠ (-2) := c3
        refine hx_blk (npc := 44) (L' := [(1, .inr (.inl 5)), (2, .inr (.inr x2)), (4, .inl x4), (5, .inl x5)]) (st' := [.inl x4, .inl (m 7 (x5).toNat)]) (m' := m) [((35, .aload_n 1, 1, 0, 0, 0, 0), (0, 0, 0)), ((36, .getfield 33, 3, 2, 6, 1093, 0), (1, 5, 7)), ((39, .iload 5, 2, 0, 0, 0, 0), (0, 0, 0)), ((41, .iaload, 1, 0, 0, 0, 0), (0, 7, 0)), ((42, .iload 4, 2, 0, 0, 0, 0), (0, 0, 0))] (by decide +kernel) rfl ?_
        refine hx_cmp .ge 56 (by decide +kernel) (fun c4 => ?_) (fun c4 => ?_)
        · have c4 : x4 ≤ (m 7 (x5).toNat) := c4
          refine hx_blk (npc := 7) (L' := [(1, .inr (.inl 5)), (2, .inr (.inr x2)), (4, .inl x4), (5, .inl (gx_w (x5 + 1)))]) (st' := []) (m' := m) [((56, .iinc 5 1, 3, 0, 0, 0, 0), (0, 0, 0)), ((59, .goto (-52), 3, 0, 0, 0, 0), (0, 0, 0))] (by decide +kernel) rfl ?_
          exact hx_pick [1, 2, 4, 5] (h3 c1 c2 c3 c4)
        · have c4 : (m 7 (x5).toNat) < x4 := by have h : ¬ (x4 ≤ (m 7 (x5).toNat)) := c4; omega
          refine hx_blk (npc := 7) (L' := [(1, .inr (.inl 5)), (2, .inr (.inr x2)), (4, .inl (m 7 (x5).toNat)), (5, .inl (gx_w (x5 + 1)))]) (st' := []) (m' := m) [((47, .aload_n 1, 1, 0, 0, 0, 0), (0, 0, 0)), ((48, .getfield 33, 3, 2, 6, 1093, 0), (1, 5, 7)), ((51, .iload 5, 2, 0, 0, 0, 0), (0, 0, 0)), ((53, .iaload, 1, 0, 0, 0, 0), (0, 7, 0)), ((54, .istore 4, 2, 0, 0, 0, 0), (0, 0, 0)), ((56, .iinc 5 1, 3, 0, 0, 0, 0), (0, 0, 0)), ((59, .goto (-52), 3, 0, 0, 0, 0), (0, 0, 0))] (by decide +kernel) rfl ?_
          exact hx_pick [1, 2, 4, 5] (h4 c1 c2 c3 c4)
    · have c2 : (hlcmp (hland (hlushr x2 x5) 1) 0) = 0 := by have h : ¬ ((hlcmp (hland (hlushr x2 x5) 1) 0) ≠ 0) := c2; omega
      refine hx_blk (npc := 7) (L' := [(1, .inr (.inl 5)), (2, .inr (.inr x2)), (4, .inl x4), (5, .inl (gx_w (x5 + 1)))]) (st' := []) (m' := m) [((25, .goto 31, 3, 0, 0, 0, 0), (0, 0, 0)), ((56, .iinc 5 1, 3, 0, 0, 0, 0), (0, 0, 0)), ((59, .goto (-52), 3, 0, 0, 0, 0), (0, 0, 0))] (by decide +kernel) rfl ?_
      exact hx_pick [1, 2, 4, 5] (h5 c1 c2)

/-- common from 0 on -/
theorem hr143_0 {xs : List Int32} {n : Nat} {Q : hQ} {m : gx_M} {x1 x2 x3 : Int}
    (h1 : (cPers 5 m x1) → (cPers 5 m x2) → (x1 = x2) → Q (some (.inl (-1))) m)
    (h2 : (cPers 5 m x1) → (cPers 5 m x2) → (x1 ≠ x2) → (x3 < 0) → Q (some (.inl (-1))) m)
    (h3 : (cPers 5 m x1) → (cPers 5 m x2) → (x1 ≠ x2) → (0 ≤ x3) → (x3 ≤ 2) → (x3 ≠ 0) → hxn xs n yp_m76 0 [(0, .inr (.inl 5)), (1, .inl x1)] [] m (fun r m' => hxn xs n yp_m143 82 [(0, .inr (.inl 0)), (2, .inl x2), (3, .inl x3)] (hrs r ++ []) m' Q))
    (h4 : (cPers 5 m x1) → (cPers 5 m x2) → (x1 ≠ x2) → (0 ≤ x3) → (x3 ≤ 2) → (x3 = 0) → hxn xs n yp_m60 0 [(0, .inr (.inl 5)), (1, .inl x1)] [] m (fun r m' => hxn xs n yp_m143 54 [(0, .inr (.inl 0)), (2, .inl x2)] (hrs r ++ [.inr (.inl 5)]) m' Q))
    (h5 : (cPers 5 m x1) → (cPers 5 m x2) → (x1 ≠ x2) → (0 ≤ x3) → (2 < x3) → Q (some (.inl (-1))) m)
    (h6 : (cPers 5 m x1) → (¬ (cPers 5 m x2)) → Q (some (.inl (-1))) m)
    (h7 : (¬ (cPers 5 m x1)) → Q (some (.inl (-1))) m) : hxn xs (n + 1) yp_m143 0 [(0, .inr (.inl 0)), (1, .inl x1), (2, .inl x2), (3, .inl x3)] [] m Q := by
  refine hx_blks (npc := 5) (L' := [(0, .inr (.inl 0)), (1, .inl x1), (2, .inl x2), (3, .inl x3)]) (st' := [.inl x1, .inr (.inl 5)]) (m' := m) ((0, .aload_n 0, 1, 0, 0, 0, 0), (0, 0, 0)) [((1, .getfield 26, 3, 9, 2, 2121, 0), (1, 0, 5)), ((4, .iload_n 1, 1, 0, 0, 0, 0), (0, 0, 0))] (by decide +kernel) rfl ?_
  refine hx_call (E := (5, .invokevirtual 94, 3, 13, 0, 2171, 0)) (M' := yp_m13) [.inr (.inl 5), .inl x1] [] rfl (by decide +kernel) rfl ⟨rfl, rfl⟩ rfl rfl (hs13_5 (fun c1 => ?_) (fun c1 => ?_))
  · have c1 : cPers 5 m x1 := c1
    show hxn xs n yp_m143 8 [(0, .inr (.inl 0)), (1, .inl x1), (2, .inl x2), (3, .inl x3)] [.inl 1] m Q
    refine hx_if .eq 36 (by decide +kernel) (fun c2 => ?_) (fun c2 => ?_)
    · have c2 : (1 : Int) = 0 := c2
      exfalso; omega
    · have c2 : (1 : Int) ≠ 0 := c2
      refine hx_blk (npc := 16) (L' := [(0, .inr (.inl 0)), (1, .inl x1), (2, .inl x2), (3, .inl x3)]) (st' := [.inl x2, .inr (.inl 5)]) (m' := m) [((11, .aload_n 0, 1, 0, 0, 0, 0), (0, 0, 0)), ((12, .getfield 26, 3, 9, 2, 2121, 0), (1, 0, 5)), ((15, .iload_n 2, 1, 0, 0, 0, 0), (0, 0, 0))] (by decide +kernel) rfl ?_
      refine hx_call (E := (16, .invokevirtual 94, 3, 13, 0, 2171, 0)) (M' := yp_m13) [.inr (.inl 5), .inl x2] [] rfl (by decide +kernel) rfl ⟨rfl, rfl⟩ rfl rfl (hs13_5 (fun c2 => ?_) (fun c2 => ?_))
      · have c2 : cPers 5 m x2 := c2
        show hxn xs n yp_m143 19 [(0, .inr (.inl 0)), (1, .inl x1), (2, .inl x2), (3, .inl x3)] [.inl 1] m Q
        refine hx_if .eq 36 (by decide +kernel) (fun c3 => ?_) (fun c3 => ?_)
        · have c3 : (1 : Int) = 0 := c3
          exfalso; omega
        · have c3 : (1 : Int) ≠ 0 := c3
          refine hx_blk (npc := 24) (L' := [(0, .inr (.inl 0)), (1, .inl x1), (2, .inl x2), (3, .inl x3)]) (st' := [.inl x2, .inl x1]) (m' := m) [((22, .iload_n 1, 1, 0, 0, 0, 0), (0, 0, 0)), ((23, .iload_n 2, 1, 0, 0, 0, 0), (0, 0, 0))] (by decide +kernel) rfl ?_
          refine hx_cmp .eq 36 (by decide +kernel) (fun c3 => ?_) (fun c3 => ?_)
          · have c3 : x1 = x2 := c3
            refine hx_blk (npc := 37) (L' := [(0, .inr (.inl 0)), (1, .inl x1), (2, .inl x2), (3, .inl x3)]) (st' := [.inl (-1)]) (m' := m) [((36, .iconst (-1), 1, 0, 0, 0, 0), (0, 0, 0))] (by decide +kernel) rfl ?_
            exact hx_reti (by decide +kernel) (h1 c1 c2 c3)
          · have c3 : x1 ≠ x2 := c3
            refine hx_blk (npc := 28) (L' := [(0, .inr (.inl 0)), (1, .inl x1), (2, .inl x2), (3, .inl x3)]) (st' := [.inl x3]) (m' := m) [((27, .iload_n 3, 1, 0, 0, 0, 0), (0, 0, 0))] (by decide +kernel) rfl ?_
            refine hx_if .lt 36 (by decide +kernel) (fun c4 => ?_) (fun c4 => ?_)
            · have c4 : x3 < 0 := c4
              refine hx_blk (npc := 37) (L' := [(0, .inr (.inl 0)), (1, .inl x1), (2, .inl x2), (3, .inl x3)]) (st' := [.inl (-1)]) (m' := m) [((36, .iconst (-1), 1, 0, 0, 0, 0), (0, 0, 0))] (by decide +kernel) rfl ?_
              exact hx_reti (by decide +kernel) (h2 c1 c2 c3 c4)
            · have c4 : 0 ≤ x3 := by have h : ¬ (x3 < 0) := c4; omega
              refine hx_blk (npc := 33) (L' := [(0, .inr (.inl 0)), (1, .inl x1), (2, .inl x2), (3, .inl x3)]) (st' := [.inl 2, .inl x3]) (m' := m) [((31, .iload_n 3, 1, 0, 0, 0, 0), (0, 0, 0)), ((32, .iconst 2, 1, 0, 0, 0, 0), (0, 0, 0))] (by decide +kernel) rfl ?_
              refine hx_cmp .le 38 (by decide +kernel) (fun c5 => ?_) (fun c5 => ?_)
              · have c5 : x3 ≤ 2 := c5
                refine hx_blk (npc := 39) (L' := [(0, .inr (.inl 0)), (1, .inl x1), (2, .inl x2), (3, .inl x3)]) (st' := [.inl x3]) (m' := m) [((38, .iload_n 3, 1, 0, 0, 0, 0), (0, 0, 0))] (by decide +kernel) rfl ?_
                refine hx_if .ne 74 (by decide +kernel) (fun c6 => ?_) (fun c6 => ?_)
                · have c6 : x3 ≠ 0 := c6
                  refine hx_blk (npc := 79) (L' := [(0, .inr (.inl 0)), (1, .inl x1), (2, .inl x2), (3, .inl x3)]) (st' := [.inl x1, .inr (.inl 5)]) (m' := m) [((74, .aload_n 0, 1, 0, 0, 0, 0), (0, 0, 0)), ((75, .getfield 26, 3, 9, 2, 2121, 0), (1, 0, 5)), ((78, .iload_n 1, 1, 0, 0, 0, 0), (0, 0, 0))] (by decide +kernel) rfl ?_
                  exact hx_call (E := (79, .invokevirtual 194, 3, 76, 0, 3218, 0)) (M' := yp_m76) [.inr (.inl 5), .inl x1] [] rfl (by decide +kernel) rfl ⟨rfl, rfl⟩ rfl rfl (hx_mono (h3 c1 c2 c3 c4 c5 c6) (fun r m' h' => hx_pick [0, 2, 3] h'))
                · have c6 : x3 = 0 := by have h : ¬ (x3 ≠ 0) := c6; omega
                  refine hx_blk (npc := 51) (L' := [(0, .inr (.inl 0)), (1, .inl x1), (2, .inl x2), (3, .inl x3)]) (st' := [.inl x1, .inr (.inl 5), .inr (.inl 5)]) (m' := m) [((42, .aload_n 0, 1, 0, 0, 0, 0), (0, 0, 0)), ((43, .getfield 26, 3, 9, 2, 2121, 0), (1, 0, 5)), ((46, .aload_n 0, 1, 0, 0, 0, 0), (0, 0, 0)), ((47, .getfield 26, 3, 9, 2, 2121, 0), (1, 0, 5)), ((50, .iload_n 1, 1, 0, 0, 0, 0), (0, 0, 0))] (by decide +kernel) rfl ?_
                  exact hx_call (E := (51, .invokevirtual 181, 3, 60, 0, 3215, 0)) (M' := yp_m60) [.inr (.inl 5), .inl x1] [.inr (.inl 5)] rfl (by decide +kernel) rfl ⟨rfl, rfl⟩ rfl rfl (hx_mono (h4 c1 c2 c3 c4 c5 c6) (fun r m' h' => hx_pick [0, 2] h'))
              · have c5 : 2 < x3 := by have h : ¬ (x3 ≤ 2) := c5; omega
                refine hx_blk (npc := 37) (L' := [(0, .inr (.inl 0)), (1, .inl x1), (2, .inl x2), (3, .inl x3)]) (st' := [.inl (-1)]) (m' := m) [((36, .iconst (-1), 1, 0, 0, 0, 0), (0, 0, 0))] (by decide +kernel) rfl ?_
                exact hx_reti (by decide +kernel) (h5 c1 c2 c3 c4 c5)
      · have c2 : ¬ (cPers 5 m x2) := c2
        show hxn xs n yp_m143 19 [(0, .inr (.inl 0)), (1, .inl x1), (2, .inl x2), (3, .inl x3)] [.inl 0] m Q
        refine hx_if .eq 36 (by decide +kernel) (fun c3 => ?_) (fun c3 => ?_)
        · have c3 : (0 : Int) = 0 := c3
          refine hx_blk (npc := 37) (L' := [(0, .inr (.inl 0)), (1, .inl x1), (2, .inl x2), (3, .inl x3)]) (st' := [.inl (-1)]) (m' := m) [((36, .iconst (-1), 1, 0, 0, 0, 0), (0, 0, 0))] (by decide +kernel) rfl ?_
          exact hx_reti (by decide +kernel) (h6 c1 c2)
        · have c3 : (0 : Int) ≠ 0 := c3
          exfalso; omega
  · have c1 : ¬ (cPers 5 m x1) := c1
    show hxn xs n yp_m143 8 [(0, .inr (.inl 0)), (1, .inl x1), (2, .inl x2), (3, .inl x3)] [.inl 0] m Q
    refine hx_if .eq 36 (by decide +kernel) (fun c2 => ?_) (fun c2 => ?_)
    · have c2 : (0 : Int) = 0 := c2
      refine hx_blk (npc := 37) (L' := [(0, .inr (.inl 0)), (1, .inl x1), (2, .inl x2), (3, .inl x3)]) (st' := [.inl (-1)]) (m' := m) [((36, .iconst (-1), 1, 0, 0, 0, 0), (0, 0, 0))] (by decide +kernel) rfl ?_
      exact hx_reti (by decide +kernel) (h7 c1)
    · have c2 : (0 : Int) ≠ 0 := c2
      exfalso; omega

/-- common from 54 on -/
theorem hr143_54 {xs : List Int32} {n : Nat} {Q : hQ} {m : gx_M} {x2 s1 : Int}
    (h1 : hxn xs n yp_m64 0 [(0, .inr (.inl 5)), (1, .inr (.inr s1))] [] m (fun r m' => hxn xs n yp_m143 57 [(0, .inr (.inl 0)), (2, .inl x2)] (hrs r ++ []) m' Q)) : hxn xs (n + 1) yp_m143 54 [(0, .inr (.inl 0)), (2, .inl x2)] [.inr (.inr s1), .inr (.inl 5)] m Q := by
  exact hx_calls (E := (54, .invokevirtual 191, 3, 64, 0, 3217, 0)) (M' := yp_m64) [.inr (.inl 5), .inr (.inr s1)] [] rfl (by decide +kernel) rfl ⟨rfl, rfl⟩ rfl rfl (hx_mono h1 (fun r m' h' => hx_pick [0, 2] h'))

/-- common from 57 on -/
theorem hr143_57 {xs : List Int32} {n : Nat} {Q : hQ} {m : gx_M} {x2 s0 : Int}
    (h1 : hxn xs n yp_m60 0 [(0, .inr (.inl 5)), (1, .inl x2)] [] m (fun r m' => hxn xs n yp_m143 69 [] (hrs r ++ [.inr (.inl 5), .inl s0]) m' Q)) : hxn xs (n + 1) yp_m143 57 [(0, .inr (.inl 0)), (2, .inl x2)] [.inl s0] m Q := by
  refine hx_blks (npc := 66) (L' := [(0, .inr (.inl 0)), (2, .inl x2)]) (st' := [.inl x2, .inr (.inl 5), .inr (.inl 5), .inl s0]) (m' := m) ((57, .aload_n 0, 1, 0, 0, 0, 0), (0, 0, 0)) [((58, .getfield 26, 3, 9, 2, 2121, 0), (1, 0, 5)), ((61, .aload_n 0, 1, 0, 0, 0, 0), (0, 0, 0)), ((62, .getfield 26, 3, 9, 2, 2121, 0), (1, 0, 5)), ((65, .iload_n 2, 1, 0, 0, 0, 0), (0, 0, 0))] (by decide +kernel) rfl ?_
  exact hx_call (E := (66, .invokevirtual 181, 3, 60, 0, 3215, 0)) (M' := yp_m60) [.inr (.inl 5), .inl x2] [.inr (.inl 5), .inl s0] rfl (by decide +kernel) rfl ⟨rfl, rfl⟩ rfl rfl (hx_mono h1 (fun r m' h' => hx_pick [] h'))

/-- common from 69 on -/
theorem hr143_69 {xs : List Int32} {n : Nat} {Q : hQ} {m : gx_M} {s0 s2 : Int}
    (h1 : hxn xs n yp_m64 0 [(0, .inr (.inl 5)), (1, .inr (.inr s2))] [] m (fun r m' => hxn xs n yp_m143 72 [] (hrs r ++ [.inl s0]) m' Q)) : hxn xs (n + 1) yp_m143 69 [] [.inr (.inr s2), .inr (.inl 5), .inl s0] m Q := by
  exact hx_calls (E := (69, .invokevirtual 191, 3, 64, 0, 3217, 0)) (M' := yp_m64) [.inr (.inl 5), .inr (.inr s2)] [.inl s0] rfl (by decide +kernel) rfl ⟨rfl, rfl⟩ rfl rfl (hx_mono h1 (fun r m' h' => hx_pick [] h'))

/-- common from 72 on -/
theorem hr143_72 {xs : List Int32} {n : Nat} {Q : hQ} {m : gx_M} {s0 s1 : Int}
    (h1 : Q (some (.inl (gx_and s0 s1))) m) : hxn xs (n + 1) yp_m143 72 [] [.inl s1, .inl s0] m Q := by
  refine hx_blks (npc := 73) (L' := []) (st' := [.inl (gx_and s0 s1)]) (m' := m) ((72, .iand, 1, 0, 0, 0, 0), (0, 0, 0)) [] (by decide +kernel) rfl ?_
  exact hx_reti (by decide +kernel) h1

/-- common from 82 on -/
theorem hr143_82 {xs : List Int32} {n : Nat} {Q : hQ} {m : gx_M} {x2 x3 s0 : Int}
    (h1 : hxn xs n yp_m76 0 [(0, .inr (.inl 5)), (1, .inl x2)] [] m (fun r m' => hxn xs n yp_m143 90 [(0, .inr (.inl 0)), (3, .inl x3)] (hrs r ++ [.inr (.inr s0)]) m' Q)) : hxn xs (n + 1) yp_m143 82 [(0, .inr (.inl 0)), (2, .inl x2), (3, .inl x3)] [.inr (.inr s0)] m Q := by
  refine hx_blks (npc := 87) (L' := [(0, .inr (.inl 0)), (2, .inl x2), (3, .inl x3)]) (st' := [.inl x2, .inr (.inl 5), .inr (.inr s0)]) (m' := m) ((82, .aload_n 0, 1, 0, 0, 0, 0), (0, 0, 0)) [((83, .getfield 26, 3, 9, 2, 2121, 0), (1, 0, 5)), ((86, .iload_n 2, 1, 0, 0, 0, 0), (0, 0, 0))] (by decide +kernel) rfl ?_
  exact hx_call (E := (87, .invokevirtual 194, 3, 76, 0, 3218, 0)) (M' := yp_m76) [.inr (.inl 5), .inl x2] [.inr (.inr s0)] rfl (by decide +kernel) rfl ⟨rfl, rfl⟩ rfl rfl (hx_mono h1 (fun r m' h' => hx_pick [0, 3] h'))

/-- common from 90 on -/
theorem hr143_90 {xs : List Int32} {n : Nat} {Q : hQ} {m : gx_M} {x3 s0 s1 : Int}
    (h1 : (x3 ≠ 1) → hxn xs n yp_m144 0 [(0, .inr (.inl 70)), (1, .inr (.inl 5)), (2, .inr (.inr (hland s0 s1)))] [] m (fun r m' => hxn xs n yp_m143 119 [] (hrs r ++ []) m' Q))
    (h2 : (x3 = 1) → hxn xs n yp_m61 0 [(0, .inr (.inr (hland s0 s1)))] [] m (fun r m' => hxn xs n yp_m143 103 [] (hrs r ++ []) m' Q)) : hxn xs (n + 1) yp_m143 90 [(0, .inr (.inl 0)), (3, .inl x3)] [.inr (.inr s1), .inr (.inr s0)] m Q := by
  refine hx_blks (npc := 95) (L' := [(0, .inr (.inl 0)), (3, .inl x3), (4, .inr (.inr (hland s0 s1)))]) (st' := [.inl 1, .inl x3]) (m' := m) ((90, .land, 1, 0, 0, 0, 0), (0, 0, 0)) [((91, .lstore 4, 2, 0, 0, 0, 0), (0, 0, 0)), ((93, .iload_n 3, 1, 0, 0, 0, 0), (0, 0, 0)), ((94, .iconst 1, 1, 0, 0, 0, 0), (0, 0, 0))] (by decide +kernel) rfl ?_
  refine hx_cmp .ne 106 (by decide +kernel) (fun c1 => ?_) (fun c1 => ?_)
  · have c1 : x3 ≠ 1 := c1
    refine hx_blk (npc := 116) (L' := [(0, .inr (.inl 0)), (3, .inl x3), (4, .inr (.inr (hland s0 s1)))]) (st' := [.inr (.inr (hland s0 s1)), .inr (.inl 5), .inr (.inl 70)]) (m' := m) [((106, .aload_n 0, 1, 0, 0, 0, 0), (0, 0, 0)), ((107, .getfield 67, 3, 9, 9, 2128, 0), (1, 0, 70)), ((110, .aload_n 0, 1, 0, 0, 0, 0), (0, 0, 0)), ((111, .getfield 26, 3, 9, 2, 2121, 0), (1, 0, 5)), ((114, .lload 4, 2, 0, 0, 0, 0), (0, 0, 0))] (by decide +kernel) rfl ?_
    exact hx_call (E := (116, .invokevirtual 312, 3, 144, 0, 5040, 0)) (M' := yp_m144) [.inr (.inl 70), .inr (.inl 5), .inr (.inr (hland s0 s1))] [] rfl (by decide +kernel) rfl ⟨rfl, rfl⟩ rfl rfl (hx_mono (h1 c1) (fun r m' h' => hx_pick [] h'))
  · have c1 : x3 = 1 := by have h : ¬ (x3 ≠ 1) := c1; omega
    refine hx_blk (npc := 100) (L' := [(0, .inr (.inl 0)), (3, .inl x3), (4, .inr (.inr (hland s0 s1)))]) (st' := [.inr (.inr (hland s0 s1))]) (m' := m) [((98, .lload 4, 2, 0, 0, 0, 0), (0, 0, 0))] (by decide +kernel) rfl ?_
    exact hx_call (E := (100, .invokestatic 185, 3, 61, 0, 3216, 0)) (M' := yp_m61) [.inr (.inr (hland s0 s1))] [] rfl (by decide +kernel) rfl ⟨rfl, rfl⟩ rfl rfl (hx_mono (h2 c1) (fun r m' h' => hx_pick [] h'))

/-- common from 103 on -/
theorem hr143_103 {xs : List Int32} {n : Nat} {Q : hQ} {m : gx_M} {s0 : Int}
    (h1 : Q (some (.inl s0)) m) : hxn xs (n + 1) yp_m143 103 [] [.inl s0] m Q := by
  refine hx_blks (npc := 119) (L' := []) (st' := [.inl s0]) (m' := m) ((103, .goto 16, 3, 0, 0, 0, 0), (0, 0, 0)) [] (by decide +kernel) rfl ?_
  exact hx_reti (by decide +kernel) h1

/-- common from 119 on -/
theorem hr143_119 {xs : List Int32} {n : Nat} {Q : hQ} {m : gx_M} {s0 : Int}
    (h1 : Q (some (.inl s0)) m) : hxn xs (n + 1) yp_m143 119 [] [.inl s0] m Q := by
  exact hx_reti (by decide +kernel) h1

/-- ofDates from 0 on -/
theorem hr98_0 {xs : List Int32} {n : Nat} {Q : hQ} {m : gx_M} {x1 x2 : Int}
    (h1 : hxn xs n yp_m98 5 [(0, .inr (.inl 5)), (1, .inl x1), (2, .inl x2), (3, .inr (.inr 0)), (5, .inl 0)] [] m Q) : hxn xs (n + 1) yp_m98 0 [(0, .inr (.inl 5)), (1, .inl x1), (2, .inl x2)] [] m Q := by
  refine hx_blks (npc := 5) (L' := [(0, .inr (.inl 5)), (1, .inl x1), (2, .inl x2), (3, .inr (.inr 0)), (5, .inl 0)]) (st' := []) (m' := m) ((0, .lconst 0, 1, 0, 0, 0, 0), (0, 0, 0)) [((1, .lstore_n 3, 1, 0, 0, 0, 0), (0, 0, 0)), ((2, .iconst 0, 1, 0, 0, 0, 0), (0, 0, 0)), ((3, .istore 5, 2, 0, 0, 0, 0), (0, 0, 0))] (by decide +kernel) rfl ?_
  exact hx_pick [0, 1, 2, 3, 5] h1

/-- ofDates from 5 on -/
theorem hr98_5 {xs : List Int32} {n : Nat} {Q : hQ} {m : gx_M} {x1 x2 x3 x5 : Int}
    (h1 : (40 ≤ x5) → Q (some (.inr (.inr x3))) m)
    (h2 : (x5 < 40) → (cYear 5 m x5) → ((m 7 (x5).toNat) < x1) → hxn xs n yp_m98 5 [(0, .inr (.inl 5)), (1, .inl x1), (2, .inl x2), (3, .inr (.inr x3)), (5, .inl (gx_w (x5 + 1)))] [] m Q)
    (h3 : (x5 < 40) → (cYear 5 m x5) → (x1 ≤ (m 7 (x5).toNat)) → (x2 < (m 7 (x5).toNat)) → hxn xs n yp_m98 5 [(0, .inr (.inl 5)), (1, .inl x1), (2, .inl x2), (3, .inr (.inr x3)), (5, .inl (gx_w (x5 + 1)))] [] m Q)
    (h4 : (x5 < 40) → (cYear 5 m x5) → (x1 ≤ (m 7 (x5).toNat)) → ((m 7 (x5).toNat) ≤ x2) → hxn xs n yp_m98 5 [(0, .inr (.inl 5)), (1, .inl x1), (2, .inl x2), (3, .inr (.inr (hlor x3 (hlshl 1 x5)))), (5, .inl (gx_w (x5 + 1)))] [] m Q)
    (h5 : (x5 < 40) → (¬ (cYear 5 m x5)) → hxn xs n yp_m98 5 [(0, .inr (.inl 5)), (1, .inl x1), (2, .inl x2), (3, .inr (.inr x3)), (5, .inl (gx_w (x5 + 1)))] [] m Q) : hxn xs (n + 1) yp_m98 5 [(0, .inr (.inl 5)), (1, .inl x1), (2, .inl x2), (3, .inr (.inr x3)), (5, .inl x5)] [] m Q := by
  refine hx_blks (npc := 9) (L' := [(0, .inr (.inl 5)), (1, .inl x1), (2, .inl x2), (3, .inr (.inr x3)), (5, .inl x5)]) (st' := [.inl 40, .inl x5]) (m' := m) ((5, .iload 5, 2, 0, 0, 0, 0), (0, 0, 0)) [((7, .bipush 40, 2, 0, 0, 0, 0), (0, 0, 0))] (by decide +kernel) rfl ?_
  refine hx_cmp .ge 56 (by decide +kernel) (fun c1 => ?_) (fun c1 => ?_)
  · have c1 : 40 ≤ x5 := c1
    refine hx_blk (npc := 57) (L' := [(0, .inr (.inl 5)), (1, .inl x1), (2, .inl x2), (3, .inr (.inr x3)), (5, .inl x5)]) (st' := [.inr (.inr x3)]) (m' := m) [((56, .lload_n 3, 1, 0, 0, 0, 0), (0, 0, 0))] (by decide +kernel) rfl ?_
    exact hx_retl (by decide +kernel) (h1 c1)
  · have c1 : x5 < 40 := by have h : ¬ (40 ≤ x5) := c1; omega
    refine hx_blk (npc := 15) (L' := [(0, .inr (.inl 5)), (1, .inl x1), (2, .inl x2), (3, .inr (.inr x3)), (5, .inl x5)]) (st' := [.inl x5, .inr (.inl 5)]) (m' := m) [((12, .aload_n 0, 1, 0, 0, 0, 0), (0, 0, 0)), ((13, .iload 5, 2, 0, 0, 0, 0), (0, 0, 0))] (by decide +kernel) rfl ?_
    refine hx_call (E := (15, .invokevirtual 71, 3, 17, 0, 2188, 0)) (M' := yp_m17) [.inr (.inl 5), .inl x5] [] rfl (by decide +kernel) rfl ⟨rfl, rfl⟩ rfl rfl (hs17_5 (fun c2 => ?_) (fun c2 => ?_))
    · have c2 : cYear 5 m x5 := c2
      show hxn xs n yp_m98 18 [(0, .inr (.inl 5)), (1, .inl x1), (2, .inl x2), (3, .inr (.inr x3)), (5, .inl x5)] [.inl 1] m Q
      refine hx_if .eq 50 (by decide +kernel) (fun c3 => ?_) (fun c3 => ?_)
      · have c3 : (1 : Int) = 0 := c3
        exfalso; omega
      · have c3 : (1 : Int) ≠ 0 := c3
        refine hx_blk (npc := 29) (L' := [(0, .inr (.inl 5)), (1, .inl x1), (2, .inl x2), (3, .inr (.inr x3)), (5, .inl x5)]) (st' := [.inl x1, .inl (m 7 (x5).toNat)]) (m' := m) [((21, .aload_n 0, 1, 0, 0, 0, 0), (0, 0, 0)), ((22, .getfield 19, 3, 2, 6, 1092, 0), (1, 5, 7)), ((25, .iload 5, 2, 0, 0, 0, 0), (0, 0, 0)), ((27, .iaload, 1, 0, 0, 0, 0), (0, 7, 0)), ((28, .iload_n 1, 1, 0, 0, 0, 0), (0, 0, 0))] (by decide +kernel) rfl ?_
        refine hx_cmp .lt 50 (by decide +kernel) (fun c3 => ?_) (fun c3 => ?_)
        · have c3 : (m 7 (x5).toNat) < x1 := c3
          refine hx_blk (npc := 5) (L' := [(0, .inr (.inl 5)), (1, .inl x1), (2, .inl x2), (3, .inr (.inr x3)), (5, .inl (gx_w (x5 + 1)))]) (st' := []) (m' := m) [((50, .iinc 5 1, 3, 0, 0, 0, 0), (0, 0, 0)), ((53, .goto (-48), 3, 0, 0, 0, 0), (0, 0, 0))] (by decide +kernel) rfl ?_
          exact hx_pick [0, 1, 2, 3, 5] (h2 c1 c2 c3)
        · have c3 : x1 ≤ (m 7 (x5).toNat) := by have h : ¬ ((m 7 (x5).toNat) < x1) := c3; omega
          refine hx_blk (npc := 40) (L' := [(0, .inr (.inl 5)), (1, .inl x1), (2, .inl x2), (3, .inr (.inr x3)), (5, .inl x5)]) (st' := [.inl x2, .inl (m 7 (x5).toNat)]) (m' := m) [((32, .aload_n 0, 1, 0, 0, 0, 0), (0, 0, 0)), ((33, .getfield 19, 3, 2, 6, 1092, 0), (1, 5, 7)), ((36, .iload 5, 2, 0, 0, 0, 0), (0, 0, 0)), ((38, .iaload, 1, 0, 0, 0, 0), (0, 7, 0)), ((39, .iload_n 2, 1, 0, 0, 0, 0), (0, 0, 0))] (by decide +kernel) rfl ?_
          refine hx_cmp .gt 50 (by decide +kernel) (fun c4 => ?_) (fun c4 => ?_)
          · have c4 : x2 < (m 7 (x5).toNat) := c4
            refine hx_blk (npc := 5) (L' := [(0, .inr (.inl 5)), (1, .inl x1), (2, .inl x2), (3, .inr (.inr x3)), (5, .inl (gx_w (x5 + 1)))]) (st' := []) (m' := m) [((50, .iinc 5 1, 3, 0, 0, 0, 0), (0, 0, 0)), ((53, .goto (-48), 3, 0, 0, 0, 0), (0, 0, 0))] (by decide +kernel) rfl ?_
            exact hx_pick [0, 1, 2, 3, 5] (h3 c1 c2 c3 c4)
          · have c4 : (m 7 (x5).toNat) ≤ x2 := by have h : ¬ (x2 < (m 7 (x5).toNat)) := c4; omega
            refine hx_blk (npc := 5) (L' := [(0, .inr (.inl 5)), (1, .inl x1), (2, .inl x2), (3, .inr (.inr (hlor x3 (hlshl 1 x5)))), (5, .inl (gx_w (x5 + 1)))]) (st' := []) (m' := m) [((43, .lload_n 3, 1, 0, 0, 0, 0), (0, 0, 0)), ((44, .lconst 1, 1, 0, 0, 0, 0), (0, 0, 0)), ((45, .iload 5, 2, 0, 0, 0, 0), (0, 0, 0)), ((47, .lshl, 1, 0, 0, 0, 0), (0, 0, 0)), ((48, .lor, 1, 0, 0, 0, 0), (0, 0, 0)), ((49, .lstore_n 3, 1, 0, 0, 0, 0), (0, 0, 0)), ((50, .iinc 5 1, 3, 0, 0, 0, 0), (0, 0, 0)), ((53, .goto (-48), 3, 0, 0, 0, 0), (0, 0, 0))] (by decide +kernel) rfl ?_
            exact hx_pick [0, 1, 2, 3, 5] (h4 c1 c2 c3 c4)
    · have c2 : ¬ (cYear 5 m x5) := c2
      show hxn xs n yp_m98 18 [(0, .inr (.inl 5)), (1, .inl x1), (2, .inl x2), (3, .inr (.inr x3)), (5, .inl x5)] [.inl 0] m Q
      refine hx_if .eq 50 (by decide +kernel) (fun c3 => ?_) (fun c3 => ?_)
      · have c3 : (0 : Int) = 0 := c3
        refine hx_blk (npc := 5) (L' := [(0, .inr (.inl 5)), (1, .inl x1), (2, .inl x2), (3, .inr (.inr x3)), (5, .inl (gx_w (x5 + 1)))]) (st' := []) (m' := m) [((50, .iinc 5 1, 3, 0, 0, 0, 0), (0, 0, 0)), ((53, .goto (-48), 3, 0, 0, 0, 0), (0, 0, 0))] (by decide +kernel) rfl ?_
        exact hx_pick [0, 1, 2, 3, 5] (h5 c1 c2)
      · have c3 : (0 : Int) ≠ 0 := c3
        exfalso; omega

/-- regimePay from 0 on -/
theorem hr152_0 {xs : List Int32} {n : Nat} {Q : hQ} {m : gx_M} {x2 x3 x4 : Int}
    (h1 : hxn xs n yp_m60 0 [(0, .inr (.inl 5)), (1, .inl x2)] [] m (fun r m' => hxn xs n yp_m152 5 [(1, .inr (.inl 5)), (3, .inl x3), (4, .inl x4)] (hrs r ++ []) m' Q)) : hxn xs (n + 1) yp_m152 0 [(1, .inr (.inl 5)), (2, .inl x2), (3, .inl x3), (4, .inl x4)] [] m Q := by
  refine hx_blks (npc := 2) (L' := [(1, .inr (.inl 5)), (2, .inl x2), (3, .inl x3), (4, .inl x4)]) (st' := [.inl x2, .inr (.inl 5)]) (m' := m) ((0, .aload_n 1, 1, 0, 0, 0, 0), (0, 0, 0)) [((1, .iload_n 2, 1, 0, 0, 0, 0), (0, 0, 0))] (by decide +kernel) rfl ?_
  exact hx_call (E := (2, .invokevirtual 42, 3, 60, 0, 4024, 0)) (M' := yp_m60) [.inr (.inl 5), .inl x2] [] rfl (by decide +kernel) rfl ⟨rfl, rfl⟩ rfl rfl (hx_mono h1 (fun r m' h' => hx_pick [1, 3, 4] h'))

/-- regimePay from 5 on -/
theorem hr152_5 {xs : List Int32} {n : Nat} {Q : hQ} {m : gx_M} {x3 x4 s0 : Int}
    (h1 : hxn xs n yp_m152 13 [(1, .inr (.inl 5)), (3, .inl x3), (4, .inl x4), (5, .inr (.inr s0)), (7, .inl 0), (8, .inl x3)] [] m Q) : hxn xs (n + 1) yp_m152 5 [(1, .inr (.inl 5)), (3, .inl x3), (4, .inl x4)] [.inr (.inr s0)] m Q := by
  refine hx_blks (npc := 13) (L' := [(1, .inr (.inl 5)), (3, .inl x3), (4, .inl x4), (5, .inr (.inr s0)), (7, .inl 0), (8, .inl x3)]) (st' := []) (m' := m) ((5, .lstore 5, 2, 0, 0, 0, 0), (0, 0, 0)) [((7, .iconst 0, 1, 0, 0, 0, 0), (0, 0, 0)), ((8, .istore 7, 2, 0, 0, 0, 0), (0, 0, 0)), ((10, .iload_n 3, 1, 0, 0, 0, 0), (0, 0, 0)), ((11, .istore 8, 2, 0, 0, 0, 0), (0, 0, 0))] (by decide +kernel) rfl ?_
  exact hx_pick [1, 3, 4, 5, 7, 8] h1

/-- regimePay from 13 on -/
theorem hr152_13 {xs : List Int32} {n : Nat} {Q : hQ} {m : gx_M} {x3 x4 x5 x7 x8 : Int}
    (h1 : (x4 < x8) → hxn xs n yp_m98 0 [(0, .inr (.inl 5)), (1, .inl x3), (2, .inl x4)] [] m (fun r m' => hxn xs n yp_m152 64 [] (hrs r ++ [.inr (.inr x5), .inr (.inl 5), .inl x7]) m' Q))
    (h2 : (x8 ≤ x4) → (99 < x8) → hxn xs n yp_m98 0 [(0, .inr (.inl 5)), (1, .inl x3), (2, .inl x4)] [] m (fun r m' => hxn xs n yp_m152 64 [] (hrs r ++ [.inr (.inr x5), .inr (.inl 5), .inl x7]) m' Q))
    (h3 : (x8 ≤ x4) → (x8 ≤ 99) → hxn xs n yp_m98 0 [(0, .inr (.inl 5)), (1, .inl x8), (2, .inl x8)] [] m (fun r m' => hxn xs n yp_m152 37 [(1, .inr (.inl 5)), (3, .inl x3), (4, .inl x4), (5, .inr (.inr x5)), (7, .inl x7), (8, .inl x8)] (hrs r ++ [.inr (.inr x5)]) m' Q)) : hxn xs (n + 1) yp_m152 13 [(1, .inr (.inl 5)), (3, .inl x3), (4, .inl x4), (5, .inr (.inr x5)), (7, .inl x7), (8, .inl x8)] [] m Q := by
  refine hx_blks (npc := 17) (L' := [(1, .inr (.inl 5)), (3, .inl x3), (4, .inl x4), (5, .inr (.inr x5)), (7, .inl x7), (8, .inl x8)]) (st' := [.inl x4, .inl x8]) (m' := m) ((13, .iload 8, 2, 0, 0, 0, 0), (0, 0, 0)) [((15, .iload 4, 2, 0, 0, 0, 0), (0, 0, 0))] (by decide +kernel) rfl ?_
  refine hx_cmp .gt 52 (by decide +kernel) (fun c1 => ?_) (fun c1 => ?_)
  · have c1 : x4 < x8 := c1
    refine hx_blk (npc := 61) (L' := [(1, .inr (.inl 5)), (3, .inl x3), (4, .inl x4), (5, .inr (.inr x5)), (7, .inl x7), (8, .inl x8)]) (st' := [.inl x4, .inl x3, .inr (.inl 5), .inr (.inr x5), .inr (.inl 5), .inl x7]) (m' := m) [((52, .iload 7, 2, 0, 0, 0, 0), (0, 0, 0)), ((54, .aload_n 1, 1, 0, 0, 0, 0), (0, 0, 0)), ((55, .lload 5, 2, 0, 0, 0, 0), (0, 0, 0)), ((57, .aload_n 1, 1, 0, 0, 0, 0), (0, 0, 0)), ((58, .iload_n 3, 1, 0, 0, 0, 0), (0, 0, 0)), ((59, .iload 4, 2, 0, 0, 0, 0), (0, 0, 0))] (by decide +kernel) rfl ?_
    exact hx_call (E := (61, .invokevirtual 84, 3, 98, 0, 4068, 0)) (M' := yp_m98) [.inr (.inl 5), .inl x3, .inl x4] [.inr (.inr x5), .inr (.inl 5), .inl x7] rfl (by decide +kernel) rfl ⟨rfl, rfl⟩ rfl rfl (hx_mono (h1 c1) (fun r m' h' => hx_pick [] h'))
  · have c1 : x8 ≤ x4 := by have h : ¬ (x4 < x8) := c1; omega
    refine hx_blk (npc := 24) (L' := [(1, .inr (.inl 5)), (3, .inl x3), (4, .inl x4), (5, .inr (.inr x5)), (7, .inl x7), (8, .inl x8)]) (st' := [.inl 99, .inl x8]) (m' := m) [((20, .iload 8, 2, 0, 0, 0, 0), (0, 0, 0)), ((22, .bipush 99, 2, 0, 0, 0, 0), (0, 0, 0))] (by decide +kernel) rfl ?_
    refine hx_cmp .gt 52 (by decide +kernel) (fun c2 => ?_) (fun c2 => ?_)
    · have c2 : 99 < x8 := c2
      refine hx_blk (npc := 61) (L' := [(1, .inr (.inl 5)), (3, .inl x3), (4, .inl x4), (5, .inr (.inr x5)), (7, .inl x7), (8, .inl x8)]) (st' := [.inl x4, .inl x3, .inr (.inl 5), .inr (.inr x5), .inr (.inl 5), .inl x7]) (m' := m) [((52, .iload 7, 2, 0, 0, 0, 0), (0, 0, 0)), ((54, .aload_n 1, 1, 0, 0, 0, 0), (0, 0, 0)), ((55, .lload 5, 2, 0, 0, 0, 0), (0, 0, 0)), ((57, .aload_n 1, 1, 0, 0, 0, 0), (0, 0, 0)), ((58, .iload_n 3, 1, 0, 0, 0, 0), (0, 0, 0)), ((59, .iload 4, 2, 0, 0, 0, 0), (0, 0, 0))] (by decide +kernel) rfl ?_
      exact hx_call (E := (61, .invokevirtual 84, 3, 98, 0, 4068, 0)) (M' := yp_m98) [.inr (.inl 5), .inl x3, .inl x4] [.inr (.inr x5), .inr (.inl 5), .inl x7] rfl (by decide +kernel) rfl ⟨rfl, rfl⟩ rfl rfl (hx_mono (h2 c1 c2) (fun r m' h' => hx_pick [] h'))
    · have c2 : x8 ≤ 99 := by have h : ¬ (99 < x8) := c2; omega
      refine hx_blk (npc := 34) (L' := [(1, .inr (.inl 5)), (3, .inl x3), (4, .inl x4), (5, .inr (.inr x5)), (7, .inl x7), (8, .inl x8)]) (st' := [.inl x8, .inl x8, .inr (.inl 5), .inr (.inr x5)]) (m' := m) [((27, .lload 5, 2, 0, 0, 0, 0), (0, 0, 0)), ((29, .aload_n 1, 1, 0, 0, 0, 0), (0, 0, 0)), ((30, .iload 8, 2, 0, 0, 0, 0), (0, 0, 0)), ((32, .iload 8, 2, 0, 0, 0, 0), (0, 0, 0))] (by decide +kernel) rfl ?_
      exact hx_call (E := (34, .invokevirtual 84, 3, 98, 0, 4068, 0)) (M' := yp_m98) [.inr (.inl 5), .inl x8, .inl x8] [.inr (.inr x5)] rfl (by decide +kernel) rfl ⟨rfl, rfl⟩ rfl rfl (hx_mono (h3 c1 c2) (fun r m' h' => hx_pick [1, 3, 4, 5, 7, 8] h'))

/-- regimePay from 37 on -/
theorem hr152_37 {xs : List Int32} {n : Nat} {Q : hQ} {m : gx_M} {x3 x4 x5 x7 x8 s0 s1 : Int}
    (h1 : ((hlcmp (hland s0 s1) 0) = 0) → hxn xs n yp_m152 13 [(1, .inr (.inl 5)), (3, .inl x3), (4, .inl x4), (5, .inr (.inr x5)), (7, .inl x7), (8, .inl (gx_w (x8 + 1)))] [] m Q)
    (h2 : ((hlcmp (hland s0 s1) 0) ≠ 0) → hxn xs n yp_m152 13 [(1, .inr (.inl 5)), (3, .inl x3), (4, .inl x4), (5, .inr (.inr x5)), (7, .inl (gx_w (x7 + 10))), (8, .inl (gx_w (x8 + 1)))] [] m Q) : hxn xs (n + 1) yp_m152 37 [(1, .inr (.inl 5)), (3, .inl x3), (4, .inl x4), (5, .inr (.inr x5)), (7, .inl x7), (8, .inl x8)] [.inr (.inr s1), .inr (.inr s0)] m Q := by
  refine hx_blks (npc := 40) (L' := [(1, .inr (.inl 5)), (3, .inl x3), (4, .inl x4), (5, .inr (.inr x5)), (7, .inl x7), (8, .inl x8)]) (st' := [.inl (hlcmp (hland s0 s1) 0)]) (m' := m) ((37, .land, 1, 0, 0, 0, 0), (0, 0, 0)) [((38, .lconst 0, 1, 0, 0, 0, 0), (0, 0, 0)), ((39, .lcmp, 1, 0, 0, 0, 0), (0, 0, 0))] (by decide +kernel) rfl ?_
  refine hx_if .eq 46 (by decide +kernel) (fun c1 => ?_) (fun c1 => ?_)
  · have c1 : (hlcmp (hland s0 s1) 0) = 0 := c1
    refine hx_blk (npc := 13) (L' := [(1, .inr (.inl 5)), (3, .inl x3), (4, .inl x4), (5, .inr (.inr x5)), (7, .inl x7), (8, .inl (gx_w (x8 + 1)))]) (st' := []) (m' := m) [((46, .iinc 8 1, 3, 0, 0, 0, 0), (0, 0, 0)), ((49, .goto (-36), 3, 0, 0, 0, 0), (0, 0, 0))] (by decide +kernel) rfl ?_
    exact hx_pick [1, 3, 4, 5, 7, 8] (h1 c1)
  · have c1 : (hlcmp (hland s0 s1) 0) ≠ 0 := c1
    refine hx_blk (npc := 13) (L' := [(1, .inr (.inl 5)), (3, .inl x3), (4, .inl x4), (5, .inr (.inr x5)), (7, .inl (gx_w (x7 + 10))), (8, .inl (gx_w (x8 + 1)))]) (st' := []) (m' := m) [((43, .iinc 7 10, 3, 0, 0, 0, 0), (0, 0, 0)), ((46, .iinc 8 1, 3, 0, 0, 0, 0), (0, 0, 0)), ((49, .goto (-36), 3, 0, 0, 0, 0), (0, 0, 0))] (by decide +kernel) rfl ?_
    exact hx_pick [1, 3, 4, 5, 7, 8] (h2 c1)

/-- regimePay from 64 on -/
theorem hr152_64 {xs : List Int32} {n : Nat} {Q : hQ} {m : gx_M} {s0 s2 s3 : Int}
    (h1 : hxn xs n yp_m64 0 [(0, .inr (.inl 5)), (1, .inr (.inr (hland s2 s3)))] [] m (fun r m' => hxn xs n yp_m152 68 [] (hrs r ++ [.inl s0]) m' Q)) : hxn xs (n + 1) yp_m152 64 [] [.inr (.inr s3), .inr (.inr s2), .inr (.inl 5), .inl s0] m Q := by
  refine hx_blks (npc := 65) (L' := []) (st' := [.inr (.inr (hland s2 s3)), .inr (.inl 5), .inl s0]) (m' := m) ((64, .land, 1, 0, 0, 0, 0), (0, 0, 0)) [] (by decide +kernel) rfl ?_
  exact hx_call (E := (65, .invokevirtual 129, 3, 64, 0, 5077, 0)) (M' := yp_m64) [.inr (.inl 5), .inr (.inr (hland s2 s3))] [.inl s0] rfl (by decide +kernel) rfl ⟨rfl, rfl⟩ rfl rfl (hx_mono h1 (fun r m' h' => hx_pick [] h'))

/-- regimePay from 68 on -/
theorem hr152_68 {xs : List Int32} {n : Nat} {Q : hQ} {m : gx_M} {s0 s1 : Int}
    (h1 : hxn xs n yp_m63 0 [(0, .inl s1)] [] m (fun r m' => hxn xs n yp_m152 71 [] (hrs r ++ [.inl s0]) m' Q)) : hxn xs (n + 1) yp_m152 68 [] [.inl s1, .inl s0] m Q := by
  exact hx_calls (E := (68, .invokestatic 62, 3, 63, 0, 4051, 0)) (M' := yp_m63) [.inl s1] [.inl s0] rfl (by decide +kernel) rfl ⟨rfl, rfl⟩ rfl rfl (hx_mono h1 (fun r m' h' => hx_pick [] h'))

/-- regimePay from 71 on -/
theorem hr152_71 {xs : List Int32} {n : Nat} {Q : hQ} {m : gx_M} {s0 s1 : Int}
    (h1 : Q (some (.inl (gx_w (s0 + s1)))) m) : hxn xs (n + 1) yp_m152 71 [] [.inl s1, .inl s0] m Q := by
  refine hx_blks (npc := 72) (L' := []) (st' := [.inl (gx_w (s0 + s1))]) (m' := m) ((71, .iadd, 1, 0, 0, 0, 0), (0, 0, 0)) [] (by decide +kernel) rfl ?_
  exact hx_reti (by decide +kernel) h1

/-- regime from 0 on -/
theorem hr151_0 {xs : List Int32} {n : Nat} {Q : hQ} {m : gx_M} {x1 x2 x3 : Int}
    (h1 : (cPers 5 m x1) → (x2 < 0) → Q (some (.inl (-1))) m)
    (h2 : (cPers 5 m x1) → (0 ≤ x2) → (99 < x3) → Q (some (.inl (-1))) m)
    (h3 : (cPers 5 m x1) → (0 ≤ x2) → (x3 ≤ 99) → (x2 ≤ x3) → hxn xs n yp_m152 0 [(0, .inr (.inl 70)), (1, .inr (.inl 5)), (2, .inl x1), (3, .inl x2), (4, .inl x3)] [] m (fun r m' => hxn xs n yp_m151 42 [] (hrs r ++ []) m' Q))
    (h4 : (cPers 5 m x1) → (0 ≤ x2) → (x3 ≤ 99) → (x3 < x2) → Q (some (.inl (-1))) m)
    (h5 : (¬ (cPers 5 m x1)) → Q (some (.inl (-1))) m) : hxn xs (n + 1) yp_m151 0 [(0, .inr (.inl 0)), (1, .inl x1), (2, .inl x2), (3, .inl x3)] [] m Q := by
  refine hx_blks (npc := 5) (L' := [(0, .inr (.inl 0)), (1, .inl x1), (2, .inl x2), (3, .inl x3)]) (st' := [.inl x1, .inr (.inl 5)]) (m' := m) ((0, .aload_n 0, 1, 0, 0, 0, 0), (0, 0, 0)) [((1, .getfield 26, 3, 9, 2, 2121, 0), (1, 0, 5)), ((4, .iload_n 1, 1, 0, 0, 0, 0), (0, 0, 0))] (by decide +kernel) rfl ?_
  refine hx_call (E := (5, .invokevirtual 94, 3, 13, 0, 2171, 0)) (M' := yp_m13) [.inr (.inl 5), .inl x1] [] rfl (by decide +kernel) rfl ⟨rfl, rfl⟩ rfl rfl (hs13_5 (fun c1 => ?_) (fun c1 => ?_))
  · have c1 : cPers 5 m x1 := c1
    show hxn xs n yp_m151 8 [(0, .inr (.inl 0)), (1, .inl x1), (2, .inl x2), (3, .inl x3)] [.inl 1] m Q
    refine hx_if .eq 26 (by decide +kernel) (fun c2 => ?_) (fun c2 => ?_)
    · have c2 : (1 : Int) = 0 := c2
      exfalso; omega
    · have c2 : (1 : Int) ≠ 0 := c2
      refine hx_blk (npc := 12) (L' := [(0, .inr (.inl 0)), (1, .inl x1), (2, .inl x2), (3, .inl x3)]) (st' := [.inl x2]) (m' := m) [((11, .iload_n 2, 1, 0, 0, 0, 0), (0, 0, 0))] (by decide +kernel) rfl ?_
      refine hx_if .lt 26 (by decide +kernel) (fun c2 => ?_) (fun c2 => ?_)
      · have c2 : x2 < 0 := c2
        refine hx_blk (npc := 27) (L' := [(0, .inr (.inl 0)), (1, .inl x1), (2, .inl x2), (3, .inl x3)]) (st' := [.inl (-1)]) (m' := m) [((26, .iconst (-1), 1, 0, 0, 0, 0), (0, 0, 0))] (by decide +kernel) rfl ?_
        exact hx_reti (by decide +kernel) (h1 c1 c2)
      · have c2 : 0 ≤ x2 := by have h : ¬ (x2 < 0) := c2; omega
        refine hx_blk (npc := 18) (L' := [(0, .inr (.inl 0)), (1, .inl x1), (2, .inl x2), (3, .inl x3)]) (st' := [.inl 99, .inl x3]) (m' := m) [((15, .iload_n 3, 1, 0, 0, 0, 0), (0, 0, 0)), ((16, .bipush 99, 2, 0, 0, 0, 0), (0, 0, 0))] (by decide +kernel) rfl ?_
        refine hx_cmp .gt 26 (by decide +kernel) (fun c3 => ?_) (fun c3 => ?_)
        · have c3 : 99 < x3 := c3
          refine hx_blk (npc := 27) (L' := [(0, .inr (.inl 0)), (1, .inl x1), (2, .inl x2), (3, .inl x3)]) (st' := [.inl (-1)]) (m' := m) [((26, .iconst (-1), 1, 0, 0, 0, 0), (0, 0, 0))] (by decide +kernel) rfl ?_
          exact hx_reti (by decide +kernel) (h2 c1 c2 c3)
        · have c3 : x3 ≤ 99 := by have h : ¬ (99 < x3) := c3; omega
          refine hx_blk (npc := 23) (L' := [(0, .inr (.inl 0)), (1, .inl x1), (2, .inl x2), (3, .inl x3)]) (st' := [.inl x2, .inl x3]) (m' := m) [((21, .iload_n 3, 1, 0, 0, 0, 0), (0, 0, 0)), ((22, .iload_n 2, 1, 0, 0, 0, 0), (0, 0, 0))] (by decide +kernel) rfl ?_
          refine hx_cmp .ge 28 (by decide +kernel) (fun c4 => ?_) (fun c4 => ?_)
          · have c4 : x2 ≤ x3 := c4
            refine hx_blk (npc := 39) (L' := [(0, .inr (.inl 0)), (1, .inl x1), (2, .inl x2), (3, .inl x3)]) (st' := [.inl x3, .inl x2, .inl x1, .inr (.inl 5), .inr (.inl 70)]) (m' := m) [((28, .aload_n 0, 1, 0, 0, 0, 0), (0, 0, 0)), ((29, .getfield 67, 3, 9, 9, 2128, 0), (1, 0, 70)), ((32, .aload_n 0, 1, 0, 0, 0, 0), (0, 0, 0)), ((33, .getfield 26, 3, 9, 2, 2121, 0), (1, 0, 5)), ((36, .iload_n 1, 1, 0, 0, 0, 0), (0, 0, 0)), ((37, .iload_n 2, 1, 0, 0, 0, 0), (0, 0, 0)), ((38, .iload_n 3, 1, 0, 0, 0, 0), (0, 0, 0))] (by decide +kernel) rfl ?_
            exact hx_call (E := (39, .invokevirtual 325, 3, 152, 0, 5073, 0)) (M' := yp_m152) [.inr (.inl 70), .inr (.inl 5), .inl x1, .inl x2, .inl x3] [] rfl (by decide +kernel) rfl ⟨rfl, rfl⟩ rfl rfl (hx_mono (h3 c1 c2 c3 c4) (fun r m' h' => hx_pick [] h'))
          · have c4 : x3 < x2 := by have h : ¬ (x2 ≤ x3) := c4; omega
            refine hx_blk (npc := 27) (L' := [(0, .inr (.inl 0)), (1, .inl x1), (2, .inl x2), (3, .inl x3)]) (st' := [.inl (-1)]) (m' := m) [((26, .iconst (-1), 1, 0, 0, 0, 0), (0, 0, 0))] (by decide +kernel) rfl ?_
            exact hx_reti (by decide +kernel) (h4 c1 c2 c3 c4)
  · have c1 : ¬ (cPers 5 m x1) := c1
    show hxn xs n yp_m151 8 [(0, .inr (.inl 0)), (1, .inl x1), (2, .inl x2), (3, .inl x3)] [.inl 0] m Q
    refine hx_if .eq 26 (by decide +kernel) (fun c2 => ?_) (fun c2 => ?_)
    · have c2 : (0 : Int) = 0 := c2
      refine hx_blk (npc := 27) (L' := [(0, .inr (.inl 0)), (1, .inl x1), (2, .inl x2), (3, .inl x3)]) (st' := [.inl (-1)]) (m' := m) [((26, .iconst (-1), 1, 0, 0, 0, 0), (0, 0, 0))] (by decide +kernel) rfl ?_
      exact hx_reti (by decide +kernel) (h5 c1)
    · have c2 : (0 : Int) ≠ 0 := c2
      exfalso; omega

/-- regime from 42 on -/
theorem hr151_42 {xs : List Int32} {n : Nat} {Q : hQ} {m : gx_M} {s0 : Int}
    (h1 : Q (some (.inl s0)) m) : hxn xs (n + 1) yp_m151 42 [] [.inl s0] m Q := by
  exact hx_reti (by decide +kernel) h1

/-- common from 0 on -/
theorem hr263_0 {xs : List Int32} {n : Nat} {Q : hQ} {m : gx_M} {x1 x2 x3 : Int}
    (h1 : (aPers (m 87) x1) → (aPers (m 87) x2) → (x1 = x2) → Q (some (.inl (-1))) m)
    (h2 : (aPers (m 87) x1) → (aPers (m 87) x2) → (x1 ≠ x2) → (0 ≤ x3 ∧ x3 ≤ 2) → (x3 ≠ 0) → hxn xs n yp_m263 60 [(0, .inr (.inl 86)), (1, .inl x1), (2, .inl x2), (3, .inl x3), (4, .inl 0), (5, .inl (-2)), (6, .inl 0)] [] m Q)
    (h3 : (aPers (m 87) x1) → (aPers (m 87) x2) → (x1 ≠ x2) → (0 ≤ x3 ∧ x3 ≤ 2) → (x3 = 0) → hxn xs n yp_m207 0 [(0, .inr (.inl 86)), (1, .inl x1), (2, .inl (-1))] [] m (fun r m' => hxn xs n yp_m263 42 [(0, .inr (.inl 86)), (2, .inl x2)] (hrs r ++ []) m' Q))
    (h4 : (aPers (m 87) x1) → (aPers (m 87) x2) → (x1 ≠ x2) → (¬ (0 ≤ x3 ∧ x3 ≤ 2)) → Q (some (.inl (-1))) m)
    (h5 : (aPers (m 87) x1) → (¬ (aPers (m 87) x2)) → Q (some (.inl (-1))) m)
    (h6 : (¬ (aPers (m 87) x1)) → Q (some (.inl (-1))) m) : hxn xs (n + 1) yp_m263 0 [(0, .inr (.inl 86)), (1, .inl x1), (2, .inl x2), (3, .inl x3)] [] m Q := by
  refine hx_blks (npc := 2) (L' := [(0, .inr (.inl 86)), (1, .inl x1), (2, .inl x2), (3, .inl x3)]) (st' := [.inl x1, .inr (.inl 86)]) (m' := m) ((0, .aload_n 0, 1, 0, 0, 0, 0), (0, 0, 0)) [((1, .iload_n 1, 1, 0, 0, 0, 0), (0, 0, 0))] (by decide +kernel) rfl ?_
  refine hx_call (E := (2, .invokevirtual 113, 3, 164, 0, 6031, 0)) (M' := yp_m164) [.inr (.inl 86), .inl x1] [] rfl (by decide +kernel) rfl ⟨rfl, rfl⟩ rfl rfl (hs164 (fun c1 => ?_) (fun c1 => ?_))
  · have c1 : aPers (m 87) x1 := c1
    show hxn xs n yp_m263 5 [(0, .inr (.inl 86)), (1, .inl x1), (2, .inl x2), (3, .inl x3)] [.inl 1] m Q
    refine hx_if .eq 30 (by decide +kernel) (fun c2 => ?_) (fun c2 => ?_)
    · have c2 : (1 : Int) = 0 := c2
      exfalso; omega
    · have c2 : (1 : Int) ≠ 0 := c2
      refine hx_blk (npc := 10) (L' := [(0, .inr (.inl 86)), (1, .inl x1), (2, .inl x2), (3, .inl x3)]) (st' := [.inl x2, .inr (.inl 86)]) (m' := m) [((8, .aload_n 0, 1, 0, 0, 0, 0), (0, 0, 0)), ((9, .iload_n 2, 1, 0, 0, 0, 0), (0, 0, 0))] (by decide +kernel) rfl ?_
      refine hx_call (E := (10, .invokevirtual 113, 3, 164, 0, 6031, 0)) (M' := yp_m164) [.inr (.inl 86), .inl x2] [] rfl (by decide +kernel) rfl ⟨rfl, rfl⟩ rfl rfl (hs164 (fun c2 => ?_) (fun c2 => ?_))
      · have c2 : aPers (m 87) x2 := c2
        show hxn xs n yp_m263 13 [(0, .inr (.inl 86)), (1, .inl x1), (2, .inl x2), (3, .inl x3)] [.inl 1] m Q
        refine hx_if .eq 30 (by decide +kernel) (fun c3 => ?_) (fun c3 => ?_)
        · have c3 : (1 : Int) = 0 := c3
          exfalso; omega
        · have c3 : (1 : Int) ≠ 0 := c3
          refine hx_blk (npc := 18) (L' := [(0, .inr (.inl 86)), (1, .inl x1), (2, .inl x2), (3, .inl x3)]) (st' := [.inl x2, .inl x1]) (m' := m) [((16, .iload_n 1, 1, 0, 0, 0, 0), (0, 0, 0)), ((17, .iload_n 2, 1, 0, 0, 0, 0), (0, 0, 0))] (by decide +kernel) rfl ?_
          refine hx_cmp .eq 30 (by decide +kernel) (fun c3 => ?_) (fun c3 => ?_)
          · have c3 : x1 = x2 := c3
            refine hx_blk (npc := 31) (L' := [(0, .inr (.inl 86)), (1, .inl x1), (2, .inl x2), (3, .inl x3)]) (st' := [.inl (-1)]) (m' := m) [((30, .iconst (-1), 1, 0, 0, 0, 0), (0, 0, 0))] (by decide +kernel) rfl ?_
            exact hx_reti (by decide +kernel) (h1 c1 c2 c3)
          · have c3 : x1 ≠ x2 := c3
            refine hx_blk (npc := 24) (L' := [(0, .inr (.inl 86)), (1, .inl x1), (2, .inl x2), (3, .inl x3)]) (st' := [.inl 2, .inl 0, .inl x3]) (m' := m) [((21, .iload_n 3, 1, 0, 0, 0, 0), (0, 0, 0)), ((22, .iconst 0, 1, 0, 0, 0, 0), (0, 0, 0)), ((23, .iconst 2, 1, 0, 0, 0, 0), (0, 0, 0))] (by decide +kernel) rfl ?_
            refine hx_call (E := (24, .invokestatic 108, 3, 162, 0, 6023, 0)) (M' := yp_m162) [.inl x3, .inl 0, .inl 2] [] rfl (by decide +kernel) rfl ⟨rfl, rfl⟩ rfl rfl (hs162 (fun c4 => ?_) (fun c4 => ?_))
            · have c4 : 0 ≤ x3 ∧ x3 ≤ 2 := c4
              show hxn xs n yp_m263 27 [(0, .inr (.inl 86)), (1, .inl x1), (2, .inl x2), (3, .inl x3)] [.inl 1] m Q
              refine hx_if .ne 32 (by decide +kernel) (fun c5 => ?_) (fun c5 => ?_)
              · have c5 : (1 : Int) ≠ 0 := c5
                refine hx_blk (npc := 33) (L' := [(0, .inr (.inl 86)), (1, .inl x1), (2, .inl x2), (3, .inl x3)]) (st' := [.inl x3]) (m' := m) [((32, .iload_n 3, 1, 0, 0, 0, 0), (0, 0, 0))] (by decide +kernel) rfl ?_
                refine hx_if .ne 50 (by decide +kernel) (fun c5 => ?_) (fun c5 => ?_)
                · have c5 : x3 ≠ 0 := c5
                  refine hx_blk (npc := 60) (L' := [(0, .inr (.inl 86)), (1, .inl x1), (2, .inl x2), (3, .inl x3), (4, .inl 0), (5, .inl (-2)), (6, .inl 0)]) (st' := []) (m' := m) [((50, .iconst 0, 1, 0, 0, 0, 0), (0, 0, 0)), ((51, .istore 4, 2, 0, 0, 0, 0), (0, 0, 0)), ((53, .bipush (-2), 2, 0, 0, 0, 0), (0, 0, 0)), ((55, .istore 5, 2, 0, 0, 0, 0), (0, 0, 0)), ((57, .iconst 0, 1, 0, 0, 0, 0), (0, 0, 0)), ((58, .istore 6, 2, 0, 0, 0, 0), (0, 0, 0))] (by decide +kernel) rfl ?_
                  exact hx_pick [0, 1, 2, 3, 4, 5, 6] (h2 c1 c2 c3 c4 c5)
                · have c5 : x3 = 0 := by have h : ¬ (x3 ≠ 0) := c5; omega
                  refine hx_blk (npc := 39) (L' := [(0, .inr (.inl 86)), (1, .inl x1), (2, .inl x2), (3, .inl x3)]) (st' := [.inl (-1), .inl x1, .inr (.inl 86)]) (m' := m) [((36, .aload_n 0, 1, 0, 0, 0, 0), (0, 0, 0)), ((37, .iload_n 1, 1, 0, 0, 0, 0), (0, 0, 0)), ((38, .iconst (-1), 1, 0, 0, 0, 0), (0, 0, 0))] (by decide +kernel) rfl ?_
                  exact hx_call (E := (39, .invokevirtual 244, 3, 207, 0, 6198, 0)) (M' := yp_m207) [.inr (.inl 86), .inl x1, .inl (-1)] [] rfl (by decide +kernel) rfl ⟨rfl, rfl⟩ rfl rfl (hx_mono (h3 c1 c2 c3 c4 c5) (fun r m' h' => hx_pick [0, 2] h'))
              · have c5 : (1 : Int) = 0 := by have h : ¬ ((1 : Int) ≠ 0) := c5; omega
                exfalso; omega
            · have c4 : ¬ (0 ≤ x3 ∧ x3 ≤ 2) := c4
              show hxn xs n yp_m263 27 [(0, .inr (.inl 86)), (1, .inl x1), (2, .inl x2), (3, .inl x3)] [.inl 0] m Q
              refine hx_if .ne 32 (by decide +kernel) (fun c5 => ?_) (fun c5 => ?_)
              · have c5 : (0 : Int) ≠ 0 := c5
                exfalso; omega
              · have c5 : (0 : Int) = 0 := by have h : ¬ ((0 : Int) ≠ 0) := c5; omega
                refine hx_blk (npc := 31) (L' := [(0, .inr (.inl 86)), (1, .inl x1), (2, .inl x2), (3, .inl x3)]) (st' := [.inl (-1)]) (m' := m) [((30, .iconst (-1), 1, 0, 0, 0, 0), (0, 0, 0))] (by decide +kernel) rfl ?_
                exact hx_reti (by decide +kernel) (h4 c1 c2 c3 c4)
      · have c2 : ¬ (aPers (m 87) x2) := c2
        show hxn xs n yp_m263 13 [(0, .inr (.inl 86)), (1, .inl x1), (2, .inl x2), (3, .inl x3)] [.inl 0] m Q
        refine hx_if .eq 30 (by decide +kernel) (fun c3 => ?_) (fun c3 => ?_)
        · have c3 : (0 : Int) = 0 := c3
          refine hx_blk (npc := 31) (L' := [(0, .inr (.inl 86)), (1, .inl x1), (2, .inl x2), (3, .inl x3)]) (st' := [.inl (-1)]) (m' := m) [((30, .iconst (-1), 1, 0, 0, 0, 0), (0, 0, 0))] (by decide +kernel) rfl ?_
          exact hx_reti (by decide +kernel) (h5 c1 c2)
        · have c3 : (0 : Int) ≠ 0 := c3
          exfalso; omega
  · have c1 : ¬ (aPers (m 87) x1) := c1
    show hxn xs n yp_m263 5 [(0, .inr (.inl 86)), (1, .inl x1), (2, .inl x2), (3, .inl x3)] [.inl 0] m Q
    refine hx_if .eq 30 (by decide +kernel) (fun c2 => ?_) (fun c2 => ?_)
    · have c2 : (0 : Int) = 0 := c2
      refine hx_blk (npc := 31) (L' := [(0, .inr (.inl 86)), (1, .inl x1), (2, .inl x2), (3, .inl x3)]) (st' := [.inl (-1)]) (m' := m) [((30, .iconst (-1), 1, 0, 0, 0, 0), (0, 0, 0))] (by decide +kernel) rfl ?_
      exact hx_reti (by decide +kernel) (h6 c1)
    · have c2 : (0 : Int) ≠ 0 := c2
      exfalso; omega

/-- common from 42 on -/
theorem hr263_42 {xs : List Int32} {n : Nat} {Q : hQ} {m : gx_M} {x2 s0 : Int}
    (h1 : hxn xs n yp_m207 0 [(0, .inr (.inl 86)), (1, .inl x2), (2, .inl (-1))] [] m (fun r m' => hxn xs n yp_m263 48 [] (hrs r ++ [.inl s0]) m' Q)) : hxn xs (n + 1) yp_m263 42 [(0, .inr (.inl 86)), (2, .inl x2)] [.inl s0] m Q := by
  refine hx_blks (npc := 45) (L' := [(0, .inr (.inl 86)), (2, .inl x2)]) (st' := [.inl (-1), .inl x2, .inr (.inl 86), .inl s0]) (m' := m) ((42, .aload_n 0, 1, 0, 0, 0, 0), (0, 0, 0)) [((43, .iload_n 2, 1, 0, 0, 0, 0), (0, 0, 0)), ((44, .iconst (-1), 1, 0, 0, 0, 0), (0, 0, 0))] (by decide +kernel) rfl ?_
  exact hx_call (E := (45, .invokevirtual 244, 3, 207, 0, 6198, 0)) (M' := yp_m207) [.inr (.inl 86), .inl x2, .inl (-1)] [.inl s0] rfl (by decide +kernel) rfl ⟨rfl, rfl⟩ rfl rfl (hx_mono h1 (fun r m' h' => hx_pick [] h'))

/-- common from 48 on -/
theorem hr263_48 {xs : List Int32} {n : Nat} {Q : hQ} {m : gx_M} {s0 s1 : Int}
    (h1 : Q (some (.inl (gx_and s0 s1))) m) : hxn xs (n + 1) yp_m263 48 [] [.inl s1, .inl s0] m Q := by
  refine hx_blks (npc := 49) (L' := []) (st' := [.inl (gx_and s0 s1)]) (m' := m) ((48, .iand, 1, 0, 0, 0, 0), (0, 0, 0)) [] (by decide +kernel) rfl ?_
  exact hx_reti (by decide +kernel) h1

/-- common from 60 on -/
theorem hr263_60 {xs : List Int32} {n : Nat} {Q : hQ} {m : gx_M} {x1 x2 x3 x4 x5 x6 : Int}
    (h1 : (40 ≤ x6) → (x3 ≠ 1) → Q (some (.inl x5)) m)
    (h2 : (40 ≤ x6) → (x3 = 1) → Q (some (.inl x4)) m)
    (h3 : (x6 < 40) → hxn xs n yp_m220 0 [(0, .inr (.inl 86)), (1, .inl x6), (2, .inl x1)] [] m (fun r m' => hxn xs n yp_m263 74 [(0, .inr (.inl 86)), (1, .inl x1), (2, .inl x2), (3, .inl x3), (4, .inl x4), (5, .inl x5), (6, .inl x6)] (hrs r ++ []) m' Q)) : hxn xs (n + 1) yp_m263 60 [(0, .inr (.inl 86)), (1, .inl x1), (2, .inl x2), (3, .inl x3), (4, .inl x4), (5, .inl x5), (6, .inl x6)] [] m Q := by
  refine hx_blks (npc := 64) (L' := [(0, .inr (.inl 86)), (1, .inl x1), (2, .inl x2), (3, .inl x3), (4, .inl x4), (5, .inl x5), (6, .inl x6)]) (st' := [.inl 40, .inl x6]) (m' := m) ((60, .iload 6, 2, 0, 0, 0, 0), (0, 0, 0)) [((62, .bipush 40, 2, 0, 0, 0, 0), (0, 0, 0))] (by decide +kernel) rfl ?_
  refine hx_cmp .ge 137 (by decide +kernel) (fun c1 => ?_) (fun c1 => ?_)
  · have c1 : 40 ≤ x6 := c1
    refine hx_blk (npc := 139) (L' := [(0, .inr (.inl 86)), (1, .inl x1), (2, .inl x2), (3, .inl x3), (4, .inl x4), (5, .inl x5), (6, .inl x6)]) (st' := [.inl 1, .inl x3]) (m' := m) [((137, .iload_n 3, 1, 0, 0, 0, 0), (0, 0, 0)), ((138, .iconst 1, 1, 0, 0, 0, 0), (0, 0, 0))] (by decide +kernel) rfl ?_
    refine hx_cmp .ne 147 (by decide +kernel) (fun c2 => ?_) (fun c2 => ?_)
    · have c2 : x3 ≠ 1 := c2
      refine hx_blk (npc := 149) (L' := [(0, .inr (.inl 86)), (1, .inl x1), (2, .inl x2), (3, .inl x3), (4, .inl x4), (5, .inl x5), (6, .inl x6)]) (st' := [.inl x5]) (m' := m) [((147, .iload 5, 2, 0, 0, 0, 0), (0, 0, 0))] (by decide +kernel) rfl ?_
      exact hx_reti (by decide +kernel) (h1 c1 c2)
    · have c2 : x3 = 1 := by have h : ¬ (x3 ≠ 1) := c2; omega
      refine hx_blk (npc := 149) (L' := [(0, .inr (.inl 86)), (1, .inl x1), (2, .inl x2), (3, .inl x3), (4, .inl x4), (5, .inl x5), (6, .inl x6)]) (st' := [.inl x4]) (m' := m) [((142, .iload 4, 2, 0, 0, 0, 0), (0, 0, 0)), ((144, .goto 5, 3, 0, 0, 0, 0), (0, 0, 0))] (by decide +kernel) rfl ?_
      exact hx_reti (by decide +kernel) (h2 c1 c2)
  · have c1 : x6 < 40 := by have h : ¬ (40 ≤ x6) := c1; omega
    refine hx_blk (npc := 71) (L' := [(0, .inr (.inl 86)), (1, .inl x1), (2, .inl x2), (3, .inl x3), (4, .inl x4), (5, .inl x5), (6, .inl x6)]) (st' := [.inl x1, .inl x6, .inr (.inl 86)]) (m' := m) [((67, .aload_n 0, 1, 0, 0, 0, 0), (0, 0, 0)), ((68, .iload 6, 2, 0, 0, 0, 0), (0, 0, 0)), ((70, .iload_n 1, 1, 0, 0, 0, 0), (0, 0, 0))] (by decide +kernel) rfl ?_
    exact hx_call (E := (71, .invokevirtual 303, 3, 220, 0, 7008, 0)) (M' := yp_m220) [.inr (.inl 86), .inl x6, .inl x1] [] rfl (by decide +kernel) rfl ⟨rfl, rfl⟩ rfl rfl (hx_mono (h3 c1) (fun r m' h' => hx_pick [0, 1, 2, 3, 4, 5, 6] h'))

/-- common from 74 on -/
theorem hr263_74 {xs : List Int32} {n : Nat} {Q : hQ} {m : gx_M} {x1 x2 x3 x4 x5 x6 s0 : Int}
    (h1 : (s0 = 0) → hxn xs n yp_m263 60 [(0, .inr (.inl 86)), (1, .inl x1), (2, .inl x2), (3, .inl x3), (4, .inl x4), (5, .inl x5), (6, .inl (gx_w (x6 + 1)))] [] m Q)
    (h2 : (s0 ≠ 0) → hxn xs n yp_m220 0 [(0, .inr (.inl 86)), (1, .inl x6), (2, .inl x2)] [] m (fun r m' => hxn xs n yp_m263 84 [(0, .inr (.inl 86)), (1, .inl x1), (2, .inl x2), (3, .inl x3), (4, .inl x4), (5, .inl x5), (6, .inl x6)] (hrs r ++ []) m' Q)) : hxn xs (n + 1) yp_m263 74 [(0, .inr (.inl 86)), (1, .inl x1), (2, .inl x2), (3, .inl x3), (4, .inl x4), (5, .inl x5), (6, .inl x6)] [.inl s0] m Q := by
  refine hx_ifs .eq 131 (by decide +kernel) (fun c1 => ?_) (fun c1 => ?_)
  · have c1 : s0 = 0 := c1
    refine hx_blk (npc := 60) (L' := [(0, .inr (.inl 86)), (1, .inl x1), (2, .inl x2), (3, .inl x3), (4, .inl x4), (5, .inl x5), (6, .inl (gx_w (x6 + 1)))]) (st' := []) (m' := m) [((131, .iinc 6 1, 3, 0, 0, 0, 0), (0, 0, 0)), ((134, .goto (-74), 3, 0, 0, 0, 0), (0, 0, 0))] (by decide +kernel) rfl ?_
    exact hx_pick [0, 1, 2, 3, 4, 5, 6] (h1 c1)
  · have c1 : s0 ≠ 0 := c1
    refine hx_blk (npc := 81) (L' := [(0, .inr (.inl 86)), (1, .inl x1), (2, .inl x2), (3, .inl x3), (4, .inl x4), (5, .inl x5), (6, .inl x6)]) (st' := [.inl x2, .inl x6, .inr (.inl 86)]) (m' := m) [((77, .aload_n 0, 1, 0, 0, 0, 0), (0, 0, 0)), ((78, .iload 6, 2, 0, 0, 0, 0), (0, 0, 0)), ((80, .iload_n 2, 1, 0, 0, 0, 0), (0, 0, 0))] (by decide +kernel) rfl ?_
    exact hx_call (E := (81, .invokevirtual 303, 3, 220, 0, 7008, 0)) (M' := yp_m220) [.inr (.inl 86), .inl x6, .inl x2] [] rfl (by decide +kernel) rfl ⟨rfl, rfl⟩ rfl rfl (hx_mono (h2 c1) (fun r m' h' => hx_pick [0, 1, 2, 3, 4, 5, 6] h'))

/-- common from 84 on -/
theorem hr263_84 {xs : List Int32} {n : Nat} {Q : hQ} {m : gx_M} {x1 x2 x3 x4 x5 x6 s0 : Int}
    (h1 : (s0 ≠ 0) → (x5 ≠ (-2)) → hxn xs n yp_m199 0 [(0, .inl x5), (1, .inl (m 87 (gx_w (0 + x6)).toNat))] [] m (fun r m' => hxn xs n yp_m263 129 [(0, .inr (.inl 86)), (1, .inl x1), (2, .inl x2), (3, .inl x3), (4, .inl (gx_w (x4 + 1))), (6, .inl x6)] (hrs r ++ []) m' Q))
    (h2 : (s0 ≠ 0) → (x5 = (-2)) → hxn xs n yp_m263 60 [(0, .inr (.inl 86)), (1, .inl x1), (2, .inl x2), (3, .inl x3), (4, .inl (gx_w (x4 + 1))), (5, .inl (m 87 (gx_w (0 + x6)).toNat)), (6, .inl (gx_w (x6 + 1)))] [] m Q)
    (h3 : (s0 = 0) → hxn xs n yp_m263 60 [(0, .inr (.inl 86)), (1, .inl x1), (2, .inl x2), (3, .inl x3), (4, .inl x4), (5, .inl x5), (6, .inl (gx_w (x6 + 1)))] [] m Q) : hxn xs (n + 1) yp_m263 84 [(0, .inr (.inl 86)), (1, .inl x1), (2, .inl x2), (3, .inl x3), (4, .inl x4), (5, .inl x5), (6, .inl x6)] [.inl s0] m Q := by
  refine hx_ifs .ne 90 (by decide +kernel) (fun c1 => ?_) (fun c1 => ?_)
  · have c1 : s0 ≠ 0 := c1
    refine hx_blk (npc := 100) (L' := [(0, .inr (.inl 86)), (1, .inl x1), (2, .inl x2), (3, .inl x3), (4, .inl (gx_w (x4 + 1))), (5, .inl x5), (6, .inl x6)]) (st' := [.inl (-2), .inl x5]) (m' := m) [((90, .iload 4, 2, 0, 0, 0, 0), (0, 0, 0)), ((92, .iconst 1, 1, 0, 0, 0, 0), (0, 0, 0)), ((93, .iadd, 1, 0, 0, 0, 0), (0, 0, 0)), ((94, .istore 4, 2, 0, 0, 0, 0), (0, 0, 0)), ((96, .iload 5, 2, 0, 0, 0, 0), (0, 0, 0)), ((98, .bipush (-2), 2, 0, 0, 0, 0), (0, 0, 0))] (by decide +kernel) rfl ?_
    refine hx_cmp .ne 115 (by decide +kernel) (fun c2 => ?_) (fun c2 => ?_)
    · have c2 : x5 ≠ (-2) := c2
      refine hx_blk (npc := 126) (L' := [(0, .inr (.inl 86)), (1, .inl x1), (2, .inl x2), (3, .inl x3), (4, .inl (gx_w (x4 + 1))), (5, .inl x5), (6, .inl x6)]) (st' := [.inl (m 87 (gx_w (0 + x6)).toNat), .inl x5]) (m' := m) [((115, .iload 5, 2, 0, 0, 0, 0), (0, 0, 0)), ((117, .aload_n 0, 1, 0, 0, 0, 0), (0, 0, 0)), ((118, .getfield 7, 3, 10, 0, 5113, 0), (1, 86, 87)), ((121, .iconst 0, 1, 0, 0, 0, 0), (0, 0, 0)), ((122, .iload 6, 2, 0, 0, 0, 0), (0, 0, 0)), ((124, .iadd, 1, 0, 0, 0, 0), (0, 0, 0)), ((125, .iaload, 1, 0, 0, 0, 0), (0, 87, 0))] (by decide +kernel) rfl ?_
      exact hx_call (E := (126, .invokestatic 120, 3, 199, 0, 6168, 0)) (M' := yp_m199) [.inl x5, .inl (m 87 (gx_w (0 + x6)).toNat)] [] rfl (by decide +kernel) rfl ⟨rfl, rfl⟩ rfl rfl (hx_mono (h1 c1 c2) (fun r m' h' => hx_pick [0, 1, 2, 3, 4, 6] h'))
    · have c2 : x5 = (-2) := by have h : ¬ (x5 ≠ (-2)) := c2; omega
      refine hx_blk (npc := 60) (L' := [(0, .inr (.inl 86)), (1, .inl x1), (2, .inl x2), (3, .inl x3), (4, .inl (gx_w (x4 + 1))), (5, .inl (m 87 (gx_w (0 + x6)).toNat)), (6, .inl (gx_w (x6 + 1)))]) (st' := []) (m' := m) [((103, .aload_n 0, 1, 0, 0, 0, 0), (0, 0, 0)), ((104, .getfield 7, 3, 10, 0, 5113, 0), (1, 86, 87)), ((107, .iconst 0, 1, 0, 0, 0, 0), (0, 0, 0)), ((108, .iload 6, 2, 0, 0, 0, 0), (0, 0, 0)), ((110, .iadd, 1, 0, 0, 0, 0), (0, 0, 0)), ((111, .iaload, 1, 0, 0, 0, 0), (0, 87, 0)), ((112, .goto 17, 3, 0, 0, 0, 0), (0, 0, 0)), ((129, .istore 5, 2, 0, 0, 0, 0), (0, 0, 0)), ((131, .iinc 6 1, 3, 0, 0, 0, 0), (0, 0, 0)), ((134, .goto (-74), 3, 0, 0, 0, 0), (0, 0, 0))] (by decide +kernel) rfl ?_
      exact hx_pick [0, 1, 2, 3, 4, 5, 6] (h2 c1 c2)
  · have c1 : s0 = 0 := by have h : ¬ (s0 ≠ 0) := c1; omega
    refine hx_blk (npc := 60) (L' := [(0, .inr (.inl 86)), (1, .inl x1), (2, .inl x2), (3, .inl x3), (4, .inl x4), (5, .inl x5), (6, .inl (gx_w (x6 + 1)))]) (st' := []) (m' := m) [((87, .goto 44, 3, 0, 0, 0, 0), (0, 0, 0)), ((131, .iinc 6 1, 3, 0, 0, 0, 0), (0, 0, 0)), ((134, .goto (-74), 3, 0, 0, 0, 0), (0, 0, 0))] (by decide +kernel) rfl ?_
    exact hx_pick [0, 1, 2, 3, 4, 5, 6] (h3 c1)

/-- common from 129 on -/
theorem hr263_129 {xs : List Int32} {n : Nat} {Q : hQ} {m : gx_M} {x1 x2 x3 x4 x6 s0 : Int}
    (h1 : hxn xs n yp_m263 60 [(0, .inr (.inl 86)), (1, .inl x1), (2, .inl x2), (3, .inl x3), (4, .inl x4), (5, .inl s0), (6, .inl (gx_w (x6 + 1)))] [] m Q) : hxn xs (n + 1) yp_m263 129 [(0, .inr (.inl 86)), (1, .inl x1), (2, .inl x2), (3, .inl x3), (4, .inl x4), (6, .inl x6)] [.inl s0] m Q := by
  refine hx_blks (npc := 60) (L' := [(0, .inr (.inl 86)), (1, .inl x1), (2, .inl x2), (3, .inl x3), (4, .inl x4), (6, .inl (gx_w (x6 + 1))), (5, .inl s0)]) (st' := []) (m' := m) ((129, .istore 5, 2, 0, 0, 0, 0), (0, 0, 0)) [((131, .iinc 6 1, 3, 0, 0, 0, 0), (0, 0, 0)), ((134, .goto (-74), 3, 0, 0, 0, 0), (0, 0, 0))] (by decide +kernel) rfl ?_
  exact hx_pick [0, 1, 2, 3, 4, 5, 6] h1

/-- ownsAt from 0 on -/
theorem hr234_0 {xs : List Int32} {n : Nat} {Q : hQ} {m : gx_M} {x1 x2 : Int}
    (h1 : hxn xs n yp_m234 2 [(0, .inr (.inl 86)), (1, .inl x1), (2, .inl x2), (3, .inl 0)] [] m Q) : hxn xs (n + 1) yp_m234 0 [(0, .inr (.inl 86)), (1, .inl x1), (2, .inl x2)] [] m Q := by
  refine hx_blks (npc := 2) (L' := [(0, .inr (.inl 86)), (1, .inl x1), (2, .inl x2), (3, .inl 0)]) (st' := []) (m' := m) ((0, .iconst 0, 1, 0, 0, 0, 0), (0, 0, 0)) [((1, .istore_n 3, 1, 0, 0, 0, 0), (0, 0, 0))] (by decide +kernel) rfl ?_
  exact hx_pick [0, 1, 2, 3] h1

/-- ownsAt from 2 on -/
theorem hr234_2 {xs : List Int32} {n : Nat} {Q : hQ} {m : gx_M} {x1 x2 x3 : Int}
    (h1 : (40 ≤ x3) → Q (some (.inl 0)) m)
    (h2 : (x3 < 40) → hxn xs n yp_m205 0 [(0, .inr (.inl 86)), (1, .inl x3), (2, .inl x1)] [] m (fun r m' => hxn xs n yp_m234 14 [(0, .inr (.inl 86)), (1, .inl x1), (2, .inl x2), (3, .inl x3)] (hrs r ++ []) m' Q)) : hxn xs (n + 1) yp_m234 2 [(0, .inr (.inl 86)), (1, .inl x1), (2, .inl x2), (3, .inl x3)] [] m Q := by
  refine hx_blks (npc := 5) (L' := [(0, .inr (.inl 86)), (1, .inl x1), (2, .inl x2), (3, .inl x3)]) (st' := [.inl 40, .inl x3]) (m' := m) ((2, .iload_n 3, 1, 0, 0, 0, 0), (0, 0, 0)) [((3, .bipush 40, 2, 0, 0, 0, 0), (0, 0, 0))] (by decide +kernel) rfl ?_
  refine hx_cmp .ge 37 (by decide +kernel) (fun c1 => ?_) (fun c1 => ?_)
  · have c1 : 40 ≤ x3 := c1
    refine hx_blk (npc := 38) (L' := [(0, .inr (.inl 86)), (1, .inl x1), (2, .inl x2), (3, .inl x3)]) (st' := [.inl 0]) (m' := m) [((37, .iconst 0, 1, 0, 0, 0, 0), (0, 0, 0))] (by decide +kernel) rfl ?_
    exact hx_reti (by decide +kernel) (h1 c1)
  · have c1 : x3 < 40 := by have h : ¬ (40 ≤ x3) := c1; omega
    refine hx_blk (npc := 11) (L' := [(0, .inr (.inl 86)), (1, .inl x1), (2, .inl x2), (3, .inl x3)]) (st' := [.inl x1, .inl x3, .inr (.inl 86)]) (m' := m) [((8, .aload_n 0, 1, 0, 0, 0, 0), (0, 0, 0)), ((9, .iload_n 3, 1, 0, 0, 0, 0), (0, 0, 0)), ((10, .iload_n 1, 1, 0, 0, 0, 0), (0, 0, 0))] (by decide +kernel) rfl ?_
    exact hx_call (E := (11, .invokevirtual 117, 3, 205, 0, 6191, 0)) (M' := yp_m205) [.inr (.inl 86), .inl x3, .inl x1] [] rfl (by decide +kernel) rfl ⟨rfl, rfl⟩ rfl rfl (hx_mono (h2 c1) (fun r m' h' => hx_pick [0, 1, 2, 3] h'))

/-- ownsAt from 14 on -/
theorem hr234_14 {xs : List Int32} {n : Nat} {Q : hQ} {m : gx_M} {x1 x2 x3 s0 : Int}
    (h1 : (s0 = 0) → hxn xs n yp_m234 2 [(0, .inr (.inl 86)), (1, .inl x1), (2, .inl x2), (3, .inl (gx_w (x3 + 1)))] [] m Q)
    (h2 : (s0 ≠ 0) → ((m 87 (gx_w (0 + x3)).toNat) ≠ x2) → hxn xs n yp_m234 2 [(0, .inr (.inl 86)), (1, .inl x1), (2, .inl x2), (3, .inl (gx_w (x3 + 1)))] [] m Q)
    (h3 : (s0 ≠ 0) → ((m 87 (gx_w (0 + x3)).toNat) = x2) → Q (some (.inl 1)) m) : hxn xs (n + 1) yp_m234 14 [(0, .inr (.inl 86)), (1, .inl x1), (2, .inl x2), (3, .inl x3)] [.inl s0] m Q := by
  refine hx_ifs .eq 31 (by decide +kernel) (fun c1 => ?_) (fun c1 => ?_)
  · have c1 : s0 = 0 := c1
    refine hx_blk (npc := 2) (L' := [(0, .inr (.inl 86)), (1, .inl x1), (2, .inl x2), (3, .inl (gx_w (x3 + 1)))]) (st' := []) (m' := m) [((31, .iinc 3 1, 3, 0, 0, 0, 0), (0, 0, 0)), ((34, .goto (-32), 3, 0, 0, 0, 0), (0, 0, 0))] (by decide +kernel) rfl ?_
    exact hx_pick [0, 1, 2, 3] (h1 c1)
  · have c1 : s0 ≠ 0 := c1
    refine hx_blk (npc := 26) (L' := [(0, .inr (.inl 86)), (1, .inl x1), (2, .inl x2), (3, .inl x3)]) (st' := [.inl x2, .inl (m 87 (gx_w (0 + x3)).toNat)]) (m' := m) [((17, .aload_n 0, 1, 0, 0, 0, 0), (0, 0, 0)), ((18, .getfield 7, 3, 10, 0, 5113, 0), (1, 86, 87)), ((21, .iconst 0, 1, 0, 0, 0, 0), (0, 0, 0)), ((22, .iload_n 3, 1, 0, 0, 0, 0), (0, 0, 0)), ((23, .iadd, 1, 0, 0, 0, 0), (0, 0, 0)), ((24, .iaload, 1, 0, 0, 0, 0), (0, 87, 0)), ((25, .iload_n 2, 1, 0, 0, 0, 0), (0, 0, 0))] (by decide +kernel) rfl ?_
    refine hx_cmp .ne 31 (by decide +kernel) (fun c2 => ?_) (fun c2 => ?_)
    · have c2 : (m 87 (gx_w (0 + x3)).toNat) ≠ x2 := c2
      refine hx_blk (npc := 2) (L' := [(0, .inr (.inl 86)), (1, .inl x1), (2, .inl x2), (3, .inl (gx_w (x3 + 1)))]) (st' := []) (m' := m) [((31, .iinc 3 1, 3, 0, 0, 0, 0), (0, 0, 0)), ((34, .goto (-32), 3, 0, 0, 0, 0), (0, 0, 0))] (by decide +kernel) rfl ?_
      exact hx_pick [0, 1, 2, 3] (h2 c1 c2)
    · have c2 : (m 87 (gx_w (0 + x3)).toNat) = x2 := by have h : ¬ ((m 87 (gx_w (0 + x3)).toNat) ≠ x2) := c2; omega
      refine hx_blk (npc := 30) (L' := [(0, .inr (.inl 86)), (1, .inl x1), (2, .inl x2), (3, .inl x3)]) (st' := [.inl 1]) (m' := m) [((29, .iconst 1, 1, 0, 0, 0, 0), (0, 0, 0))] (by decide +kernel) rfl ?_
      exact hx_reti (by decide +kernel) (h3 c1 c2)

/-- regime from 0 on -/
theorem hr267_0 {xs : List Int32} {n : Nat} {Q : hQ} {m : gx_M} {x1 x2 x3 : Int}
    (h1 : (aPers (m 87) x1) → (0 ≤ x2 ∧ x2 ≤ 99) → (x2 ≤ x3 ∧ x3 ≤ 99) → hxn xs n yp_m267 36 [(0, .inr (.inl 86)), (1, .inl x1), (2, .inl x2), (3, .inl x3), (4, .inl 0), (5, .inl 0)] [] m Q)
    (h2 : (aPers (m 87) x1) → (0 ≤ x2 ∧ x2 ≤ 99) → (¬ (x2 ≤ x3 ∧ x3 ≤ 99)) → Q (some (.inl (-1))) m)
    (h3 : (aPers (m 87) x1) → (¬ (0 ≤ x2 ∧ x2 ≤ 99)) → Q (some (.inl (-1))) m)
    (h4 : (¬ (aPers (m 87) x1)) → Q (some (.inl (-1))) m) : hxn xs (n + 1) yp_m267 0 [(0, .inr (.inl 86)), (1, .inl x1), (2, .inl x2), (3, .inl x3)] [] m Q := by
  refine hx_blks (npc := 2) (L' := [(0, .inr (.inl 86)), (1, .inl x1), (2, .inl x2), (3, .inl x3)]) (st' := [.inl x1, .inr (.inl 86)]) (m' := m) ((0, .aload_n 0, 1, 0, 0, 0, 0), (0, 0, 0)) [((1, .iload_n 1, 1, 0, 0, 0, 0), (0, 0, 0))] (by decide +kernel) rfl ?_
  refine hx_call (E := (2, .invokevirtual 113, 3, 164, 0, 6031, 0)) (M' := yp_m164) [.inr (.inl 86), .inl x1] [] rfl (by decide +kernel) rfl ⟨rfl, rfl⟩ rfl rfl (hs164 (fun c1 => ?_) (fun c1 => ?_))
  · have c1 : aPers (m 87) x1 := c1
    show hxn xs n yp_m267 5 [(0, .inr (.inl 86)), (1, .inl x1), (2, .inl x2), (3, .inl x3)] [.inl 1] m Q
    refine hx_if .eq 28 (by decide +kernel) (fun c2 => ?_) (fun c2 => ?_)
    · have c2 : (1 : Int) = 0 := c2
      exfalso; omega
    · have c2 : (1 : Int) ≠ 0 := c2
      refine hx_blk (npc := 12) (L' := [(0, .inr (.inl 86)), (1, .inl x1), (2, .inl x2), (3, .inl x3)]) (st' := [.inl 99, .inl 0, .inl x2]) (m' := m) [((8, .iload_n 2, 1, 0, 0, 0, 0), (0, 0, 0)), ((9, .iconst 0, 1, 0, 0, 0, 0), (0, 0, 0)), ((10, .bipush 99, 2, 0, 0, 0, 0), (0, 0, 0))] (by decide +kernel) rfl ?_
      refine hx_call (E := (12, .invokestatic 108, 3, 162, 0, 6023, 0)) (M' := yp_m162) [.inl x2, .inl 0, .inl 99] [] rfl (by decide +kernel) rfl ⟨rfl, rfl⟩ rfl rfl (hs162 (fun c2 => ?_) (fun c2 => ?_))
      · have c2 : 0 ≤ x2 ∧ x2 ≤ 99 := c2
        show hxn xs n yp_m267 15 [(0, .inr (.inl 86)), (1, .inl x1), (2, .inl x2), (3, .inl x3)] [.inl 1] m Q
        refine hx_if .eq 28 (by decide +kernel) (fun c3 => ?_) (fun c3 => ?_)
        · have c3 : (1 : Int) = 0 := c3
          exfalso; omega
        · have c3 : (1 : Int) ≠ 0 := c3
          refine hx_blk (npc := 22) (L' := [(0, .inr (.inl 86)), (1, .inl x1), (2, .inl x2), (3, .inl x3)]) (st' := [.inl 99, .inl x2, .inl x3]) (m' := m) [((18, .iload_n 3, 1, 0, 0, 0, 0), (0, 0, 0)), ((19, .iload_n 2, 1, 0, 0, 0, 0), (0, 0, 0)), ((20, .bipush 99, 2, 0, 0, 0, 0), (0, 0, 0))] (by decide +kernel) rfl ?_
          refine hx_call (E := (22, .invokestatic 108, 3, 162, 0, 6023, 0)) (M' := yp_m162) [.inl x3, .inl x2, .inl 99] [] rfl (by decide +kernel) rfl ⟨rfl, rfl⟩ rfl rfl (hs162 (fun c3 => ?_) (fun c3 => ?_))
          · have c3 : x2 ≤ x3 ∧ x3 ≤ 99 := c3
            show hxn xs n yp_m267 25 [(0, .inr (.inl 86)), (1, .inl x1), (2, .inl x2), (3, .inl x3)] [.inl 1] m Q
            refine hx_if .ne 30 (by decide +kernel) (fun c4 => ?_) (fun c4 => ?_)
            · have c4 : (1 : Int) ≠ 0 := c4
              refine hx_blk (npc := 36) (L' := [(0, .inr (.inl 86)), (1, .inl x1), (2, .inl x2), (3, .inl x3), (4, .inl 0), (5, .inl 0)]) (st' := []) (m' := m) [((30, .iconst 0, 1, 0, 0, 0, 0), (0, 0, 0)), ((31, .istore 4, 2, 0, 0, 0, 0), (0, 0, 0)), ((33, .iconst 0, 1, 0, 0, 0, 0), (0, 0, 0)), ((34, .istore 5, 2, 0, 0, 0, 0), (0, 0, 0))] (by decide +kernel) rfl ?_
              exact hx_pick [0, 1, 2, 3, 4, 5] (h1 c1 c2 c3)
            · have c4 : (1 : Int) = 0 := by have h : ¬ ((1 : Int) ≠ 0) := c4; omega
              exfalso; omega
          · have c3 : ¬ (x2 ≤ x3 ∧ x3 ≤ 99) := c3
            show hxn xs n yp_m267 25 [(0, .inr (.inl 86)), (1, .inl x1), (2, .inl x2), (3, .inl x3)] [.inl 0] m Q
            refine hx_if .ne 30 (by decide +kernel) (fun c4 => ?_) (fun c4 => ?_)
            · have c4 : (0 : Int) ≠ 0 := c4
              exfalso; omega
            · have c4 : (0 : Int) = 0 := by have h : ¬ ((0 : Int) ≠ 0) := c4; omega
              refine hx_blk (npc := 29) (L' := [(0, .inr (.inl 86)), (1, .inl x1), (2, .inl x2), (3, .inl x3)]) (st' := [.inl (-1)]) (m' := m) [((28, .iconst (-1), 1, 0, 0, 0, 0), (0, 0, 0))] (by decide +kernel) rfl ?_
              exact hx_reti (by decide +kernel) (h2 c1 c2 c3)
      · have c2 : ¬ (0 ≤ x2 ∧ x2 ≤ 99) := c2
        show hxn xs n yp_m267 15 [(0, .inr (.inl 86)), (1, .inl x1), (2, .inl x2), (3, .inl x3)] [.inl 0] m Q
        refine hx_if .eq 28 (by decide +kernel) (fun c3 => ?_) (fun c3 => ?_)
        · have c3 : (0 : Int) = 0 := c3
          refine hx_blk (npc := 29) (L' := [(0, .inr (.inl 86)), (1, .inl x1), (2, .inl x2), (3, .inl x3)]) (st' := [.inl (-1)]) (m' := m) [((28, .iconst (-1), 1, 0, 0, 0, 0), (0, 0, 0))] (by decide +kernel) rfl ?_
          exact hx_reti (by decide +kernel) (h3 c1 c2)
        · have c3 : (0 : Int) ≠ 0 := c3
          exfalso; omega
  · have c1 : ¬ (aPers (m 87) x1) := c1
    show hxn xs n yp_m267 5 [(0, .inr (.inl 86)), (1, .inl x1), (2, .inl x2), (3, .inl x3)] [.inl 0] m Q
    refine hx_if .eq 28 (by decide +kernel) (fun c2 => ?_) (fun c2 => ?_)
    · have c2 : (0 : Int) = 0 := c2
      refine hx_blk (npc := 29) (L' := [(0, .inr (.inl 86)), (1, .inl x1), (2, .inl x2), (3, .inl x3)]) (st' := [.inl (-1)]) (m' := m) [((28, .iconst (-1), 1, 0, 0, 0, 0), (0, 0, 0))] (by decide +kernel) rfl ?_
      exact hx_reti (by decide +kernel) (h4 c1)
    · have c2 : (0 : Int) ≠ 0 := c2
      exfalso; omega

/-- regime from 36 on -/
theorem hr267_36 {xs : List Int32} {n : Nat} {Q : hQ} {m : gx_M} {x1 x2 x3 x4 x5 : Int}
    (h1 : (40 ≤ x5) → hxn xs n yp_m206 0 [(0, .inl x4)] [] m (fun r m' => hxn xs n yp_m267 96 [(0, .inr (.inl 86)), (1, .inl x1), (2, .inl x2), (3, .inl x3)] (hrs r ++ []) m' Q))
    (h2 : (x5 < 40) → hxn xs n yp_m205 0 [(0, .inr (.inl 86)), (1, .inl x5), (2, .inl x1)] [] m (fun r m' => hxn xs n yp_m267 50 [(0, .inr (.inl 86)), (1, .inl x1), (2, .inl x2), (3, .inl x3), (4, .inl x4), (5, .inl x5)] (hrs r ++ []) m' Q)) : hxn xs (n + 1) yp_m267 36 [(0, .inr (.inl 86)), (1, .inl x1), (2, .inl x2), (3, .inl x3), (4, .inl x4), (5, .inl x5)] [] m Q := by
  refine hx_blks (npc := 40) (L' := [(0, .inr (.inl 86)), (1, .inl x1), (2, .inl x2), (3, .inl x3), (4, .inl x4), (5, .inl x5)]) (st' := [.inl 40, .inl x5]) (m' := m) ((36, .iload 5, 2, 0, 0, 0, 0), (0, 0, 0)) [((38, .bipush 40, 2, 0, 0, 0, 0), (0, 0, 0))] (by decide +kernel) rfl ?_
  refine hx_cmp .ge 91 (by decide +kernel) (fun c1 => ?_) (fun c1 => ?_)
  · have c1 : 40 ≤ x5 := c1
    refine hx_blk (npc := 93) (L' := [(0, .inr (.inl 86)), (1, .inl x1), (2, .inl x2), (3, .inl x3), (4, .inl x4), (5, .inl x5)]) (st' := [.inl x4]) (m' := m) [((91, .iload 4, 2, 0, 0, 0, 0), (0, 0, 0))] (by decide +kernel) rfl ?_
    exact hx_call (E := (93, .invokestatic 241, 3, 206, 0, 6195, 0)) (M' := yp_m206) [.inl x4] [] rfl (by decide +kernel) rfl ⟨rfl, rfl⟩ rfl rfl (hx_mono (h1 c1) (fun r m' h' => hx_pick [0, 1, 2, 3] h'))
  · have c1 : x5 < 40 := by have h : ¬ (40 ≤ x5) := c1; omega
    refine hx_blk (npc := 47) (L' := [(0, .inr (.inl 86)), (1, .inl x1), (2, .inl x2), (3, .inl x3), (4, .inl x4), (5, .inl x5)]) (st' := [.inl x1, .inl x5, .inr (.inl 86)]) (m' := m) [((43, .aload_n 0, 1, 0, 0, 0, 0), (0, 0, 0)), ((44, .iload 5, 2, 0, 0, 0, 0), (0, 0, 0)), ((46, .iload_n 1, 1, 0, 0, 0, 0), (0, 0, 0))] (by decide +kernel) rfl ?_
    exact hx_call (E := (47, .invokevirtual 117, 3, 205, 0, 6191, 0)) (M' := yp_m205) [.inr (.inl 86), .inl x5, .inl x1] [] rfl (by decide +kernel) rfl ⟨rfl, rfl⟩ rfl rfl (hx_mono (h2 c1) (fun r m' h' => hx_pick [0, 1, 2, 3, 4, 5] h'))

/-- regime from 50 on -/
theorem hr267_50 {xs : List Int32} {n : Nat} {Q : hQ} {m : gx_M} {x1 x2 x3 x4 x5 s0 : Int}
    (h1 : (s0 = 0) → hxn xs n yp_m267 36 [(0, .inr (.inl 86)), (1, .inl x1), (2, .inl x2), (3, .inl x3), (4, .inl x4), (5, .inl (gx_w (x5 + 1)))] [] m Q)
    (h2 : (s0 ≠ 0) → (x2 ≤ (m 87 (gx_w (0 + x5)).toNat) ∧ (m 87 (gx_w (0 + x5)).toNat) ≤ x3) → hxn xs n yp_m267 36 [(0, .inr (.inl 86)), (1, .inl x1), (2, .inl x2), (3, .inl x3), (4, .inl (gx_or x4 (m 87 (gx_w (80 + x5)).toNat))), (5, .inl (gx_w (x5 + 1)))] [] m Q)
    (h3 : (s0 ≠ 0) → (¬ (x2 ≤ (m 87 (gx_w (0 + x5)).toNat) ∧ (m 87 (gx_w (0 + x5)).toNat) ≤ x3)) → hxn xs n yp_m267 36 [(0, .inr (.inl 86)), (1, .inl x1), (2, .inl x2), (3, .inl x3), (4, .inl x4), (5, .inl (gx_w (x5 + 1)))] [] m Q) : hxn xs (n + 1) yp_m267 50 [(0, .inr (.inl 86)), (1, .inl x1), (2, .inl x2), (3, .inl x3), (4, .inl x4), (5, .inl x5)] [.inl s0] m Q := by
  refine hx_ifs .eq 85 (by decide +kernel) (fun c1 => ?_) (fun c1 => ?_)
  · have c1 : s0 = 0 := c1
    refine hx_blk (npc := 36) (L' := [(0, .inr (.inl 86)), (1, .inl x1), (2, .inl x2), (3, .inl x3), (4, .inl x4), (5, .inl (gx_w (x5 + 1)))]) (st' := []) (m' := m) [((85, .iinc 5 1, 3, 0, 0, 0, 0), (0, 0, 0)), ((88, .goto (-52), 3, 0, 0, 0, 0), (0, 0, 0))] (by decide +kernel) rfl ?_
    exact hx_pick [0, 1, 2, 3, 4, 5] (h1 c1)
  · have c1 : s0 ≠ 0 := c1
    refine hx_blk (npc := 64) (L' := [(0, .inr (.inl 86)), (1, .inl x1), (2, .inl x2), (3, .inl x3), (4, .inl x4), (5, .inl x5)]) (st' := [.inl x3, .inl x2, .inl (m 87 (gx_w (0 + x5)).toNat)]) (m' := m) [((53, .aload_n 0, 1, 0, 0, 0, 0), (0, 0, 0)), ((54, .getfield 7, 3, 10, 0, 5113, 0), (1, 86, 87)), ((57, .iconst 0, 1, 0, 0, 0, 0), (0, 0, 0)), ((58, .iload 5, 2, 0, 0, 0, 0), (0, 0, 0)), ((60, .iadd, 1, 0, 0, 0, 0), (0, 0, 0)), ((61, .iaload, 1, 0, 0, 0, 0), (0, 87, 0)), ((62, .iload_n 2, 1, 0, 0, 0, 0), (0, 0, 0)), ((63, .iload_n 3, 1, 0, 0, 0, 0), (0, 0, 0))] (by decide +kernel) rfl ?_
    refine hx_call (E := (64, .invokestatic 108, 3, 162, 0, 6023, 0)) (M' := yp_m162) [.inl (m 87 (gx_w (0 + x5)).toNat), .inl x2, .inl x3] [] rfl (by decide +kernel) rfl ⟨rfl, rfl⟩ rfl rfl (hs162 (fun c2 => ?_) (fun c2 => ?_))
    · have c2 : x2 ≤ (m 87 (gx_w (0 + x5)).toNat) ∧ (m 87 (gx_w (0 + x5)).toNat) ≤ x3 := c2
      show hxn xs n yp_m267 67 [(0, .inr (.inl 86)), (1, .inl x1), (2, .inl x2), (3, .inl x3), (4, .inl x4), (5, .inl x5)] [.inl 1] m Q
      refine hx_if .eq 85 (by decide +kernel) (fun c3 => ?_) (fun c3 => ?_)
      · have c3 : (1 : Int) = 0 := c3
        exfalso; omega
      · have c3 : (1 : Int) ≠ 0 := c3
        refine hx_blk (npc := 36) (L' := [(0, .inr (.inl 86)), (1, .inl x1), (2, .inl x2), (3, .inl x3), (4, .inl (gx_or x4 (m 87 (gx_w (80 + x5)).toNat))), (5, .inl (gx_w (x5 + 1)))]) (st' := []) (m' := m) [((70, .iload 4, 2, 0, 0, 0, 0), (0, 0, 0)), ((72, .aload_n 0, 1, 0, 0, 0, 0), (0, 0, 0)), ((73, .getfield 7, 3, 10, 0, 5113, 0), (1, 86, 87)), ((76, .bipush 80, 2, 0, 0, 0, 0), (0, 0, 0)), ((78, .iload 5, 2, 0, 0, 0, 0), (0, 0, 0)), ((80, .iadd, 1, 0, 0, 0, 0), (0, 0, 0)), ((81, .iaload, 1, 0, 0, 0, 0), (0, 87, 0)), ((82, .ior, 1, 0, 0, 0, 0), (0, 0, 0)), ((83, .istore 4, 2, 0, 0, 0, 0), (0, 0, 0)), ((85, .iinc 5 1, 3, 0, 0, 0, 0), (0, 0, 0)), ((88, .goto (-52), 3, 0, 0, 0, 0), (0, 0, 0))] (by decide +kernel) rfl ?_
        exact hx_pick [0, 1, 2, 3, 4, 5] (h2 c1 c2)
    · have c2 : ¬ (x2 ≤ (m 87 (gx_w (0 + x5)).toNat) ∧ (m 87 (gx_w (0 + x5)).toNat) ≤ x3) := c2
      show hxn xs n yp_m267 67 [(0, .inr (.inl 86)), (1, .inl x1), (2, .inl x2), (3, .inl x3), (4, .inl x4), (5, .inl x5)] [.inl 0] m Q
      refine hx_if .eq 85 (by decide +kernel) (fun c3 => ?_) (fun c3 => ?_)
      · have c3 : (0 : Int) = 0 := c3
        refine hx_blk (npc := 36) (L' := [(0, .inr (.inl 86)), (1, .inl x1), (2, .inl x2), (3, .inl x3), (4, .inl x4), (5, .inl (gx_w (x5 + 1)))]) (st' := []) (m' := m) [((85, .iinc 5 1, 3, 0, 0, 0, 0), (0, 0, 0)), ((88, .goto (-52), 3, 0, 0, 0, 0), (0, 0, 0))] (by decide +kernel) rfl ?_
        exact hx_pick [0, 1, 2, 3, 4, 5] (h3 c1 c2)
      · have c3 : (0 : Int) ≠ 0 := c3
        exfalso; omega

/-- regime from 96 on -/
theorem hr267_96 {xs : List Int32} {n : Nat} {Q : hQ} {m : gx_M} {x1 x2 x3 s0 : Int}
    (h1 : hxn xs n yp_m267 101 [(0, .inr (.inl 86)), (1, .inl x1), (3, .inl x3), (5, .inl s0), (6, .inl x2)] [] m Q) : hxn xs (n + 1) yp_m267 96 [(0, .inr (.inl 86)), (1, .inl x1), (2, .inl x2), (3, .inl x3)] [.inl s0] m Q := by
  refine hx_blks (npc := 101) (L' := [(0, .inr (.inl 86)), (1, .inl x1), (2, .inl x2), (3, .inl x3), (5, .inl s0), (6, .inl x2)]) (st' := []) (m' := m) ((96, .istore 5, 2, 0, 0, 0, 0), (0, 0, 0)) [((98, .iload_n 2, 1, 0, 0, 0, 0), (0, 0, 0)), ((99, .istore 6, 2, 0, 0, 0, 0), (0, 0, 0))] (by decide +kernel) rfl ?_
  exact hx_pick [0, 1, 3, 5, 6] h1

/-- regime from 101 on -/
theorem hr267_101 {xs : List Int32} {n : Nat} {Q : hQ} {m : gx_M} {x1 x3 x5 x6 : Int}
    (h1 : (x3 < x6) → Q (some (.inl x5)) m)
    (h2 : (x6 ≤ x3) → hxn xs n yp_m234 0 [(0, .inr (.inl 86)), (1, .inl x1), (2, .inl x6)] [] m (fun r m' => hxn xs n yp_m267 116 [(0, .inr (.inl 86)), (1, .inl x1), (3, .inl x3), (6, .inl x6)] (hrs r ++ [.inl x5]) m' Q)) : hxn xs (n + 1) yp_m267 101 [(0, .inr (.inl 86)), (1, .inl x1), (3, .inl x3), (5, .inl x5), (6, .inl x6)] [] m Q := by
  refine hx_blks (npc := 104) (L' := [(0, .inr (.inl 86)), (1, .inl x1), (3, .inl x3), (5, .inl x5), (6, .inl x6)]) (st' := [.inl x3, .inl x6]) (m' := m) ((101, .iload 6, 2, 0, 0, 0, 0), (0, 0, 0)) [((103, .iload_n 3, 1, 0, 0, 0, 0), (0, 0, 0))] (by decide +kernel) rfl ?_
  refine hx_cmp .gt 134 (by decide +kernel) (fun c1 => ?_) (fun c1 => ?_)
  · have c1 : x3 < x6 := c1
    refine hx_blk (npc := 136) (L' := [(0, .inr (.inl 86)), (1, .inl x1), (3, .inl x3), (5, .inl x5), (6, .inl x6)]) (st' := [.inl x5]) (m' := m) [((134, .iload 5, 2, 0, 0, 0, 0), (0, 0, 0))] (by decide +kernel) rfl ?_
    exact hx_reti (by decide +kernel) (h1 c1)
  · have c1 : x6 ≤ x3 := by have h : ¬ (x3 < x6) := c1; omega
    refine hx_blk (npc := 113) (L' := [(0, .inr (.inl 86)), (1, .inl x1), (3, .inl x3), (5, .inl x5), (6, .inl x6)]) (st' := [.inl x6, .inl x1, .inr (.inl 86), .inl x5]) (m' := m) [((107, .iload 5, 2, 0, 0, 0, 0), (0, 0, 0)), ((109, .aload_n 0, 1, 0, 0, 0, 0), (0, 0, 0)), ((110, .iload_n 1, 1, 0, 0, 0, 0), (0, 0, 0)), ((111, .iload 6, 2, 0, 0, 0, 0), (0, 0, 0))] (by decide +kernel) rfl ?_
    exact hx_call (E := (113, .invokevirtual 327, 3, 234, 0, 7064, 0)) (M' := yp_m234) [.inr (.inl 86), .inl x1, .inl x6] [.inl x5] rfl (by decide +kernel) rfl ⟨rfl, rfl⟩ rfl rfl (hx_mono (h2 c1) (fun r m' h' => hx_pick [0, 1, 3, 6] h'))

/-- regime from 116 on -/
theorem hr267_116 {xs : List Int32} {n : Nat} {Q : hQ} {m : gx_M} {x1 x3 x6 s0 s1 : Int}
    (h1 : (s1 = 0) → hxn xs n yp_m267 101 [(0, .inr (.inl 86)), (1, .inl x1), (3, .inl x3), (5, .inl (gx_w (s0 + 0))), (6, .inl (gx_w (x6 + 1)))] [] m Q)
    (h2 : (s1 ≠ 0) → hxn xs n yp_m267 101 [(0, .inr (.inl 86)), (1, .inl x1), (3, .inl x3), (5, .inl (gx_w (s0 + 10))), (6, .inl (gx_w (x6 + 1)))] [] m Q) : hxn xs (n + 1) yp_m267 116 [(0, .inr (.inl 86)), (1, .inl x1), (3, .inl x3), (6, .inl x6)] [.inl s1, .inl s0] m Q := by
  refine hx_ifs .eq 124 (by decide +kernel) (fun c1 => ?_) (fun c1 => ?_)
  · have c1 : s1 = 0 := c1
    refine hx_blk (npc := 101) (L' := [(0, .inr (.inl 86)), (1, .inl x1), (3, .inl x3), (6, .inl (gx_w (x6 + 1))), (5, .inl (gx_w (s0 + 0)))]) (st' := []) (m' := m) [((124, .iconst 0, 1, 0, 0, 0, 0), (0, 0, 0)), ((125, .iadd, 1, 0, 0, 0, 0), (0, 0, 0)), ((126, .istore 5, 2, 0, 0, 0, 0), (0, 0, 0)), ((128, .iinc 6 1, 3, 0, 0, 0, 0), (0, 0, 0)), ((131, .goto (-30), 3, 0, 0, 0, 0), (0, 0, 0))] (by decide +kernel) rfl ?_
    exact hx_pick [0, 1, 3, 5, 6] (h1 c1)
  · have c1 : s1 ≠ 0 := c1
    refine hx_blk (npc := 101) (L' := [(0, .inr (.inl 86)), (1, .inl x1), (3, .inl x3), (6, .inl (gx_w (x6 + 1))), (5, .inl (gx_w (s0 + 10)))]) (st' := []) (m' := m) [((119, .bipush 10, 2, 0, 0, 0, 0), (0, 0, 0)), ((121, .goto 4, 3, 0, 0, 0, 0), (0, 0, 0)), ((125, .iadd, 1, 0, 0, 0, 0), (0, 0, 0)), ((126, .istore 5, 2, 0, 0, 0, 0), (0, 0, 0)), ((128, .iinc 6 1, 3, 0, 0, 0, 0), (0, 0, 0)), ((131, .goto (-30), 3, 0, 0, 0, 0), (0, 0, 0))] (by decide +kernel) rfl ?_
    exact hx_pick [0, 1, 3, 5, 6] (h2 c1)
end
section
/-! common, regime: by both -/
def aBth (s : Nat → Int) (p q : Int) (y : Nat) : Bool := aHad s p y && aHad s q y
def fDt (s : Nat → Int) (f : Nat → Bool) : Nat → Int
  | 0 => -2
  | k + 1 => if f k = true then (if fDt s f k = -2 ∨ s k < fDt s f k then s k else fDt s f k) else fDt s f k
theorem fDt_t {s : Nat → Int} {f : Nat → Bool} {k : Nat} (h : f k = true) : fDt s f (k + 1) = if fDt s f k = -2 ∨ s k < fDt s f k then s k else fDt s f k := if_pos h
theorem fDt_f {s : Nat → Int} {f : Nat → Bool} {k : Nat} (h : f k = false) : fDt s f (k + 1) = fDt s f k := if_neg (by rw [h]; decide)
def qCo (s : Nat → Int) (p q w : Int) : Int := if w = 0 then gx_and (hOr (aOwn s p) (fun j => s (80 + j)) 40) (hOr (aOwn s q) (fun j => s (80 + j)) 40) else if w = 1 then ((hcnt (aBth s p q) 40 : Nat) : Int) else fDt s (aBth s p q) 40
noncomputable def qCom (s : Nat → Int) (p q w : Int) : Int := @ite _ (aPers s p ∧ aPers s q ∧ p ≠ q ∧ 0 ≤ w ∧ w ≤ 2) (Classical.propDecidable _) (qCo s p q w) (-1)
theorem qCom_no {s : Nat → Int} {p q w : Int} (h : ¬ (aPers s p ∧ aPers s q ∧ p ≠ q ∧ 0 ≤ w ∧ w ≤ 2)) : qCom s p q w = -1 := if_neg h
theorem qCom_yes {s : Nat → Int} {p q w : Int} (h : aPers s p ∧ aPers s q ∧ p ≠ q ∧ 0 ≤ w ∧ w ≤ 2) : qCom s p q w = qCo s p q w := if_pos h
section CM
variable {xs : List Int32} {n : Nat} {Q : hQ} {m : gx_M} {s : Nat → Int} {a1 a2 a3 : Int}
theorem c144 {f : Nat → Bool} (hB : sBk 5 s m) (h : Q (some (.inl (fDt s f 40))) m) : hxn xs n yp_m144 0 [(0, .inr (.inl 70)), (1, .inr (.inl 5)), (2, .inr (.inr ((hmask f 40 : Nat) : Int)))] [] m Q := by
  have hl := hloop (N := 40) (P := fun k => hxn xs n yp_m144 7 [(1, .inr (.inl 5)), (2, .inr (.inr ((hmask f 40 : Nat) : Int))), (4, .inl (fDt s f k)), (5, .inl (k : Int))] [] m Q) (hx_dn (hr144_7 (fun _ => h) (fun c => absurd c (by decide)) (fun c => absurd c (by decide)) (fun c => absurd c (by decide)) (fun c => absurd c (by decide)))) (fun k hk ih => ?_) 0 (Nat.zero_le _)
  · exact hx_pick [1, 2] (hx_dn (hr144_0 hl))
  · have et := hmask_test (f := f) hk
    have yes : f k = true → (fDt s f k = -2 ∨ s k < fDt s f k) → hxn xs n yp_m144 7 [(1, .inr (.inl 5)), (2, .inr (.inr ((hmask f 40 : Nat) : Int))), (4, .inl (m 7 ((k : Int)).toNat)), (5, .inl (gx_w ((k : Int) + 1)))] [] m Q := fun hf hc => by
      rw [fDt_t hf, if_pos hc] at ih
      rw [Int.toNat_natCast, sB5_date hB k hk, ew_u (by omega)]
      exact ih
    have ft : hlcmp (hland (hlushr ((hmask f 40 : Nat) : Int) (k : Int)) 1) 0 ≠ 0 → f k = true := fun c => by
      rw [et] at c
      split at c
      · assumption
      · exact absurd rfl c
    refine hx_dn (hr144_7 (fun c => absurd c (by omega)) (fun _ c d => yes (ft c) (.inl d)) (fun _ c d e => ?_) (fun _ c d e => yes (ft c) (.inr ?_)) (fun _ c => ?_))
    · rw [Int.toNat_natCast, sB5_date hB k hk] at e
      rw [fDt_t (ft c), if_neg (by omega)] at ih
      rw [ew_u (by omega)]
      exact ih
    · rw [Int.toNat_natCast, sB5_date hB k hk] at e
      exact e
    · rw [et] at c
      have hf : f k = false := by
        split at c
        · cases c
        · rename_i g
          simpa using g
      rw [fDt_f hf] at ih
      rw [ew_u (by omega)]
      exact ih
theorem q143 (hR : hWr xs m) : hxn xs n yp_m143 0 [(0, .inr (.inl 0)), (1, .inl a1), (2, .inl a2), (3, .inl a3)] [] m (fun r _ => r = some (.inl (qCom (m 87) a1 a2 a3))) := by
  obtain ⟨hs, hB, -⟩ := hR
  have i1 : cPers 5 m a1 ↔ aPers (m 87) a1 := cP_iff hB
  have i2 : cPers 5 m a2 ↔ aPers (m 87) a2 := cP_iff hB
  have no : ∀ {P : Prop}, P → (aPers (m 87) a1 ∧ aPers (m 87) a2 ∧ a1 ≠ a2 ∧ 0 ≤ a3 ∧ a3 ≤ 2 → ¬ P) → (some (.inl (-1)) : Option hV) = some (.inl (qCom (m 87) a1 a2 a3)) := fun hP h => by rw [qCom_no (fun q => h q hP)]
  refine hx_dn (hr143_0 (fun _ _ c => no c (fun q => q.2.2.1)) (fun _ _ _ c => no c (fun q => by omega)) (fun c1 c2 c3 c4 c5 c6 => ?_) (fun c1 c2 c3 c4 c5 c6 => ?_) (fun _ _ _ _ c => no c (fun q => by omega)) (fun _ c => no c (fun q d => d (i2.mpr q.2.1))) (fun c => no c (fun q d => d (i1.mpr q.1))))
  · have p1 := i1.mp c1
    have p2 := i2.mp c2
    rw [qCom_yes ⟨p1, p2, c3, c4, c5⟩]
    obtain ⟨P, rfl, hP, -⟩ := aPers_nat p1
    obtain ⟨R, rfl, hR, -⟩ := aPers_nat p2
    refine c76 hP hs hB (hx_dn (hr143_82 (c76 hR hs hB ?_)))
    have ea := hmask_and (aHad (m 87) (P : Int)) (aHad (m 87) (R : Int))
    unfold qCo
    rw [if_neg c6]
    refine hx_dn (hr143_90 (fun d => ?_) (fun d => ?_))
    · rw [ea, if_neg d]
      exact c144 (f := aBth (m 87) (P : Int) (R : Int)) hB (hx_dn (hr143_119 rfl))
    · rw [ea, if_pos d]
      exact c61 (f := aBth (m 87) (P : Int) (R : Int)) (hx_dn (hr143_103 rfl))
  · have p1 := i1.mp c1
    have p2 := i2.mp c2
    rw [qCom_yes ⟨p1, p2, c3, c4, c5⟩]
    unfold qCo
    rw [if_pos c6]
    exact c60 hB (hx_dn (hr143_54 (c64 hB (hx_dn (hr143_57 (c60 hB (hx_dn (hr143_69 (c64 hB (hx_dn (hr143_72 rfl)))))))))))
theorem q263 (hR : hWr xs m) : hxn xs n yp_m263 0 [(0, .inr (.inl 86)), (1, .inl a1), (2, .inl a2), (3, .inl a3)] [] m (fun r _ => r = some (.inl (qCom (m 87) a1 a2 a3))) := by
  obtain ⟨hs, -⟩ := hR
  have no : ∀ {P : Prop}, P → (aPers (m 87) a1 ∧ aPers (m 87) a2 ∧ a1 ≠ a2 ∧ 0 ≤ a3 ∧ a3 ≤ 2 → ¬ P) → (some (.inl (-1)) : Option hV) = some (.inl (qCom (m 87) a1 a2 a3)) := fun hP h => by rw [qCom_no (fun q => h q hP)]
  refine hx_dn (hr263_0 (fun _ _ c => no c (fun q => q.2.2.1)) (fun p1 p2 c3 c4 c6 => ?_) (fun p1 p2 c3 c4 c6 => ?_) (fun _ _ _ c => no c (fun q d => d q.2.2.2)) (fun _ c => no c (fun q d => d q.2.1)) (fun c => no c (fun q d => d q.1)))
  · rw [qCom_yes ⟨p1, p2, c3, c4⟩]
    unfold qCo
    rw [if_neg c6]
    refine hloop (N := 40) (P := fun k => hxn xs n yp_m263 60 [(0, .inr (.inl 86)), (1, .inl a1), (2, .inl a2), (3, .inl a3), (4, .inl ((hcnt (aBth (m 87) a1 a2) k : Nat) : Int)), (5, .inl (fDt (m 87) (aBth (m 87) a1 a2) k)), (6, .inl (k : Int))] [] m _) (hx_dn (hr263_60 (fun _ d => ?_) (fun _ d => ?_) (fun c => absurd c (by decide)))) (fun k hk ih => ?_) 0 (Nat.zero_le _)
    · rw [if_neg d]
    · rw [if_pos d]
    · have e0 : (gx_w (0 + (k : Int))).toNat = k := by
        rw [gx_w_id (by omega) (by omega)]
        omega
      have hle := hcnt_le (aBth (m 87) a1 a2) k
      refine hx_dn (hr263_60 (fun c => absurd c (by omega)) (fun c => absurd c (by omega)) (fun _ => r220 hs hk ?_))
      by_cases h1 : aHad (m 87) a1 k = true
      · rw [if_pos h1]
        refine hx_dn (hr263_74 (fun c => absurd c (by decide)) (fun _ => r220 hs hk ?_))
        by_cases h2 : aHad (m 87) a2 k = true
        · rw [if_pos h2]
          have hf : aBth (m 87) a1 a2 k = true := by
            unfold aBth
            rw [h1, h2]
            rfl
          rw [hcnt_t hf, fDt_t hf] at ih
          refine hx_dn (hr263_84 (fun _ d => ?_) (fun _ d => ?_) (fun c => absurd c (by decide)))
          · rw [e0, ew_u (by omega)]
            refine hx_dn (hr199_0 (fun e => ?_) (fun e => ?_))
            · refine hx_dn (hr263_129 ?_)
              rw [ew_u (by omega)]
              by_cases e2 : m 87 k < fDt (m 87) (aBth (m 87) a1 a2) k
              · rw [if_pos (.inr e2)] at ih
                exact ih
              · rw [if_neg (by omega)] at ih
                have e3 : fDt (m 87) (aBth (m 87) a1 a2) k = m 87 k := by omega
                rw [e3] at ih
                exact ih
            · refine hx_dn (hr263_129 ?_)
              rw [ew_u (by omega)]
              rw [if_neg (by omega)] at ih
              exact ih
          · rw [if_pos (.inl d)] at ih
            rw [e0, ew_u (by omega), ew_u (by omega)]
            exact ih
        · rw [if_neg h2]
          have hf : aBth (m 87) a1 a2 k = false := by
            unfold aBth
            rw [Bool.eq_false_iff.mpr h2, Bool.and_false]
          rw [hcnt_f0 hf, fDt_f hf] at ih
          refine hx_dn (hr263_84 (fun c => absurd rfl c) (fun c => absurd rfl c) (fun _ => ?_))
          rw [ew_u (by omega)]
          exact ih
      · rw [if_neg h1]
        have hf : aBth (m 87) a1 a2 k = false := by
          unfold aBth
          rw [Bool.eq_false_iff.mpr h1, Bool.false_and]
        rw [hcnt_f0 hf, fDt_f hf] at ih
        refine hx_dn (hr263_74 (fun _ => ?_) (fun c => absurd rfl c))
        rw [ew_u (by omega)]
        exact ih
  · rw [qCom_yes ⟨p1, p2, c3, c4⟩]
    unfold qCo
    rw [if_pos c6]
    exact r207 hs (hx_dn (hr263_42 (r207 hs (hx_dn (hr263_48 rfl)))))
/-! years of dates -/
def aDt (s : Nat → Int) (a b : Int) (y : Nat) : Bool := decide (s (440 + y) = 1) && (decide (a ≤ s y) && decide (s y ≤ b))
def aOwnAt (s : Nat → Int) (p d : Int) : Bool := hAnyB (fun y => aOwn s p y && decide (s y = d)) 40
theorem c98 {a b : Int} (hB : sBk 5 s m) (h : Q (some (.inr (.inr ((hmask (aDt s a b) 40 : Nat) : Int)))) m) : hxn xs n yp_m98 0 [(0, .inr (.inl 5)), (1, .inl a), (2, .inl b)] [] m Q := by
  have hl := hloop (N := 40) (P := fun y => hxn xs n yp_m98 5 [(0, .inr (.inl 5)), (1, .inl a), (2, .inl b), (3, .inr (.inr ((hmask (aDt s a b) y : Nat) : Int))), (5, .inl (y : Int))] [] m Q) (hx_dn (hr98_5 (fun _ => h) (fun c => absurd c (by decide)) (fun c => absurd c (by decide)) (fun c => absurd c (by decide)) (fun c => absurd c (by decide)))) (fun y hy ih => ?_) 0 (Nat.zero_le _)
  · exact hx_dn (hr98_0 hl)
  · have no : ¬ (s (440 + y) = 1 ∧ a ≤ s y ∧ s y ≤ b) → hxn xs n yp_m98 5 [(0, .inr (.inl 5)), (1, .inl a), (2, .inl b), (3, .inr (.inr ((hmask (aDt s a b) y : Nat) : Int))), (5, .inl (gx_w ((y : Int) + 1)))] [] m Q := fun c => by
      have hf : aDt s a b y = false := by
        unfold aDt
        rw [Bool.eq_false_iff]
        intro q
        rw [Bool.and_eq_true, Bool.and_eq_true, decide_eq_true_eq, decide_eq_true_eq, decide_eq_true_eq] at q
        exact c q
      rw [hmask_f hf] at ih
      rw [ew_u (by omega)]
      exact ih
    have ed := sB5_date hB y hy
    refine hx_dn (hr98_5 (fun c => absurd c (by omega)) (fun _ _ c => no ?_) (fun _ _ _ c => no ?_) (fun _ c d e => ?_) (fun _ c => no (fun q => c ((cY_iff hB hy).mpr q.1))))
    · rw [Int.toNat_natCast, ed] at c
      exact fun q => absurd q.2.1 (by omega)
    · rw [Int.toNat_natCast, ed] at c
      exact fun q => absurd q.2.2 (by omega)
    · rw [Int.toNat_natCast, ed] at d e
      have hf : aDt s a b y = true := by
        unfold aDt
        rw [decide_eq_true ((cY_iff hB hy).mp c), decide_eq_true d, decide_eq_true e]
        rfl
      rw [hmask_t hf] at ih
      rw [ew_u (by omega), hmask_grow hy]
      exact ih
theorem hmask_z {f : Nat → Bool} : ∀ k, (∀ j, j < k → f j = false) → hmask f k = 0
  | 0, _ => rfl
  | k + 1, h => by rw [hmask_f (h k (by omega)), hmask_z k (fun j hj => h j (by omega))]
theorem hmask_any {f : Nat → Bool} : hlcmp ((hmask f 40 : Nat) : Int) 0 ≠ 0 ↔ hAnyB f 40 = true := by
  rw [hAnyB_iff]
  constructor
  · intro h
    refine Classical.byContradiction (fun q => h ?_)
    have : hmask f 40 = 0 := hmask_z 40 (fun j hj => by
      rw [Bool.eq_false_iff]
      exact fun e => q ⟨j, hj, e⟩)
    rw [this]
    rfl
  · rintro ⟨j, hj, e⟩ h
    have hb := hmask_bit f 40 j
    rw [decide_eq_true hj, e] at hb
    have hz : hmask f 40 ≠ 0 := fun z => by
      rw [z, Nat.zero_testBit] at hb
      cases hb
    unfold hlcmp at h
    rw [if_pos (by omega)] at h
    cases h
theorem own_at {p d : Int} : hAnyB (fun y => aOwn s p y && aDt s d d y) 40 = aOwnAt s p d := by
  unfold aOwnAt
  have e : ∀ y, (aOwn s p y && aDt s d d y) = (aOwn s p y && decide (s y = d)) := fun y => by
    unfold aOwn aDt
    by_cases h1 : s (440 + y) = 1
    · rw [decide_eq_true h1, Bool.true_and, Bool.true_and]
      congr 1
      by_cases h2 : s y = d
      · rw [decide_eq_true h2, decide_eq_true (by omega : d ≤ s y), decide_eq_true (by omega : s y ≤ d)]
        rfl
      · rw [decide_eq_false h2, Bool.and_eq_false_iff, decide_eq_false_iff_not, decide_eq_false_iff_not]
        omega
    · rw [decide_eq_false h1, Bool.false_and, Bool.false_and, Bool.false_and]
  exact congrArg (fun f => hAnyB f 40) (funext e)
/-- whether one owns a year of a date, as the class asks it -/
theorem own_c {p d : Int} : hlcmp (hland ((hmask (aOwn s p) 40 : Nat) : Int) ((hmask (aDt s d d) 40 : Nat) : Int)) 0 ≠ 0 ↔ aOwnAt s p d = true := by
  rw [hmask_and, hmask_any, own_at]
theorem r234 {p d : Int} (hs : sOK (m 87)) (h : Q (some (.inl (if aOwnAt (m 87) p d = true then 1 else 0))) m) : hxn xs n yp_m234 0 [(0, .inr (.inl 86)), (1, .inl p), (2, .inl d)] [] m Q := by
  unfold aOwnAt at h
  have hl := hloop (N := 40) (P := fun k => hAnyB (fun y => aOwn (m 87) p y && decide (m 87 y = d)) k = false → hxn xs n yp_m234 2 [(0, .inr (.inl 86)), (1, .inl p), (2, .inl d), (3, .inl (k : Int))] [] m Q) (fun q => ?_) (fun k hk ih q => ?_) 0 (Nat.zero_le _) rfl
  · exact hx_dn (hr234_0 hl)
  · rw [q, if_neg (by decide)] at h
    exact hx_dn (hr234_2 (fun _ => h) (fun c => absurd c (by decide)))
  · have e0 : (gx_w (0 + (k : Int))).toNat = k := by
      rw [gx_w_id (by omega) (by omega)]
      omega
    have no : (aOwn (m 87) p k && decide (m 87 k = d)) = false → hxn xs n yp_m234 2 [(0, .inr (.inl 86)), (1, .inl p), (2, .inl d), (3, .inl (gx_w ((k : Int) + 1)))] [] m Q := fun c => by
      rw [ew_u (by omega)]
      refine ih ?_
      show (hAnyB _ k || (aOwn (m 87) p k && decide (m 87 k = d))) = false
      rw [q, c]
      rfl
    refine hx_dn (hr234_2 (fun c => absurd c (by omega)) (fun _ => hs205 hk (hs.there k hk) ?_))
    by_cases c : aOwn (m 87) p k = true
    · rw [if_pos c]
      refine hx_dn (hr234_14 (fun c => absurd c (by decide)) (fun _ e => no ?_) (fun _ e => ?_))
      · rw [e0] at e
        rw [decide_eq_false e, Bool.and_false]
      · rw [e0] at e
        have ha : hAnyB (fun y => aOwn (m 87) p y && decide (m 87 y = d)) 40 = true := hAnyB_iff.mpr ⟨k, hk, by
          rw [c, decide_eq_true e]
          rfl⟩
        rw [ha, if_pos rfl] at h
        exact h
    · rw [if_neg c]
      exact hx_dn (hr234_14 (fun _ => no (by rw [Bool.eq_false_iff.mpr c, Bool.false_and])) (fun c => absurd rfl c) (fun c => absurd rfl c))
/-! regime -/
def rgS (s : Nat → Int) (p a : Int) : Nat → Nat
  | 0 => 0
  | k + 1 => rgS s p a k + (if aOwnAt s p (a + (k : Int)) = true then 10 else 0)
theorem rgS_le {p a : Int} : ∀ k, rgS s p a k ≤ 10 * k
  | 0 => Nat.le_refl _
  | k + 1 => by
    have := rgS_le (p := p) (a := a) k
    show rgS s p a k + (if aOwnAt s p (a + (k : Int)) = true then 10 else 0) ≤ 10 * (k + 1)
    split <;> omega
def rgK (s : Nat → Int) (p a b : Int) : Nat := hpop 20 (hOr (fun y => aOwn s p y && aDt s a b y) (fun j => s (80 + j)) 40).toNat
noncomputable def qReg (s : Nat → Int) (p a b : Int) : Int := @ite _ (aPers s p ∧ 0 ≤ a ∧ a ≤ b ∧ b ≤ 99) (Classical.propDecidable _) ((rgS s p a (b - a + 1).toNat : Nat) + (rgK s p a b : Nat) : Int) (-1)
theorem qReg_no {p a b : Int} (h : ¬ (aPers s p ∧ 0 ≤ a ∧ a ≤ b ∧ b ≤ 99)) : qReg s p a b = -1 := if_neg h
theorem qReg_yes {p a b : Int} (h : aPers s p ∧ 0 ≤ a ∧ a ≤ b ∧ b ≤ 99) : qReg s p a b = ((rgS s p a (b - a + 1).toNat : Nat) + (rgK s p a b : Nat) : Int) := if_pos h
theorem q151 (hR : hWr xs m) : hxn xs n yp_m151 0 [(0, .inr (.inl 0)), (1, .inl a1), (2, .inl a2), (3, .inl a3)] [] m (fun r _ => r = some (.inl (qReg (m 87) a1 a2 a3))) := by
  obtain ⟨hs, hB, -⟩ := hR
  have i1 : cPers 5 m a1 ↔ aPers (m 87) a1 := cP_iff hB
  have no : ∀ {P : Prop}, P → (aPers (m 87) a1 ∧ 0 ≤ a2 ∧ a2 ≤ a3 ∧ a3 ≤ 99 → ¬ P) → (some (.inl (-1)) : Option hV) = some (.inl (qReg (m 87) a1 a2 a3)) := fun hP h => by rw [qReg_no (fun q => h q hP)]
  refine hx_dn (hr151_0 (fun _ c => no c (fun q => by omega)) (fun _ _ c => no c (fun q => by omega)) (fun c1 c2 c3 c4 => ?_) (fun _ _ _ c => no c (fun q => by omega)) (fun c => no c (fun q d => d (i1.mpr q.1))))
  rw [qReg_yes ⟨i1.mp c1, c2, c4, c3⟩]
  obtain ⟨A, rfl⟩ : ∃ A : Nat, a2 = (A : Int) := ⟨a2.toNat, by omega⟩
  obtain ⟨N, hN⟩ : ∃ N : Nat, a3 - (A : Int) + 1 = (N : Int) := ⟨(a3 - (A : Int) + 1).toNat, by omega⟩
  rw [hN, Int.toNat_natCast]
  refine hx_pick [1, 2, 3, 4] (hx_dn (hr152_0 (c60 hB (hx_dn (hr152_5 ?_)))))
  have fin : hxn xs n yp_m98 0 [(0, .inr (.inl 5)), (1, .inl (A : Int)), (2, .inl a3)] [] m (fun r m' => hxn xs n yp_m152 64 [] (hrs r ++ [.inr (.inr ((hmask (aOwn (m 87) a1) 40 : Nat) : Int)), .inr (.inl 5), .inl ((rgS (m 87) a1 (A : Int) N : Nat) : Int)]) m' (fun r m' => hxn xs n yp_m151 42 [] (hrs r ++ []) m' (fun r _ => r = some (.inl (((rgS (m 87) a1 (A : Int) N : Nat) : Int) + ((rgK (m 87) a1 (A : Int) a3 : Nat) : Int)))))) := by
    refine c98 hB (hx_dn (hr152_64 ?_))
    rw [hmask_and]
    refine c64 hB (hx_dn (hr152_68 ?_))
    obtain ⟨X, hX, hX2⟩ := hOr_bd (f := fun j => aOwn (m 87) a1 j && aDt (m 87) (A : Int) a3 j) (v := fun j => m 87 (80 + j)) 40 hs.skl
    have ek : rgK (m 87) a1 (A : Int) a3 = hpop 20 X := by
      unfold rgK
      rw [hX, Int.toNat_natCast]
    rw [hX, ek]
    refine hs63 (by omega) (hx_dn (hr152_71 ?_))
    have l1 := rgS_le (s := m 87) (p := a1) (a := (A : Int)) N
    have l2 := hpop_le 20 X
    rw [gx_w_id (by omega) (by omega)]
    exact hx_dn (hr151_42 rfl)
  have h := hloop (N := N) (P := fun k => hxn xs n yp_m152 13 [(1, .inr (.inl 5)), (3, .inl (A : Int)), (4, .inl a3), (5, .inr (.inr ((hmask (aOwn (m 87) a1) 40 : Nat) : Int))), (7, .inl ((rgS (m 87) a1 (A : Int) k : Nat) : Int)), (8, .inl ((A : Int) + (k : Int)))] [] m _) (hx_dn (hr152_13 (fun _ => fin) (fun _ _ => fin) (fun c => absurd c (by omega)))) (fun k hk ih => ?_) 0 (Nat.zero_le _)
  · have e0 : (A : Int) + ((0 : Nat) : Int) = (A : Int) := Int.add_zero _
    rw [e0] at h
    exact h
  · have l1 := rgS_le (s := m 87) (p := a1) (a := (A : Int)) k
    have ew : gx_w ((A : Int) + (k : Int) + 1) = (A : Int) + ((k + 1 : Nat) : Int) := by
      rw [gx_w_id (by omega) (by omega)]
      omega
    have ih : hxn xs n yp_m152 13 [(1, .inr (.inl 5)), (3, .inl (A : Int)), (4, .inl a3), (5, .inr (.inr ((hmask (aOwn (m 87) a1) 40 : Nat) : Int))), (7, .inl ((rgS (m 87) a1 (A : Int) k + (if aOwnAt (m 87) a1 ((A : Int) + (k : Int)) = true then 10 else 0) : Nat) : Int)), (8, .inl ((A : Int) + ((k + 1 : Nat) : Int)))] [] m _ := ih
    refine hx_dn (hr152_13 (fun c => absurd c (by omega)) (fun _ c => absurd c (by omega)) (fun _ _ => c98 hB ?_))
    have oc := own_c (s := m 87) (p := a1) (d := (A : Int) + (k : Int))
    refine hx_dn (hr152_37 (fun c => ?_) (fun c => ?_))
    · rw [if_neg (fun q => oc.mpr q c), Nat.add_zero] at ih
      rw [ew]
      exact ih
    · rw [if_pos (oc.mp c)] at ih
      rw [ew, gx_w_id (by omega) (by omega)]
      exact ih
theorem q267 (hR : hWr xs m) : hxn xs n yp_m267 0 [(0, .inr (.inl 86)), (1, .inl a1), (2, .inl a2), (3, .inl a3)] [] m (fun r _ => r = some (.inl (qReg (m 87) a1 a2 a3))) := by
  obtain ⟨hs, -⟩ := hR
  have no : ∀ {P : Prop}, P → (aPers (m 87) a1 ∧ 0 ≤ a2 ∧ a2 ≤ a3 ∧ a3 ≤ 99 → ¬ P) → (some (.inl (-1)) : Option hV) = some (.inl (qReg (m 87) a1 a2 a3)) := fun hP h => by rw [qReg_no (fun q => h q hP)]
  refine hx_dn (hr267_0 (fun c1 c2 c3 => ?_) (fun _ _ c => no c (fun q d => d ⟨q.2.2.1, q.2.2.2⟩)) (fun _ c => no c (fun q d => d ⟨q.2.1, by omega⟩)) (fun c => no c (fun q d => d q.1)))
  rw [qReg_yes ⟨c1, c2.1, c3.1, c3.2⟩]
  obtain ⟨A, rfl⟩ : ∃ A : Nat, a2 = (A : Int) := ⟨a2.toNat, by omega⟩
  obtain ⟨N, hN⟩ : ∃ N : Nat, a3 - (A : Int) + 1 = (N : Int) := ⟨(a3 - (A : Int) + 1).toNat, by omega⟩
  rw [hN, Int.toNat_natCast]
  have lK : rgK (m 87) a1 (A : Int) a3 ≤ 20 := hpop_le 20 _
  have snd := hloop (N := N) (P := fun k => hxn xs n yp_m267 101 [(0, .inr (.inl 86)), (1, .inl a1), (3, .inl a3), (5, .inl (((rgS (m 87) a1 (A : Int) k : Nat) : Int) + ((rgK (m 87) a1 (A : Int) a3 : Nat) : Int))), (6, .inl ((A : Int) + (k : Int)))] [] m (fun r _ => r = some (.inl (((rgS (m 87) a1 (A : Int) N : Nat) : Int) + ((rgK (m 87) a1 (A : Int) a3 : Nat) : Int))))) (hx_dn (hr267_101 (fun _ => rfl) (fun c => absurd c (by omega)))) (fun k hk ih => ?_) 0 (Nat.zero_le _)
  · have e0 : (A : Int) + ((0 : Nat) : Int) = (A : Int) := Int.add_zero _
    have e1 : ((rgS (m 87) a1 (A : Int) 0 : Nat) : Int) + ((rgK (m 87) a1 (A : Int) a3 : Nat) : Int) = ((rgK (m 87) a1 (A : Int) a3 : Nat) : Int) := Int.zero_add _
    rw [e0, e1] at snd
    refine hloop (N := 40) (P := fun k => hxn xs n yp_m267 36 [(0, .inr (.inl 86)), (1, .inl a1), (2, .inl (A : Int)), (3, .inl a3), (4, .inl (hOr (fun y => aOwn (m 87) a1 y && aDt (m 87) (A : Int) a3 y) (fun j => m 87 (80 + j)) k)), (5, .inl (k : Int))] [] m _) (hx_dn (hr267_36 (fun _ => ?_) (fun c => absurd c (by decide)))) (fun k hk ih => ?_) 0 (Nat.zero_le _)
    · obtain ⟨X, hX, hX2⟩ := hOr_bd (f := fun j => aOwn (m 87) a1 j && aDt (m 87) (A : Int) a3 j) (v := fun j => m 87 (80 + j)) 40 hs.skl
      have ek : rgK (m 87) a1 (A : Int) a3 = hpop 20 X := by
        unfold rgK
        rw [hX, Int.toNat_natCast]
      rw [hX]
      rw [ek] at snd ⊢
      exact hs206 (by omega) (hx_dn (hr267_96 snd))
    · have e0 : (gx_w (0 + (k : Int))).toNat = k := by
        rw [gx_w_id (by omega) (by omega)]
        omega
      have e80 : (gx_w (80 + (k : Int))).toNat = 80 + k := wz (by decide) (by omega)
      refine hx_dn (hr267_36 (fun c => absurd c (by omega)) (fun _ => hs205 hk (hs.there k hk) ?_))
      by_cases c : aOwn (m 87) a1 k = true
      · rw [if_pos c]
        have ht : m 87 (440 + k) = 1 := by
          unfold aOwn at c
          rw [Bool.and_eq_true, decide_eq_true_eq] at c
          exact c.1
        refine hx_dn (hr267_50 (fun c => absurd c (by decide)) (fun _ e => ?_) (fun _ e => ?_))
        · rw [e0] at e
          have hf : (aOwn (m 87) a1 k && aDt (m 87) (A : Int) a3 k) = true := by
            unfold aDt
            rw [c, decide_eq_true ht, decide_eq_true e.1, decide_eq_true e.2]
            rfl
          rw [hOr_t (f := fun y => aOwn (m 87) a1 y && aDt (m 87) (A : Int) a3 y) hf] at ih
          rw [e80, ew_u (by omega)]
          exact ih
        · rw [e0] at e
          have hf : (aOwn (m 87) a1 k && aDt (m 87) (A : Int) a3 k) = false := by
            unfold aDt
            rw [Bool.eq_false_iff]
            intro q
            rw [Bool.and_eq_true, Bool.and_eq_true, Bool.and_eq_true, decide_eq_true_eq, decide_eq_true_eq, decide_eq_true_eq] at q
            exact e q.2.2
          rw [hOr_f (f := fun y => aOwn (m 87) a1 y && aDt (m 87) (A : Int) a3 y) hf] at ih
          rw [ew_u (by omega)]
          exact ih
      · rw [if_neg c]
        have hf : (aOwn (m 87) a1 k && aDt (m 87) (A : Int) a3 k) = false := by rw [Bool.eq_false_iff.mpr c, Bool.false_and]
        rw [hOr_f (f := fun y => aOwn (m 87) a1 y && aDt (m 87) (A : Int) a3 y) hf] at ih
        refine hx_dn (hr267_50 (fun _ => ?_) (fun c => absurd rfl c) (fun c => absurd rfl c))
        rw [ew_u (by omega)]
        exact ih
  · have l1 := rgS_le (s := m 87) (p := a1) (a := (A : Int)) k
    have ew : gx_w ((A : Int) + (k : Int) + 1) = (A : Int) + ((k + 1 : Nat) : Int) := by
      rw [gx_w_id (by omega) (by omega)]
      omega
    have ih : hxn xs n yp_m267 101 [(0, .inr (.inl 86)), (1, .inl a1), (3, .inl a3), (5, .inl (((rgS (m 87) a1 (A : Int) k + (if aOwnAt (m 87) a1 ((A : Int) + (k : Int)) = true then 10 else 0) : Nat) : Int) + ((rgK (m 87) a1 (A : Int) a3 : Nat) : Int))), (6, .inl ((A : Int) + ((k + 1 : Nat) : Int)))] [] m _ := ih
    refine hx_dn (hr267_101 (fun c => absurd c (by omega)) (fun _ => r234 hs ?_))
    by_cases c : aOwnAt (m 87) a1 ((A : Int) + (k : Int)) = true
    · rw [if_pos c] at ih ⊢
      refine hx_dn (hr267_116 (fun c => absurd c (by decide)) (fun _ => ?_))
      have e3 : gx_w (((rgS (m 87) a1 (A : Int) k : Nat) : Int) + ((rgK (m 87) a1 (A : Int) a3 : Nat) : Int) + 10) = ((rgS (m 87) a1 (A : Int) k + 10 : Nat) : Int) + ((rgK (m 87) a1 (A : Int) a3 : Nat) : Int) := by
        rw [gx_w_id (by omega) (by omega)]
        omega
      rw [ew, e3]
      exact ih
    · rw [if_neg c] at ih ⊢
      rw [Nat.add_zero] at ih
      refine hx_dn (hr267_116 (fun _ => ?_) (fun c => absurd rfl c))
      rw [ew, gx_w_id (by omega) (by omega), Int.add_zero]
      exact ih
end CM
end
section
/-! deeds, dealtIn: roads (cDeed lies in 60a) -/
/-- firstHandOfDate from 0 on -/
theorem hr97_0 {xs : List Int32} {n : Nat} {Q : hQ} {m : gx_M} {x1 : Int}
    (h1 : (cYear 5 m x1) → hxn xs n yp_m98 0 [(0, .inr (.inl 5)), (1, .inl (m 7 (x1).toNat)), (2, .inl (m 7 (x1).toNat))] [] m (fun r m' => hxn xs n yp_m97 26 [(0, .inr (.inl 5)), (1, .inl x1)] (hrs r ++ []) m' Q))
    (h2 : (¬ (cYear 5 m x1)) → Q (some (.inl (-1))) m) : hxn xs (n + 1) yp_m97 0 [(0, .inr (.inl 5)), (1, .inl x1)] [] m Q := by
  refine hx_blks (npc := 2) (L' := [(0, .inr (.inl 5)), (1, .inl x1)]) (st' := [.inl x1, .inr (.inl 5)]) (m' := m) ((0, .aload_n 0, 1, 0, 0, 0, 0), (0, 0, 0)) [((1, .iload_n 1, 1, 0, 0, 0, 0), (0, 0, 0))] (by decide +kernel) rfl ?_
  refine hx_call (E := (2, .invokevirtual 27, 3, 17, 0, 4031, 0)) (M' := yp_m17) [.inr (.inl 5), .inl x1] [] rfl (by decide +kernel) rfl ⟨rfl, rfl⟩ rfl rfl (hs17_5 (fun c1 => ?_) (fun c1 => ?_))
  · have c1 : cYear 5 m x1 := c1
    show hxn xs n yp_m97 5 [(0, .inr (.inl 5)), (1, .inl x1)] [.inl 1] m Q
    refine hx_if .ne 10 (by decide +kernel) (fun c2 => ?_) (fun c2 => ?_)
    · have c2 : (1 : Int) ≠ 0 := c2
      refine hx_blk (npc := 23) (L' := [(0, .inr (.inl 5)), (1, .inl x1)]) (st' := [.inl (m 7 (x1).toNat), .inl (m 7 (x1).toNat), .inr (.inl 5)]) (m' := m) [((10, .aload_n 0, 1, 0, 0, 0, 0), (0, 0, 0)), ((11, .aload_n 0, 1, 0, 0, 0, 0), (0, 0, 0)), ((12, .getfield 33, 3, 2, 6, 1093, 0), (1, 5, 7)), ((15, .iload_n 1, 1, 0, 0, 0, 0), (0, 0, 0)), ((16, .iaload, 1, 0, 0, 0, 0), (0, 7, 0)), ((17, .aload_n 0, 1, 0, 0, 0, 0), (0, 0, 0)), ((18, .getfield 33, 3, 2, 6, 1093, 0), (1, 5, 7)), ((21, .iload_n 1, 1, 0, 0, 0, 0), (0, 0, 0)), ((22, .iaload, 1, 0, 0, 0, 0), (0, 7, 0))] (by decide +kernel) rfl ?_
      exact hx_call (E := (23, .invokevirtual 84, 3, 98, 0, 4068, 0)) (M' := yp_m98) [.inr (.inl 5), .inl (m 7 (x1).toNat), .inl (m 7 (x1).toNat)] [] rfl (by decide +kernel) rfl ⟨rfl, rfl⟩ rfl rfl (hx_mono (h1 c1) (fun r m' h' => hx_pick [0, 1] h'))
    · have c2 : (1 : Int) = 0 := by have h : ¬ ((1 : Int) ≠ 0) := c2; omega
      exfalso; omega
  · have c1 : ¬ (cYear 5 m x1) := c1
    show hxn xs n yp_m97 5 [(0, .inr (.inl 5)), (1, .inl x1)] [.inl 0] m Q
    refine hx_if .ne 10 (by decide +kernel) (fun c2 => ?_) (fun c2 => ?_)
    · have c2 : (0 : Int) ≠ 0 := c2
      exfalso; omega
    · have c2 : (0 : Int) = 0 := by have h : ¬ ((0 : Int) ≠ 0) := c2; omega
      refine hx_blk (npc := 9) (L' := [(0, .inr (.inl 5)), (1, .inl x1)]) (st' := [.inl (-1)]) (m' := m) [((8, .iconst (-1), 1, 0, 0, 0, 0), (0, 0, 0))] (by decide +kernel) rfl ?_
      exact hx_reti (by decide +kernel) (h2 c1)

/-- firstHandOfDate from 26 on -/
theorem hr97_26 {xs : List Int32} {n : Nat} {Q : hQ} {m : gx_M} {x1 s0 : Int}
    (h1 : hxn xs n yp_m97 30 [(0, .inr (.inl 5)), (1, .inl x1), (2, .inr (.inr s0)), (4, .inl 0)] [] m Q) : hxn xs (n + 1) yp_m97 26 [(0, .inr (.inl 5)), (1, .inl x1)] [.inr (.inr s0)] m Q := by
  refine hx_blks (npc := 30) (L' := [(0, .inr (.inl 5)), (1, .inl x1), (2, .inr (.inr s0)), (4, .inl 0)]) (st' := []) (m' := m) ((26, .lstore_n 2, 1, 0, 0, 0, 0), (0, 0, 0)) [((27, .iconst 0, 1, 0, 0, 0, 0), (0, 0, 0)), ((28, .istore 4, 2, 0, 0, 0, 0), (0, 0, 0))] (by decide +kernel) rfl ?_
  exact hx_pick [0, 1, 2, 4] h1

/-- firstHandOfDate from 30 on -/
theorem hr97_30 {xs : List Int32} {n : Nat} {Q : hQ} {m : gx_M} {x1 x2 x4 : Int}
    (h1 : ((m 16 (x1).toNat) ≤ x4) → Q (some (.inl (m 8 (x1).toNat))) m)
    (h2 : (x4 < (m 16 (x1).toNat)) → hxn xs n yp_m74 0 [(0, .inr (.inl 5)), (1, .inl x1), (2, .inl x4)] [] m (fun r m' => hxn xs n yp_m97 48 [(0, .inr (.inl 5)), (1, .inl x1), (2, .inr (.inr x2)), (4, .inl x4)] (hrs r ++ []) m' Q)) : hxn xs (n + 1) yp_m97 30 [(0, .inr (.inl 5)), (1, .inl x1), (2, .inr (.inr x2)), (4, .inl x4)] [] m Q := by
  refine hx_blks (npc := 38) (L' := [(0, .inr (.inl 5)), (1, .inl x1), (2, .inr (.inr x2)), (4, .inl x4)]) (st' := [.inl (m 16 (x1).toNat), .inl x4]) (m' := m) ((30, .iload 4, 2, 0, 0, 0, 0), (0, 0, 0)) [((32, .aload_n 0, 1, 0, 0, 0, 0), (0, 0, 0)), ((33, .getfield 88, 3, 2, 15, 1134, 0), (1, 5, 16)), ((36, .iload_n 1, 1, 0, 0, 0, 0), (0, 0, 0)), ((37, .iaload, 1, 0, 0, 0, 0), (0, 16, 0))] (by decide +kernel) rfl ?_
  refine hx_cmp .ge 72 (by decide +kernel) (fun c1 => ?_) (fun c1 => ?_)
  · have c1 : (m 16 (x1).toNat) ≤ x4 := c1
    refine hx_blk (npc := 78) (L' := [(0, .inr (.inl 5)), (1, .inl x1), (2, .inr (.inr x2)), (4, .inl x4)]) (st' := [.inl (m 8 (x1).toNat)]) (m' := m) [((72, .aload_n 0, 1, 0, 0, 0, 0), (0, 0, 0)), ((73, .getfield 36, 3, 2, 7, 1097, 0), (1, 5, 8)), ((76, .iload_n 1, 1, 0, 0, 0, 0), (0, 0, 0)), ((77, .iaload, 1, 0, 0, 0, 0), (0, 8, 0))] (by decide +kernel) rfl ?_
    exact hx_reti (by decide +kernel) (h1 c1)
  · have c1 : x4 < (m 16 (x1).toNat) := by have h : ¬ ((m 16 (x1).toNat) ≤ x4) := c1; omega
    refine hx_blk (npc := 45) (L' := [(0, .inr (.inl 5)), (1, .inl x1), (2, .inr (.inr x2)), (4, .inl x4)]) (st' := [.inl x4, .inl x1, .inr (.inl 5)]) (m' := m) [((41, .aload_n 0, 1, 0, 0, 0, 0), (0, 0, 0)), ((42, .iload_n 1, 1, 0, 0, 0, 0), (0, 0, 0)), ((43, .iload 4, 2, 0, 0, 0, 0), (0, 0, 0))] (by decide +kernel) rfl ?_
    exact hx_call (E := (45, .invokevirtual 91, 3, 74, 0, 4072, 0)) (M' := yp_m74) [.inr (.inl 5), .inl x1, .inl x4] [] rfl (by decide +kernel) rfl ⟨rfl, rfl⟩ rfl rfl (hx_mono (h2 c1) (fun r m' h' => hx_pick [0, 1, 2, 4] h'))

/-- firstHandOfDate from 48 on -/
theorem hr97_48 {xs : List Int32} {n : Nat} {Q : hQ} {m : gx_M} {x1 x2 x4 s0 : Int}
    (h1 : hxn xs n yp_m60 0 [(0, .inr (.inl 5)), (1, .inl s0)] [] m (fun r m' => hxn xs n yp_m97 56 [(0, .inr (.inl 5)), (1, .inl x1), (2, .inr (.inr x2)), (4, .inl x4), (5, .inl s0)] (hrs r ++ []) m' Q)) : hxn xs (n + 1) yp_m97 48 [(0, .inr (.inl 5)), (1, .inl x1), (2, .inr (.inr x2)), (4, .inl x4)] [.inl s0] m Q := by
  refine hx_blks (npc := 53) (L' := [(0, .inr (.inl 5)), (1, .inl x1), (2, .inr (.inr x2)), (4, .inl x4), (5, .inl s0)]) (st' := [.inl s0, .inr (.inl 5)]) (m' := m) ((48, .istore 5, 2, 0, 0, 0, 0), (0, 0, 0)) [((50, .aload_n 0, 1, 0, 0, 0, 0), (0, 0, 0)), ((51, .iload 5, 2, 0, 0, 0, 0), (0, 0, 0))] (by decide +kernel) rfl ?_
  exact hx_call (E := (53, .invokevirtual 42, 3, 60, 0, 4024, 0)) (M' := yp_m60) [.inr (.inl 5), .inl s0] [] rfl (by decide +kernel) rfl ⟨rfl, rfl⟩ rfl rfl (hx_mono h1 (fun r m' h' => hx_pick [0, 1, 2, 4, 5] h'))

/-- firstHandOfDate from 56 on -/
theorem hr97_56 {xs : List Int32} {n : Nat} {Q : hQ} {m : gx_M} {x1 x2 x4 x5 s0 : Int}
    (h1 : ((hlcmp (hland s0 x2) 0) = 0) → hxn xs n yp_m97 30 [(0, .inr (.inl 5)), (1, .inl x1), (2, .inr (.inr x2)), (4, .inl (gx_w (x4 + 1)))] [] m Q)
    (h2 : ((hlcmp (hland s0 x2) 0) ≠ 0) → Q (some (.inl x5)) m) : hxn xs (n + 1) yp_m97 56 [(0, .inr (.inl 5)), (1, .inl x1), (2, .inr (.inr x2)), (4, .inl x4), (5, .inl x5)] [.inr (.inr s0)] m Q := by
  refine hx_blks (npc := 60) (L' := [(0, .inr (.inl 5)), (1, .inl x1), (2, .inr (.inr x2)), (4, .inl x4), (5, .inl x5)]) (st' := [.inl (hlcmp (hland s0 x2) 0)]) (m' := m) ((56, .lload_n 2, 1, 0, 0, 0, 0), (0, 0, 0)) [((57, .land, 1, 0, 0, 0, 0), (0, 0, 0)), ((58, .lconst 0, 1, 0, 0, 0, 0), (0, 0, 0)), ((59, .lcmp, 1, 0, 0, 0, 0), (0, 0, 0))] (by decide +kernel) rfl ?_
  refine hx_if .eq 66 (by decide +kernel) (fun c1 => ?_) (fun c1 => ?_)
  · have c1 : (hlcmp (hland s0 x2) 0) = 0 := c1
    refine hx_blk (npc := 30) (L' := [(0, .inr (.inl 5)), (1, .inl x1), (2, .inr (.inr x2)), (4, .inl (gx_w (x4 + 1))), (5, .inl x5)]) (st' := []) (m' := m) [((66, .iinc 4 1, 3, 0, 0, 0, 0), (0, 0, 0)), ((69, .goto (-39), 3, 0, 0, 0, 0), (0, 0, 0))] (by decide +kernel) rfl ?_
    exact hx_pick [0, 1, 2, 4] (h1 c1)
  · have c1 : (hlcmp (hland s0 x2) 0) ≠ 0 := c1
    refine hx_blk (npc := 65) (L' := [(0, .inr (.inl 5)), (1, .inl x1), (2, .inr (.inr x2)), (4, .inl x4), (5, .inl x5)]) (st' := [.inl x5]) (m' := m) [((63, .iload 5, 2, 0, 0, 0, 0), (0, 0, 0))] (by decide +kernel) rfl ?_
    exact hx_reti (by decide +kernel) (h2 c1)

/-- doer from 0 on -/
theorem hr96_0 {xs : List Int32} {n : Nat} {Q : hQ} {m : gx_M} {x1 x2 : Int}
    (h1 : (cYear 5 m x1) → (x2 ≠ 1) → (x2 ≠ 2) → Q (some (.inl (m 8 (x1).toNat))) m)
    (h2 : (cYear 5 m x1) → (x2 ≠ 1) → (x2 = 2) → hxn xs n yp_m97 0 [(0, .inr (.inl 5)), (1, .inl x1)] [] m (fun r m' => hxn xs n yp_m96 49 [] (hrs r ++ []) m' Q))
    (h3 : (cYear 5 m x1) → (x2 = 1) → (cPwd 5 13 m x1) → Q (some (.inl (m 13 (x1).toNat))) m)
    (h4 : (cYear 5 m x1) → (x2 = 1) → (¬ (cPwd 5 13 m x1)) → Q (some (.inl (m 12 (x1).toNat))) m)
    (h5 : (¬ (cYear 5 m x1)) → Q (some (.inl (-1))) m) : hxn xs (n + 1) yp_m96 0 [(0, .inr (.inl 5)), (1, .inl x1), (2, .inl x2)] [] m Q := by
  refine hx_blks (npc := 2) (L' := [(0, .inr (.inl 5)), (1, .inl x1), (2, .inl x2)]) (st' := [.inl x1, .inr (.inl 5)]) (m' := m) ((0, .aload_n 0, 1, 0, 0, 0, 0), (0, 0, 0)) [((1, .iload_n 1, 1, 0, 0, 0, 0), (0, 0, 0))] (by decide +kernel) rfl ?_
  refine hx_call (E := (2, .invokevirtual 27, 3, 17, 0, 4031, 0)) (M' := yp_m17) [.inr (.inl 5), .inl x1] [] rfl (by decide +kernel) rfl ⟨rfl, rfl⟩ rfl rfl (hs17_5 (fun c1 => ?_) (fun c1 => ?_))
  · have c1 : cYear 5 m x1 := c1
    show hxn xs n yp_m96 5 [(0, .inr (.inl 5)), (1, .inl x1), (2, .inl x2)] [.inl 1] m Q
    refine hx_if .ne 10 (by decide +kernel) (fun c2 => ?_) (fun c2 => ?_)
    · have c2 : (1 : Int) ≠ 0 := c2
      refine hx_blk (npc := 12) (L' := [(0, .inr (.inl 5)), (1, .inl x1), (2, .inl x2)]) (st' := [.inl 1, .inl x2]) (m' := m) [((10, .iload_n 2, 1, 0, 0, 0, 0), (0, 0, 0)), ((11, .iconst 1, 1, 0, 0, 0, 0), (0, 0, 0))] (by decide +kernel) rfl ?_
      refine hx_cmp .ne 39 (by decide +kernel) (fun c2 => ?_) (fun c2 => ?_)
      · have c2 : x2 ≠ 1 := c2
        refine hx_blk (npc := 41) (L' := [(0, .inr (.inl 5)), (1, .inl x1), (2, .inl x2)]) (st' := [.inl 2, .inl x2]) (m' := m) [((39, .iload_n 2, 1, 0, 0, 0, 0), (0, 0, 0)), ((40, .iconst 2, 1, 0, 0, 0, 0), (0, 0, 0))] (by decide +kernel) rfl ?_
        refine hx_cmp .ne 52 (by decide +kernel) (fun c3 => ?_) (fun c3 => ?_)
        · have c3 : x2 ≠ 2 := c3
          refine hx_blk (npc := 58) (L' := [(0, .inr (.inl 5)), (1, .inl x1), (2, .inl x2)]) (st' := [.inl (m 8 (x1).toNat)]) (m' := m) [((52, .aload_n 0, 1, 0, 0, 0, 0), (0, 0, 0)), ((53, .getfield 36, 3, 2, 7, 1097, 0), (1, 5, 8)), ((56, .iload_n 1, 1, 0, 0, 0, 0), (0, 0, 0)), ((57, .iaload, 1, 0, 0, 0, 0), (0, 8, 0))] (by decide +kernel) rfl ?_
          exact hx_reti (by decide +kernel) (h1 c1 c2 c3)
        · have c3 : x2 = 2 := by have h : ¬ (x2 ≠ 2) := c3; omega
          refine hx_blk (npc := 46) (L' := [(0, .inr (.inl 5)), (1, .inl x1), (2, .inl x2)]) (st' := [.inl x1, .inr (.inl 5)]) (m' := m) [((44, .aload_n 0, 1, 0, 0, 0, 0), (0, 0, 0)), ((45, .iload_n 1, 1, 0, 0, 0, 0), (0, 0, 0))] (by decide +kernel) rfl ?_
          exact hx_call (E := (46, .invokestatic 80, 3, 97, 0, 4065, 0)) (M' := yp_m97) [.inr (.inl 5), .inl x1] [] rfl (by decide +kernel) rfl ⟨rfl, rfl⟩ rfl rfl (hx_mono (h2 c1 c2 c3) (fun r m' h' => hx_pick [] h'))
      · have c2 : x2 = 1 := by have h : ¬ (x2 ≠ 1) := c2; omega
        refine hx_blk (npc := 17) (L' := [(0, .inr (.inl 5)), (1, .inl x1), (2, .inl x2)]) (st' := [.inl x1, .inr (.inl 5)]) (m' := m) [((15, .aload_n 0, 1, 0, 0, 0, 0), (0, 0, 0)), ((16, .iload_n 1, 1, 0, 0, 0, 0), (0, 0, 0))] (by decide +kernel) rfl ?_
        refine hx_call (E := (17, .invokevirtual 71, 3, 79, 0, 4064, 0)) (M' := yp_m79) [.inr (.inl 5), .inl x1] [] rfl (by decide +kernel) rfl ⟨rfl, rfl⟩ rfl rfl (hs79_5 (fun c3 => ?_) (fun c3 => ?_))
        · have c3 : cPwd 5 13 m x1 := c3
          show hxn xs n yp_m96 20 [(0, .inr (.inl 5)), (1, .inl x1), (2, .inl x2)] [.inl 1] m Q
          refine hx_if .eq 32 (by decide +kernel) (fun c4 => ?_) (fun c4 => ?_)
          · have c4 : (1 : Int) = 0 := c4
            exfalso; omega
          · have c4 : (1 : Int) ≠ 0 := c4
            refine hx_blk (npc := 38) (L' := [(0, .inr (.inl 5)), (1, .inl x1), (2, .inl x2)]) (st' := [.inl (m 13 (x1).toNat)]) (m' := m) [((23, .aload_n 0, 1, 0, 0, 0, 0), (0, 0, 0)), ((24, .getfield 74, 3, 2, 12, 1123, 0), (1, 5, 13)), ((27, .iload_n 1, 1, 0, 0, 0, 0), (0, 0, 0)), ((28, .iaload, 1, 0, 0, 0, 0), (0, 13, 0)), ((29, .goto 9, 3, 0, 0, 0, 0), (0, 0, 0))] (by decide +kernel) rfl ?_
            exact hx_reti (by decide +kernel) (h3 c1 c2 c3)
        · have c3 : ¬ (cPwd 5 13 m x1) := c3
          show hxn xs n yp_m96 20 [(0, .inr (.inl 5)), (1, .inl x1), (2, .inl x2)] [.inl 0] m Q
          refine hx_if .eq 32 (by decide +kernel) (fun c4 => ?_) (fun c4 => ?_)
          · have c4 : (0 : Int) = 0 := c4
            refine hx_blk (npc := 38) (L' := [(0, .inr (.inl 5)), (1, .inl x1), (2, .inl x2)]) (st' := [.inl (m 12 (x1).toNat)]) (m' := m) [((32, .aload_n 0, 1, 0, 0, 0, 0), (0, 0, 0)), ((33, .getfield 77, 3, 2, 11, 1117, 0), (1, 5, 12)), ((36, .iload_n 1, 1, 0, 0, 0, 0), (0, 0, 0)), ((37, .iaload, 1, 0, 0, 0, 0), (0, 12, 0))] (by decide +kernel) rfl ?_
            exact hx_reti (by decide +kernel) (h4 c1 c2 c3)
          · have c4 : (0 : Int) ≠ 0 := c4
            exfalso; omega
    · have c2 : (1 : Int) = 0 := by have h : ¬ ((1 : Int) ≠ 0) := c2; omega
      exfalso; omega
  · have c1 : ¬ (cYear 5 m x1) := c1
    show hxn xs n yp_m96 5 [(0, .inr (.inl 5)), (1, .inl x1), (2, .inl x2)] [.inl 0] m Q
    refine hx_if .ne 10 (by decide +kernel) (fun c2 => ?_) (fun c2 => ?_)
    · have c2 : (0 : Int) ≠ 0 := c2
      exfalso; omega
    · have c2 : (0 : Int) = 0 := by have h : ¬ ((0 : Int) ≠ 0) := c2; omega
      refine hx_blk (npc := 9) (L' := [(0, .inr (.inl 5)), (1, .inl x1), (2, .inl x2)]) (st' := [.inl (-1)]) (m' := m) [((8, .iconst (-1), 1, 0, 0, 0, 0), (0, 0, 0))] (by decide +kernel) rfl ?_
      exact hx_reti (by decide +kernel) (h5 c1)

/-- doer from 49 on -/
theorem hr96_49 {xs : List Int32} {n : Nat} {Q : hQ} {m : gx_M} {s0 : Int}
    (h1 : Q (some (.inl s0)) m) : hxn xs (n + 1) yp_m96 49 [] [.inl s0] m Q := by
  refine hx_blks (npc := 58) (L' := []) (st' := [.inl s0]) (m' := m) ((49, .goto 9, 3, 0, 0, 0, 0), (0, 0, 0)) [] (by decide +kernel) rfl ?_
  exact hx_reti (by decide +kernel) h1

/-- deeds from 0 on -/
theorem hr95_0 {xs : List Int32} {n : Nat} {Q : hQ} {m : gx_M} {x1 x2 : Int}
    (h1 : (cPers 5 m x1) → (x2 < 0) → Q (some (.inl (-1))) m)
    (h2 : (cPers 5 m x1) → (0 ≤ x2) → (x2 ≤ 2) → hxn xs n yp_m95 27 [(0, .inr (.inl 0)), (1, .inl x1), (2, .inl x2), (3, .inl 0), (4, .inl 0)] [] m Q)
    (h3 : (cPers 5 m x1) → (0 ≤ x2) → (2 < x2) → Q (some (.inl (-1))) m)
    (h4 : (¬ (cPers 5 m x1)) → Q (some (.inl (-1))) m) : hxn xs (n + 1) yp_m95 0 [(0, .inr (.inl 0)), (1, .inl x1), (2, .inl x2)] [] m Q := by
  refine hx_blks (npc := 5) (L' := [(0, .inr (.inl 0)), (1, .inl x1), (2, .inl x2)]) (st' := [.inl x1, .inr (.inl 5)]) (m' := m) ((0, .aload_n 0, 1, 0, 0, 0, 0), (0, 0, 0)) [((1, .getfield 26, 3, 9, 2, 2121, 0), (1, 0, 5)), ((4, .iload_n 1, 1, 0, 0, 0, 0), (0, 0, 0))] (by decide +kernel) rfl ?_
  refine hx_call (E := (5, .invokevirtual 94, 3, 13, 0, 2171, 0)) (M' := yp_m13) [.inr (.inl 5), .inl x1] [] rfl (by decide +kernel) rfl ⟨rfl, rfl⟩ rfl rfl (hs13_5 (fun c1 => ?_) (fun c1 => ?_))
  · have c1 : cPers 5 m x1 := c1
    show hxn xs n yp_m95 8 [(0, .inr (.inl 0)), (1, .inl x1), (2, .inl x2)] [.inl 1] m Q
    refine hx_if .eq 20 (by decide +kernel) (fun c2 => ?_) (fun c2 => ?_)
    · have c2 : (1 : Int) = 0 := c2
      exfalso; omega
    · have c2 : (1 : Int) ≠ 0 := c2
      refine hx_blk (npc := 12) (L' := [(0, .inr (.inl 0)), (1, .inl x1), (2, .inl x2)]) (st' := [.inl x2]) (m' := m) [((11, .iload_n 2, 1, 0, 0, 0, 0), (0, 0, 0))] (by decide +kernel) rfl ?_
      refine hx_if .lt 20 (by decide +kernel) (fun c2 => ?_) (fun c2 => ?_)
      · have c2 : x2 < 0 := c2
        refine hx_blk (npc := 21) (L' := [(0, .inr (.inl 0)), (1, .inl x1), (2, .inl x2)]) (st' := [.inl (-1)]) (m' := m) [((20, .iconst (-1), 1, 0, 0, 0, 0), (0, 0, 0))] (by decide +kernel) rfl ?_
        exact hx_reti (by decide +kernel) (h1 c1 c2)
      · have c2 : 0 ≤ x2 := by have h : ¬ (x2 < 0) := c2; omega
        refine hx_blk (npc := 17) (L' := [(0, .inr (.inl 0)), (1, .inl x1), (2, .inl x2)]) (st' := [.inl 2, .inl x2]) (m' := m) [((15, .iload_n 2, 1, 0, 0, 0, 0), (0, 0, 0)), ((16, .iconst 2, 1, 0, 0, 0, 0), (0, 0, 0))] (by decide +kernel) rfl ?_
        refine hx_cmp .le 22 (by decide +kernel) (fun c3 => ?_) (fun c3 => ?_)
        · have c3 : x2 ≤ 2 := c3
          refine hx_blk (npc := 27) (L' := [(0, .inr (.inl 0)), (1, .inl x1), (2, .inl x2), (3, .inl 0), (4, .inl 0)]) (st' := []) (m' := m) [((22, .iconst 0, 1, 0, 0, 0, 0), (0, 0, 0)), ((23, .istore_n 3, 1, 0, 0, 0, 0), (0, 0, 0)), ((24, .iconst 0, 1, 0, 0, 0, 0), (0, 0, 0)), ((25, .istore 4, 2, 0, 0, 0, 0), (0, 0, 0))] (by decide +kernel) rfl ?_
          exact hx_pick [0, 1, 2, 3, 4] (h2 c1 c2 c3)
        · have c3 : 2 < x2 := by have h : ¬ (x2 ≤ 2) := c3; omega
          refine hx_blk (npc := 21) (L' := [(0, .inr (.inl 0)), (1, .inl x1), (2, .inl x2)]) (st' := [.inl (-1)]) (m' := m) [((20, .iconst (-1), 1, 0, 0, 0, 0), (0, 0, 0))] (by decide +kernel) rfl ?_
          exact hx_reti (by decide +kernel) (h3 c1 c2 c3)
  · have c1 : ¬ (cPers 5 m x1) := c1
    show hxn xs n yp_m95 8 [(0, .inr (.inl 0)), (1, .inl x1), (2, .inl x2)] [.inl 0] m Q
    refine hx_if .eq 20 (by decide +kernel) (fun c2 => ?_) (fun c2 => ?_)
    · have c2 : (0 : Int) = 0 := c2
      refine hx_blk (npc := 21) (L' := [(0, .inr (.inl 0)), (1, .inl x1), (2, .inl x2)]) (st' := [.inl (-1)]) (m' := m) [((20, .iconst (-1), 1, 0, 0, 0, 0), (0, 0, 0))] (by decide +kernel) rfl ?_
      exact hx_reti (by decide +kernel) (h4 c1)
    · have c2 : (0 : Int) ≠ 0 := c2
      exfalso; omega

/-- deeds from 27 on -/
theorem hr95_27 {xs : List Int32} {n : Nat} {Q : hQ} {m : gx_M} {x1 x2 x3 x4 : Int}
    (h1 : (40 ≤ x4) → Q (some (.inl x3)) m)
    (h2 : (x4 < 40) → (cDeed 5 m x4) → hxn xs n yp_m96 0 [(0, .inr (.inl 5)), (1, .inl x4), (2, .inl x2)] [] m (fun r m' => hxn xs n yp_m95 56 [(0, .inr (.inl 0)), (1, .inl x1), (2, .inl x2), (3, .inl x3), (4, .inl x4)] (hrs r ++ []) m' Q))
    (h3 : (x4 < 40) → (¬ (cDeed 5 m x4)) → hxn xs n yp_m95 27 [(0, .inr (.inl 0)), (1, .inl x1), (2, .inl x2), (3, .inl x3), (4, .inl (gx_w (x4 + 1)))] [] m Q) : hxn xs (n + 1) yp_m95 27 [(0, .inr (.inl 0)), (1, .inl x1), (2, .inl x2), (3, .inl x3), (4, .inl x4)] [] m Q := by
  refine hx_blks (npc := 31) (L' := [(0, .inr (.inl 0)), (1, .inl x1), (2, .inl x2), (3, .inl x3), (4, .inl x4)]) (st' := [.inl 40, .inl x4]) (m' := m) ((27, .iload 4, 2, 0, 0, 0, 0), (0, 0, 0)) [((29, .bipush 40, 2, 0, 0, 0, 0), (0, 0, 0))] (by decide +kernel) rfl ?_
  refine hx_cmp .ge 69 (by decide +kernel) (fun c1 => ?_) (fun c1 => ?_)
  · have c1 : 40 ≤ x4 := c1
    refine hx_blk (npc := 70) (L' := [(0, .inr (.inl 0)), (1, .inl x1), (2, .inl x2), (3, .inl x3), (4, .inl x4)]) (st' := [.inl x3]) (m' := m) [((69, .iload_n 3, 1, 0, 0, 0, 0), (0, 0, 0))] (by decide +kernel) rfl ?_
    exact hx_reti (by decide +kernel) (h1 c1)
  · have c1 : x4 < 40 := by have h : ¬ (40 ≤ x4) := c1; omega
    refine hx_blk (npc := 40) (L' := [(0, .inr (.inl 0)), (1, .inl x1), (2, .inl x2), (3, .inl x3), (4, .inl x4)]) (st' := [.inl x4, .inr (.inl 5)]) (m' := m) [((34, .aload_n 0, 1, 0, 0, 0, 0), (0, 0, 0)), ((35, .getfield 26, 3, 9, 2, 2121, 0), (1, 0, 5)), ((38, .iload 4, 2, 0, 0, 0, 0), (0, 0, 0))] (by decide +kernel) rfl ?_
    refine hx_call (E := (40, .invokevirtual 162, 3, 73, 0, 3203, 0)) (M' := yp_m73) [.inr (.inl 5), .inl x4] [] rfl (by decide +kernel) rfl ⟨rfl, rfl⟩ rfl rfl (hs73_5 (fun c2 => ?_) (fun c2 => ?_))
    · have c2 : cDeed 5 m x4 := c2
      show hxn xs n yp_m95 43 [(0, .inr (.inl 0)), (1, .inl x1), (2, .inl x2), (3, .inl x3), (4, .inl x4)] [.inl 1] m Q
      refine hx_if .eq 63 (by decide +kernel) (fun c3 => ?_) (fun c3 => ?_)
      · have c3 : (1 : Int) = 0 := c3
        exfalso; omega
      · have c3 : (1 : Int) ≠ 0 := c3
        refine hx_blk (npc := 53) (L' := [(0, .inr (.inl 0)), (1, .inl x1), (2, .inl x2), (3, .inl x3), (4, .inl x4)]) (st' := [.inl x2, .inl x4, .inr (.inl 5)]) (m' := m) [((46, .aload_n 0, 1, 0, 0, 0, 0), (0, 0, 0)), ((47, .getfield 26, 3, 9, 2, 2121, 0), (1, 0, 5)), ((50, .iload 4, 2, 0, 0, 0, 0), (0, 0, 0)), ((52, .iload_n 2, 1, 0, 0, 0, 0), (0, 0, 0))] (by decide +kernel) rfl ?_
        exact hx_call (E := (53, .invokestatic 232, 3, 96, 0, 4061, 0)) (M' := yp_m96) [.inr (.inl 5), .inl x4, .inl x2] [] rfl (by decide +kernel) rfl ⟨rfl, rfl⟩ rfl rfl (hx_mono (h2 c1 c2) (fun r m' h' => hx_pick [0, 1, 2, 3, 4] h'))
    · have c2 : ¬ (cDeed 5 m x4) := c2
      show hxn xs n yp_m95 43 [(0, .inr (.inl 0)), (1, .inl x1), (2, .inl x2), (3, .inl x3), (4, .inl x4)] [.inl 0] m Q
      refine hx_if .eq 63 (by decide +kernel) (fun c3 => ?_) (fun c3 => ?_)
      · have c3 : (0 : Int) = 0 := c3
        refine hx_blk (npc := 27) (L' := [(0, .inr (.inl 0)), (1, .inl x1), (2, .inl x2), (3, .inl x3), (4, .inl (gx_w (x4 + 1)))]) (st' := []) (m' := m) [((63, .iinc 4 1, 3, 0, 0, 0, 0), (0, 0, 0)), ((66, .goto (-39), 3, 0, 0, 0, 0), (0, 0, 0))] (by decide +kernel) rfl ?_
        exact hx_pick [0, 1, 2, 3, 4] (h3 c1 c2)
      · have c3 : (0 : Int) ≠ 0 := c3
        exfalso; omega

/-- deeds from 56 on -/
theorem hr95_56 {xs : List Int32} {n : Nat} {Q : hQ} {m : gx_M} {x1 x2 x3 x4 s0 : Int}
    (h1 : (s0 ≠ x1) → hxn xs n yp_m95 27 [(0, .inr (.inl 0)), (1, .inl x1), (2, .inl x2), (3, .inl x3), (4, .inl (gx_w (x4 + 1)))] [] m Q)
    (h2 : (s0 = x1) → hxn xs n yp_m95 27 [(0, .inr (.inl 0)), (1, .inl x1), (2, .inl x2), (3, .inl (gx_w (x3 + 1))), (4, .inl (gx_w (x4 + 1)))] [] m Q) : hxn xs (n + 1) yp_m95 56 [(0, .inr (.inl 0)), (1, .inl x1), (2, .inl x2), (3, .inl x3), (4, .inl x4)] [.inl s0] m Q := by
  refine hx_blks (npc := 57) (L' := [(0, .inr (.inl 0)), (1, .inl x1), (2, .inl x2), (3, .inl x3), (4, .inl x4)]) (st' := [.inl x1, .inl s0]) (m' := m) ((56, .iload_n 1, 1, 0, 0, 0, 0), (0, 0, 0)) [] (by decide +kernel) rfl ?_
  refine hx_cmp .ne 63 (by decide +kernel) (fun c1 => ?_) (fun c1 => ?_)
  · have c1 : s0 ≠ x1 := c1
    refine hx_blk (npc := 27) (L' := [(0, .inr (.inl 0)), (1, .inl x1), (2, .inl x2), (3, .inl x3), (4, .inl (gx_w (x4 + 1)))]) (st' := []) (m' := m) [((63, .iinc 4 1, 3, 0, 0, 0, 0), (0, 0, 0)), ((66, .goto (-39), 3, 0, 0, 0, 0), (0, 0, 0))] (by decide +kernel) rfl ?_
    exact hx_pick [0, 1, 2, 3, 4] (h1 c1)
  · have c1 : s0 = x1 := by have h : ¬ (s0 ≠ x1) := c1; omega
    refine hx_blk (npc := 27) (L' := [(0, .inr (.inl 0)), (1, .inl x1), (2, .inl x2), (3, .inl (gx_w (x3 + 1))), (4, .inl (gx_w (x4 + 1)))]) (st' := []) (m' := m) [((60, .iinc 3 1, 3, 0, 0, 0, 0), (0, 0, 0)), ((63, .iinc 4 1, 3, 0, 0, 0, 0), (0, 0, 0)), ((66, .goto (-39), 3, 0, 0, 0, 0), (0, 0, 0))] (by decide +kernel) rfl ?_
    exact hx_pick [0, 1, 2, 3, 4] (h2 c1)

/-- dealtIn from 0 on -/
theorem hr132_0 {xs : List Int32} {n : Nat} {Q : hQ} {m : gx_M} {x1 : Int}
    (h1 : (x1 < 0) → Q (some (.inl (-1))) m)
    (h2 : (0 ≤ x1) → (x1 ≤ 16) → hxn xs n yp_m132 16 [(0, .inr (.inl 0)), (1, .inl x1), (2, .inl 0), (3, .inl 0)] [] m Q)
    (h3 : (0 ≤ x1) → (16 < x1) → Q (some (.inl (-1))) m) : hxn xs (n + 1) yp_m132 0 [(0, .inr (.inl 0)), (1, .inl x1)] [] m Q := by
  refine hx_blks (npc := 1) (L' := [(0, .inr (.inl 0)), (1, .inl x1)]) (st' := [.inl x1]) (m' := m) ((0, .iload_n 1, 1, 0, 0, 0, 0), (0, 0, 0)) [] (by decide +kernel) rfl ?_
  refine hx_if .lt 10 (by decide +kernel) (fun c1 => ?_) (fun c1 => ?_)
  · have c1 : x1 < 0 := c1
    refine hx_blk (npc := 11) (L' := [(0, .inr (.inl 0)), (1, .inl x1)]) (st' := [.inl (-1)]) (m' := m) [((10, .iconst (-1), 1, 0, 0, 0, 0), (0, 0, 0))] (by decide +kernel) rfl ?_
    exact hx_reti (by decide +kernel) (h1 c1)
  · have c1 : 0 ≤ x1 := by have h : ¬ (x1 < 0) := c1; omega
    refine hx_blk (npc := 7) (L' := [(0, .inr (.inl 0)), (1, .inl x1)]) (st' := [.inl 16, .inl x1]) (m' := m) [((4, .iload_n 1, 1, 0, 0, 0, 0), (0, 0, 0)), ((5, .bipush 16, 2, 0, 0, 0, 0), (0, 0, 0))] (by decide +kernel) rfl ?_
    refine hx_cmp .le 12 (by decide +kernel) (fun c2 => ?_) (fun c2 => ?_)
    · have c2 : x1 ≤ 16 := c2
      refine hx_blk (npc := 16) (L' := [(0, .inr (.inl 0)), (1, .inl x1), (2, .inl 0), (3, .inl 0)]) (st' := []) (m' := m) [((12, .iconst 0, 1, 0, 0, 0, 0), (0, 0, 0)), ((13, .istore_n 2, 1, 0, 0, 0, 0), (0, 0, 0)), ((14, .iconst 0, 1, 0, 0, 0, 0), (0, 0, 0)), ((15, .istore_n 3, 1, 0, 0, 0, 0), (0, 0, 0))] (by decide +kernel) rfl ?_
      exact hx_pick [0, 1, 2, 3] (h2 c1 c2)
    · have c2 : 16 < x1 := by have h : ¬ (x1 ≤ 16) := c2; omega
      refine hx_blk (npc := 11) (L' := [(0, .inr (.inl 0)), (1, .inl x1)]) (st' := [.inl (-1)]) (m' := m) [((10, .iconst (-1), 1, 0, 0, 0, 0), (0, 0, 0))] (by decide +kernel) rfl ?_
      exact hx_reti (by decide +kernel) (h3 c1 c2)

/-- dealtIn from 16 on -/
theorem hr132_16 {xs : List Int32} {n : Nat} {Q : hQ} {m : gx_M} {x1 x2 x3 : Int}
    (h1 : (40 ≤ x3) → Q (some (.inl x2)) m)
    (h2 : (x3 < 40) → (cDeed 5 m x3) → ((m 16 (x3).toNat) < x1) → hxn xs n yp_m132 16 [(0, .inr (.inl 0)), (1, .inl x1), (2, .inl x2), (3, .inl (gx_w (x3 + 1)))] [] m Q)
    (h3 : (x3 < 40) → (cDeed 5 m x3) → (x1 ≤ (m 16 (x3).toNat)) → hxn xs n yp_m132 16 [(0, .inr (.inl 0)), (1, .inl x1), (2, .inl (gx_w (x2 + 1))), (3, .inl (gx_w (x3 + 1)))] [] m Q)
    (h4 : (x3 < 40) → (¬ (cDeed 5 m x3)) → hxn xs n yp_m132 16 [(0, .inr (.inl 0)), (1, .inl x1), (2, .inl x2), (3, .inl (gx_w (x3 + 1)))] [] m Q) : hxn xs (n + 1) yp_m132 16 [(0, .inr (.inl 0)), (1, .inl x1), (2, .inl x2), (3, .inl x3)] [] m Q := by
  refine hx_blks (npc := 19) (L' := [(0, .inr (.inl 0)), (1, .inl x1), (2, .inl x2), (3, .inl x3)]) (st' := [.inl 40, .inl x3]) (m' := m) ((16, .iload_n 3, 1, 0, 0, 0, 0), (0, 0, 0)) [((17, .bipush 40, 2, 0, 0, 0, 0), (0, 0, 0))] (by decide +kernel) rfl ?_
  refine hx_cmp .ge 55 (by decide +kernel) (fun c1 => ?_) (fun c1 => ?_)
  · have c1 : 40 ≤ x3 := c1
    refine hx_blk (npc := 56) (L' := [(0, .inr (.inl 0)), (1, .inl x1), (2, .inl x2), (3, .inl x3)]) (st' := [.inl x2]) (m' := m) [((55, .iload_n 2, 1, 0, 0, 0, 0), (0, 0, 0))] (by decide +kernel) rfl ?_
    exact hx_reti (by decide +kernel) (h1 c1)
  · have c1 : x3 < 40 := by have h : ¬ (40 ≤ x3) := c1; omega
    refine hx_blk (npc := 27) (L' := [(0, .inr (.inl 0)), (1, .inl x1), (2, .inl x2), (3, .inl x3)]) (st' := [.inl x3, .inr (.inl 5)]) (m' := m) [((22, .aload_n 0, 1, 0, 0, 0, 0), (0, 0, 0)), ((23, .getfield 26, 3, 9, 2, 2121, 0), (1, 0, 5)), ((26, .iload_n 3, 1, 0, 0, 0, 0), (0, 0, 0))] (by decide +kernel) rfl ?_
    refine hx_call (E := (27, .invokevirtual 162, 3, 73, 0, 3203, 0)) (M' := yp_m73) [.inr (.inl 5), .inl x3] [] rfl (by decide +kernel) rfl ⟨rfl, rfl⟩ rfl rfl (hs73_5 (fun c2 => ?_) (fun c2 => ?_))
    · have c2 : cDeed 5 m x3 := c2
      show hxn xs n yp_m132 30 [(0, .inr (.inl 0)), (1, .inl x1), (2, .inl x2), (3, .inl x3)] [.inl 1] m Q
      refine hx_if .eq 49 (by decide +kernel) (fun c3 => ?_) (fun c3 => ?_)
      · have c3 : (1 : Int) = 0 := c3
        exfalso; omega
      · have c3 : (1 : Int) ≠ 0 := c3
        refine hx_blk (npc := 43) (L' := [(0, .inr (.inl 0)), (1, .inl x1), (2, .inl x2), (3, .inl x3)]) (st' := [.inl x1, .inl (m 16 (x3).toNat)]) (m' := m) [((33, .aload_n 0, 1, 0, 0, 0, 0), (0, 0, 0)), ((34, .getfield 26, 3, 9, 2, 2121, 0), (1, 0, 5)), ((37, .getfield 174, 3, 2, 15, 1132, 0), (1, 5, 16)), ((40, .iload_n 3, 1, 0, 0, 0, 0), (0, 0, 0)), ((41, .iaload, 1, 0, 0, 0, 0), (0, 16, 0)), ((42, .iload_n 1, 1, 0, 0, 0, 0), (0, 0, 0))] (by decide +kernel) rfl ?_
        refine hx_cmp .lt 49 (by decide +kernel) (fun c3 => ?_) (fun c3 => ?_)
        · have c3 : (m 16 (x3).toNat) < x1 := c3
          refine hx_blk (npc := 16) (L' := [(0, .inr (.inl 0)), (1, .inl x1), (2, .inl x2), (3, .inl (gx_w (x3 + 1)))]) (st' := []) (m' := m) [((49, .iinc 3 1, 3, 0, 0, 0, 0), (0, 0, 0)), ((52, .goto (-36), 3, 0, 0, 0, 0), (0, 0, 0))] (by decide +kernel) rfl ?_
          exact hx_pick [0, 1, 2, 3] (h2 c1 c2 c3)
        · have c3 : x1 ≤ (m 16 (x3).toNat) := by have h : ¬ ((m 16 (x3).toNat) < x1) := c3; omega
          refine hx_blk (npc := 16) (L' := [(0, .inr (.inl 0)), (1, .inl x1), (2, .inl (gx_w (x2 + 1))), (3, .inl (gx_w (x3 + 1)))]) (st' := []) (m' := m) [((46, .iinc 2 1, 3, 0, 0, 0, 0), (0, 0, 0)), ((49, .iinc 3 1, 3, 0, 0, 0, 0), (0, 0, 0)), ((52, .goto (-36), 3, 0, 0, 0, 0), (0, 0, 0))] (by decide +kernel) rfl ?_
          exact hx_pick [0, 1, 2, 3] (h3 c1 c2 c3)
    · have c2 : ¬ (cDeed 5 m x3) := c2
      show hxn xs n yp_m132 30 [(0, .inr (.inl 0)), (1, .inl x1), (2, .inl x2), (3, .inl x3)] [.inl 0] m Q
      refine hx_if .eq 49 (by decide +kernel) (fun c3 => ?_) (fun c3 => ?_)
      · have c3 : (0 : Int) = 0 := c3
        refine hx_blk (npc := 16) (L' := [(0, .inr (.inl 0)), (1, .inl x1), (2, .inl x2), (3, .inl (gx_w (x3 + 1)))]) (st' := []) (m' := m) [((49, .iinc 3 1, 3, 0, 0, 0, 0), (0, 0, 0)), ((52, .goto (-36), 3, 0, 0, 0, 0), (0, 0, 0))] (by decide +kernel) rfl ?_
        exact hx_pick [0, 1, 2, 3] (h4 c1 c2)
      · have c3 : (0 : Int) ≠ 0 := c3
        exfalso; omega

/-- deedOf from 0 on -/
theorem hr233_0 {xs : List Int32} {n : Nat} {Q : hQ} {m : gx_M} {x1 x2 : Int}
    (h1 : (x2 ≠ 0) → (x2 ≠ 1) → hxn xs n yp_m233 53 [(0, .inr (.inl 86)), (1, .inl x1), (3, .inl 0)] [] m Q)
    (h2 : (x2 ≠ 0) → (x2 = 1) → (aPw (m 87) x1) → Q (some (.inl (m 87 (gx_w (280 + x1)).toNat))) m)
    (h3 : (x2 ≠ 0) → (x2 = 1) → (¬ (aPw (m 87) x1)) → Q (some (.inl (m 87 (gx_w (240 + x1)).toNat))) m)
    (h4 : (x2 = 0) → Q (some (.inl (m 87 (gx_w (40 + x1)).toNat))) m) : hxn xs (n + 1) yp_m233 0 [(0, .inr (.inl 86)), (1, .inl x1), (2, .inl x2)] [] m Q := by
  refine hx_blks (npc := 1) (L' := [(0, .inr (.inl 86)), (1, .inl x1), (2, .inl x2)]) (st' := [.inl x2]) (m' := m) ((0, .iload_n 2, 1, 0, 0, 0, 0), (0, 0, 0)) [] (by decide +kernel) rfl ?_
  refine hx_if .ne 14 (by decide +kernel) (fun c1 => ?_) (fun c1 => ?_)
  · have c1 : x2 ≠ 0 := c1
    refine hx_blk (npc := 16) (L' := [(0, .inr (.inl 86)), (1, .inl x1), (2, .inl x2)]) (st' := [.inl 1, .inl x2]) (m' := m) [((14, .iload_n 2, 1, 0, 0, 0, 0), (0, 0, 0)), ((15, .iconst 1, 1, 0, 0, 0, 0), (0, 0, 0))] (by decide +kernel) rfl ?_
    refine hx_cmp .ne 51 (by decide +kernel) (fun c2 => ?_) (fun c2 => ?_)
    · have c2 : x2 ≠ 1 := c2
      refine hx_blk (npc := 53) (L' := [(0, .inr (.inl 86)), (1, .inl x1), (2, .inl x2), (3, .inl 0)]) (st' := []) (m' := m) [((51, .iconst 0, 1, 0, 0, 0, 0), (0, 0, 0)), ((52, .istore_n 3, 1, 0, 0, 0, 0), (0, 0, 0))] (by decide +kernel) rfl ?_
      exact hx_pick [0, 1, 3] (h1 c1 c2)
    · have c2 : x2 = 1 := by have h : ¬ (x2 ≠ 1) := c2; omega
      refine hx_blk (npc := 21) (L' := [(0, .inr (.inl 86)), (1, .inl x1), (2, .inl x2)]) (st' := [.inl x1, .inr (.inl 86)]) (m' := m) [((19, .aload_n 0, 1, 0, 0, 0, 0), (0, 0, 0)), ((20, .iload_n 1, 1, 0, 0, 0, 0), (0, 0, 0))] (by decide +kernel) rfl ?_
      refine hx_call (E := (21, .invokevirtual 275, 3, 200, 0, 6171, 0)) (M' := yp_m200) [.inr (.inl 86), .inl x1] [] rfl (by decide +kernel) rfl ⟨rfl, rfl⟩ rfl rfl (hs200 (fun c3 => ?_) (fun c3 => ?_))
      · have c3 : aPw (m 87) x1 := c3
        show hxn xs n yp_m233 24 [(0, .inr (.inl 86)), (1, .inl x1), (2, .inl x2)] [.inl 1] m Q
        refine hx_if .eq 40 (by decide +kernel) (fun c4 => ?_) (fun c4 => ?_)
        · have c4 : (1 : Int) = 0 := c4
          exfalso; omega
        · have c4 : (1 : Int) ≠ 0 := c4
          refine hx_blk (npc := 50) (L' := [(0, .inr (.inl 86)), (1, .inl x1), (2, .inl x2)]) (st' := [.inl (m 87 (gx_w (280 + x1)).toNat)]) (m' := m) [((27, .aload_n 0, 1, 0, 0, 0, 0), (0, 0, 0)), ((28, .getfield 7, 3, 10, 0, 5113, 0), (1, 86, 87)), ((31, .sipush 280, 3, 0, 0, 0, 0), (0, 0, 0)), ((34, .iload_n 1, 1, 0, 0, 0, 0), (0, 0, 0)), ((35, .iadd, 1, 0, 0, 0, 0), (0, 0, 0)), ((36, .iaload, 1, 0, 0, 0, 0), (0, 87, 0)), ((37, .goto 13, 3, 0, 0, 0, 0), (0, 0, 0))] (by decide +kernel) rfl ?_
          exact hx_reti (by decide +kernel) (h2 c1 c2 c3)
      · have c3 : ¬ (aPw (m 87) x1) := c3
        show hxn xs n yp_m233 24 [(0, .inr (.inl 86)), (1, .inl x1), (2, .inl x2)] [.inl 0] m Q
        refine hx_if .eq 40 (by decide +kernel) (fun c4 => ?_) (fun c4 => ?_)
        · have c4 : (0 : Int) = 0 := c4
          refine hx_blk (npc := 50) (L' := [(0, .inr (.inl 86)), (1, .inl x1), (2, .inl x2)]) (st' := [.inl (m 87 (gx_w (240 + x1)).toNat)]) (m' := m) [((40, .aload_n 0, 1, 0, 0, 0, 0), (0, 0, 0)), ((41, .getfield 7, 3, 10, 0, 5113, 0), (1, 86, 87)), ((44, .sipush 240, 3, 0, 0, 0, 0), (0, 0, 0)), ((47, .iload_n 1, 1, 0, 0, 0, 0), (0, 0, 0)), ((48, .iadd, 1, 0, 0, 0, 0), (0, 0, 0)), ((49, .iaload, 1, 0, 0, 0, 0), (0, 87, 0))] (by decide +kernel) rfl ?_
          exact hx_reti (by decide +kernel) (h3 c1 c2 c3)
        · have c4 : (0 : Int) ≠ 0 := c4
          exfalso; omega
  · have c1 : x2 = 0 := by have h : ¬ (x2 ≠ 0) := c1; omega
    refine hx_blk (npc := 13) (L' := [(0, .inr (.inl 86)), (1, .inl x1), (2, .inl x2)]) (st' := [.inl (m 87 (gx_w (40 + x1)).toNat)]) (m' := m) [((4, .aload_n 0, 1, 0, 0, 0, 0), (0, 0, 0)), ((5, .getfield 7, 3, 10, 0, 5113, 0), (1, 86, 87)), ((8, .bipush 40, 2, 0, 0, 0, 0), (0, 0, 0)), ((10, .iload_n 1, 1, 0, 0, 0, 0), (0, 0, 0)), ((11, .iadd, 1, 0, 0, 0, 0), (0, 0, 0)), ((12, .iaload, 1, 0, 0, 0, 0), (0, 87, 0))] (by decide +kernel) rfl ?_
    exact hx_reti (by decide +kernel) (h4 c1)

/-- deedOf from 53 on -/
theorem hr233_53 {xs : List Int32} {n : Nat} {Q : hQ} {m : gx_M} {x1 x3 : Int}
    (h1 : ((m 87 (gx_w (400 + x1)).toNat) ≤ x3) → Q (some (.inl (m 87 (gx_w (40 + x1)).toNat))) m)
    (h2 : (x3 < (m 87 (gx_w (400 + x1)).toNat)) → hxn xs n yp_m234 0 [(0, .inr (.inl 86)), (1, .inl (m 87 (gx_w ((gx_w (480 + (gx_w (16 * x1)))) + x3)).toNat)), (2, .inl (m 87 (gx_w (0 + x1)).toNat))] [] m (fun r m' => hxn xs n yp_m233 94 [(0, .inr (.inl 86)), (1, .inl x1), (3, .inl x3)] (hrs r ++ []) m' Q)) : hxn xs (n + 1) yp_m233 53 [(0, .inr (.inl 86)), (1, .inl x1), (3, .inl x3)] [] m Q := by
  refine hx_blks (npc := 64) (L' := [(0, .inr (.inl 86)), (1, .inl x1), (3, .inl x3)]) (st' := [.inl (m 87 (gx_w (400 + x1)).toNat), .inl x3]) (m' := m) ((53, .iload_n 3, 1, 0, 0, 0, 0), (0, 0, 0)) [((54, .aload_n 0, 1, 0, 0, 0, 0), (0, 0, 0)), ((55, .getfield 7, 3, 10, 0, 5113, 0), (1, 86, 87)), ((58, .sipush 400, 3, 0, 0, 0, 0), (0, 0, 0)), ((61, .iload_n 1, 1, 0, 0, 0, 0), (0, 0, 0)), ((62, .iadd, 1, 0, 0, 0, 0), (0, 0, 0)), ((63, .iaload, 1, 0, 0, 0, 0), (0, 87, 0))] (by decide +kernel) rfl ?_
  refine hx_cmp .ge 119 (by decide +kernel) (fun c1 => ?_) (fun c1 => ?_)
  · have c1 : (m 87 (gx_w (400 + x1)).toNat) ≤ x3 := c1
    refine hx_blk (npc := 128) (L' := [(0, .inr (.inl 86)), (1, .inl x1), (3, .inl x3)]) (st' := [.inl (m 87 (gx_w (40 + x1)).toNat)]) (m' := m) [((119, .aload_n 0, 1, 0, 0, 0, 0), (0, 0, 0)), ((120, .getfield 7, 3, 10, 0, 5113, 0), (1, 86, 87)), ((123, .bipush 40, 2, 0, 0, 0, 0), (0, 0, 0)), ((125, .iload_n 1, 1, 0, 0, 0, 0), (0, 0, 0)), ((126, .iadd, 1, 0, 0, 0, 0), (0, 0, 0)), ((127, .iaload, 1, 0, 0, 0, 0), (0, 87, 0))] (by decide +kernel) rfl ?_
    exact hx_reti (by decide +kernel) (h1 c1)
  · have c1 : x3 < (m 87 (gx_w (400 + x1)).toNat) := by have h : ¬ ((m 87 (gx_w (400 + x1)).toNat) ≤ x3) := c1; omega
    refine hx_blk (npc := 91) (L' := [(0, .inr (.inl 86)), (1, .inl x1), (3, .inl x3)]) (st' := [.inl (m 87 (gx_w (0 + x1)).toNat), .inl (m 87 (gx_w ((gx_w (480 + (gx_w (16 * x1)))) + x3)).toNat), .inr (.inl 86)]) (m' := m) [((67, .aload_n 0, 1, 0, 0, 0, 0), (0, 0, 0)), ((68, .aload_n 0, 1, 0, 0, 0, 0), (0, 0, 0)), ((69, .getfield 7, 3, 10, 0, 5113, 0), (1, 86, 87)), ((72, .sipush 480, 3, 0, 0, 0, 0), (0, 0, 0)), ((75, .bipush 16, 2, 0, 0, 0, 0), (0, 0, 0)), ((77, .iload_n 1, 1, 0, 0, 0, 0), (0, 0, 0)), ((78, .imul, 1, 0, 0, 0, 0), (0, 0, 0)), ((79, .iadd, 1, 0, 0, 0, 0), (0, 0, 0)), ((80, .iload_n 3, 1, 0, 0, 0, 0), (0, 0, 0)), ((81, .iadd, 1, 0, 0, 0, 0), (0, 0, 0)), ((82, .iaload, 1, 0, 0, 0, 0), (0, 87, 0)), ((83, .aload_n 0, 1, 0, 0, 0, 0), (0, 0, 0)), ((84, .getfield 7, 3, 10, 0, 5113, 0), (1, 86, 87)), ((87, .iconst 0, 1, 0, 0, 0, 0), (0, 0, 0)), ((88, .iload_n 1, 1, 0, 0, 0, 0), (0, 0, 0)), ((89, .iadd, 1, 0, 0, 0, 0), (0, 0, 0)), ((90, .iaload, 1, 0, 0, 0, 0), (0, 87, 0))] (by decide +kernel) rfl ?_
    exact hx_call (E := (91, .invokevirtual 327, 3, 234, 0, 7064, 0)) (M' := yp_m234) [.inr (.inl 86), .inl (m 87 (gx_w ((gx_w (480 + (gx_w (16 * x1)))) + x3)).toNat), .inl (m 87 (gx_w (0 + x1)).toNat)] [] rfl (by decide +kernel) rfl ⟨rfl, rfl⟩ rfl rfl (hx_mono (h2 c1) (fun r m' h' => hx_pick [0, 1, 3] h'))

/-- deedOf from 94 on -/
theorem hr233_94 {xs : List Int32} {n : Nat} {Q : hQ} {m : gx_M} {x1 x3 s0 : Int}
    (h1 : (s0 = 0) → hxn xs n yp_m233 53 [(0, .inr (.inl 86)), (1, .inl x1), (3, .inl (gx_w (x3 + 1)))] [] m Q)
    (h2 : (s0 ≠ 0) → Q (some (.inl (m 87 (gx_w ((gx_w (480 + (gx_w (16 * x1)))) + x3)).toNat))) m) : hxn xs (n + 1) yp_m233 94 [(0, .inr (.inl 86)), (1, .inl x1), (3, .inl x3)] [.inl s0] m Q := by
  refine hx_ifs .eq 113 (by decide +kernel) (fun c1 => ?_) (fun c1 => ?_)
  · have c1 : s0 = 0 := c1
    refine hx_blk (npc := 53) (L' := [(0, .inr (.inl 86)), (1, .inl x1), (3, .inl (gx_w (x3 + 1)))]) (st' := []) (m' := m) [((113, .iinc 3 1, 3, 0, 0, 0, 0), (0, 0, 0)), ((116, .goto (-63), 3, 0, 0, 0, 0), (0, 0, 0))] (by decide +kernel) rfl ?_
    exact hx_pick [0, 1, 3] (h1 c1)
  · have c1 : s0 ≠ 0 := c1
    refine hx_blk (npc := 112) (L' := [(0, .inr (.inl 86)), (1, .inl x1), (3, .inl x3)]) (st' := [.inl (m 87 (gx_w ((gx_w (480 + (gx_w (16 * x1)))) + x3)).toNat)]) (m' := m) [((97, .aload_n 0, 1, 0, 0, 0, 0), (0, 0, 0)), ((98, .getfield 7, 3, 10, 0, 5113, 0), (1, 86, 87)), ((101, .sipush 480, 3, 0, 0, 0, 0), (0, 0, 0)), ((104, .bipush 16, 2, 0, 0, 0, 0), (0, 0, 0)), ((106, .iload_n 1, 1, 0, 0, 0, 0), (0, 0, 0)), ((107, .imul, 1, 0, 0, 0, 0), (0, 0, 0)), ((108, .iadd, 1, 0, 0, 0, 0), (0, 0, 0)), ((109, .iload_n 3, 1, 0, 0, 0, 0), (0, 0, 0)), ((110, .iadd, 1, 0, 0, 0, 0), (0, 0, 0)), ((111, .iaload, 1, 0, 0, 0, 0), (0, 87, 0))] (by decide +kernel) rfl ?_
    exact hx_reti (by decide +kernel) (h2 c1)

/-- deeds from 0 on -/
theorem hr232_0 {xs : List Int32} {n : Nat} {Q : hQ} {m : gx_M} {x1 x2 : Int}
    (h1 : (aPers (m 87) x1) → (0 ≤ x2 ∧ x2 ≤ 2) → hxn xs n yp_m232 24 [(0, .inr (.inl 86)), (1, .inl x1), (2, .inl x2), (3, .inl 0), (4, .inl 0)] [] m Q)
    (h2 : (aPers (m 87) x1) → (¬ (0 ≤ x2 ∧ x2 ≤ 2)) → Q (some (.inl (-1))) m)
    (h3 : (¬ (aPers (m 87) x1)) → Q (some (.inl (-1))) m) : hxn xs (n + 1) yp_m232 0 [(0, .inr (.inl 86)), (1, .inl x1), (2, .inl x2)] [] m Q := by
  refine hx_blks (npc := 2) (L' := [(0, .inr (.inl 86)), (1, .inl x1), (2, .inl x2)]) (st' := [.inl x1, .inr (.inl 86)]) (m' := m) ((0, .aload_n 0, 1, 0, 0, 0, 0), (0, 0, 0)) [((1, .iload_n 1, 1, 0, 0, 0, 0), (0, 0, 0))] (by decide +kernel) rfl ?_
  refine hx_call (E := (2, .invokevirtual 113, 3, 164, 0, 6031, 0)) (M' := yp_m164) [.inr (.inl 86), .inl x1] [] rfl (by decide +kernel) rfl ⟨rfl, rfl⟩ rfl rfl (hs164 (fun c1 => ?_) (fun c1 => ?_))
  · have c1 : aPers (m 87) x1 := c1
    show hxn xs n yp_m232 5 [(0, .inr (.inl 86)), (1, .inl x1), (2, .inl x2)] [.inl 1] m Q
    refine hx_if .eq 17 (by decide +kernel) (fun c2 => ?_) (fun c2 => ?_)
    · have c2 : (1 : Int) = 0 := c2
      exfalso; omega
    · have c2 : (1 : Int) ≠ 0 := c2
      refine hx_blk (npc := 11) (L' := [(0, .inr (.inl 86)), (1, .inl x1), (2, .inl x2)]) (st' := [.inl 2, .inl 0, .inl x2]) (m' := m) [((8, .iload_n 2, 1, 0, 0, 0, 0), (0, 0, 0)), ((9, .iconst 0, 1, 0, 0, 0, 0), (0, 0, 0)), ((10, .iconst 2, 1, 0, 0, 0, 0), (0, 0, 0))] (by decide +kernel) rfl ?_
      refine hx_call (E := (11, .invokestatic 108, 3, 162, 0, 6023, 0)) (M' := yp_m162) [.inl x2, .inl 0, .inl 2] [] rfl (by decide +kernel) rfl ⟨rfl, rfl⟩ rfl rfl (hs162 (fun c2 => ?_) (fun c2 => ?_))
      · have c2 : 0 ≤ x2 ∧ x2 ≤ 2 := c2
        show hxn xs n yp_m232 14 [(0, .inr (.inl 86)), (1, .inl x1), (2, .inl x2)] [.inl 1] m Q
        refine hx_if .ne 19 (by decide +kernel) (fun c3 => ?_) (fun c3 => ?_)
        · have c3 : (1 : Int) ≠ 0 := c3
          refine hx_blk (npc := 24) (L' := [(0, .inr (.inl 86)), (1, .inl x1), (2, .inl x2), (3, .inl 0), (4, .inl 0)]) (st' := []) (m' := m) [((19, .iconst 0, 1, 0, 0, 0, 0), (0, 0, 0)), ((20, .istore_n 3, 1, 0, 0, 0, 0), (0, 0, 0)), ((21, .iconst 0, 1, 0, 0, 0, 0), (0, 0, 0)), ((22, .istore 4, 2, 0, 0, 0, 0), (0, 0, 0))] (by decide +kernel) rfl ?_
          exact hx_pick [0, 1, 2, 3, 4] (h1 c1 c2)
        · have c3 : (1 : Int) = 0 := by have h : ¬ ((1 : Int) ≠ 0) := c3; omega
          exfalso; omega
      · have c2 : ¬ (0 ≤ x2 ∧ x2 ≤ 2) := c2
        show hxn xs n yp_m232 14 [(0, .inr (.inl 86)), (1, .inl x1), (2, .inl x2)] [.inl 0] m Q
        refine hx_if .ne 19 (by decide +kernel) (fun c3 => ?_) (fun c3 => ?_)
        · have c3 : (0 : Int) ≠ 0 := c3
          exfalso; omega
        · have c3 : (0 : Int) = 0 := by have h : ¬ ((0 : Int) ≠ 0) := c3; omega
          refine hx_blk (npc := 18) (L' := [(0, .inr (.inl 86)), (1, .inl x1), (2, .inl x2)]) (st' := [.inl (-1)]) (m' := m) [((17, .iconst (-1), 1, 0, 0, 0, 0), (0, 0, 0))] (by decide +kernel) rfl ?_
          exact hx_reti (by decide +kernel) (h2 c1 c2)
  · have c1 : ¬ (aPers (m 87) x1) := c1
    show hxn xs n yp_m232 5 [(0, .inr (.inl 86)), (1, .inl x1), (2, .inl x2)] [.inl 0] m Q
    refine hx_if .eq 17 (by decide +kernel) (fun c2 => ?_) (fun c2 => ?_)
    · have c2 : (0 : Int) = 0 := c2
      refine hx_blk (npc := 18) (L' := [(0, .inr (.inl 86)), (1, .inl x1), (2, .inl x2)]) (st' := [.inl (-1)]) (m' := m) [((17, .iconst (-1), 1, 0, 0, 0, 0), (0, 0, 0))] (by decide +kernel) rfl ?_
      exact hx_reti (by decide +kernel) (h3 c1)
    · have c2 : (0 : Int) ≠ 0 := c2
      exfalso; omega

/-- deeds from 24 on -/
theorem hr232_24 {xs : List Int32} {n : Nat} {Q : hQ} {m : gx_M} {x1 x2 x3 x4 : Int}
    (h1 : (40 ≤ x4) → Q (some (.inl x3)) m)
    (h2 : (x4 < 40) → (aYr (m 87) x4) → ((m 87 (gx_w (160 + x4)).toNat) ≠ 1) → hxn xs n yp_m232 24 [(0, .inr (.inl 86)), (1, .inl x1), (2, .inl x2), (3, .inl (gx_w (x3 + 0))), (4, .inl (gx_w (x4 + 1)))] [] m Q)
    (h3 : (x4 < 40) → (aYr (m 87) x4) → ((m 87 (gx_w (160 + x4)).toNat) = 1) → hxn xs n yp_m233 0 [(0, .inr (.inl 86)), (1, .inl x4), (2, .inl x2)] [] m (fun r m' => hxn xs n yp_m232 63 [(0, .inr (.inl 86)), (1, .inl x1), (2, .inl x2), (4, .inl x4)] (hrs r ++ [.inl x3]) m' Q))
    (h4 : (x4 < 40) → (¬ (aYr (m 87) x4)) → hxn xs n yp_m232 24 [(0, .inr (.inl 86)), (1, .inl x1), (2, .inl x2), (3, .inl (gx_w (x3 + 0))), (4, .inl (gx_w (x4 + 1)))] [] m Q) : hxn xs (n + 1) yp_m232 24 [(0, .inr (.inl 86)), (1, .inl x1), (2, .inl x2), (3, .inl x3), (4, .inl x4)] [] m Q := by
  refine hx_blks (npc := 28) (L' := [(0, .inr (.inl 86)), (1, .inl x1), (2, .inl x2), (3, .inl x3), (4, .inl x4)]) (st' := [.inl 40, .inl x4]) (m' := m) ((24, .iload 4, 2, 0, 0, 0, 0), (0, 0, 0)) [((26, .bipush 40, 2, 0, 0, 0, 0), (0, 0, 0))] (by decide +kernel) rfl ?_
  refine hx_cmp .ge 80 (by decide +kernel) (fun c1 => ?_) (fun c1 => ?_)
  · have c1 : 40 ≤ x4 := c1
    refine hx_blk (npc := 81) (L' := [(0, .inr (.inl 86)), (1, .inl x1), (2, .inl x2), (3, .inl x3), (4, .inl x4)]) (st' := [.inl x3]) (m' := m) [((80, .iload_n 3, 1, 0, 0, 0, 0), (0, 0, 0))] (by decide +kernel) rfl ?_
    exact hx_reti (by decide +kernel) (h1 c1)
  · have c1 : x4 < 40 := by have h : ¬ (40 ≤ x4) := c1; omega
    refine hx_blk (npc := 35) (L' := [(0, .inr (.inl 86)), (1, .inl x1), (2, .inl x2), (3, .inl x3), (4, .inl x4)]) (st' := [.inl x4, .inr (.inl 86), .inl x3]) (m' := m) [((31, .iload_n 3, 1, 0, 0, 0, 0), (0, 0, 0)), ((32, .aload_n 0, 1, 0, 0, 0, 0), (0, 0, 0)), ((33, .iload 4, 2, 0, 0, 0, 0), (0, 0, 0))] (by decide +kernel) rfl ?_
    refine hx_call (E := (35, .invokevirtual 269, 3, 196, 0, 6156, 0)) (M' := yp_m196) [.inr (.inl 86), .inl x4] [.inl x3] rfl (by decide +kernel) rfl ⟨rfl, rfl⟩ rfl rfl (hs196 (fun c2 => ?_) (fun c2 => ?_))
    · have c2 : aYr (m 87) x4 := c2
      show hxn xs n yp_m232 38 [(0, .inr (.inl 86)), (1, .inl x1), (2, .inl x2), (3, .inl x3), (4, .inl x4)] [.inl 1, .inl x3] m Q
      refine hx_if .eq 71 (by decide +kernel) (fun c3 => ?_) (fun c3 => ?_)
      · have c3 : (1 : Int) = 0 := c3
        exfalso; omega
      · have c3 : (1 : Int) ≠ 0 := c3
        refine hx_blk (npc := 53) (L' := [(0, .inr (.inl 86)), (1, .inl x1), (2, .inl x2), (3, .inl x3), (4, .inl x4)]) (st' := [.inl 1, .inl (m 87 (gx_w (160 + x4)).toNat), .inl x3]) (m' := m) [((41, .aload_n 0, 1, 0, 0, 0, 0), (0, 0, 0)), ((42, .getfield 7, 3, 10, 0, 5113, 0), (1, 86, 87)), ((45, .sipush 160, 3, 0, 0, 0, 0), (0, 0, 0)), ((48, .iload 4, 2, 0, 0, 0, 0), (0, 0, 0)), ((50, .iadd, 1, 0, 0, 0, 0), (0, 0, 0)), ((51, .iaload, 1, 0, 0, 0, 0), (0, 87, 0)), ((52, .iconst 1, 1, 0, 0, 0, 0), (0, 0, 0))] (by decide +kernel) rfl ?_
        refine hx_cmp .ne 71 (by decide +kernel) (fun c3 => ?_) (fun c3 => ?_)
        · have c3 : (m 87 (gx_w (160 + x4)).toNat) ≠ 1 := c3
          refine hx_blk (npc := 24) (L' := [(0, .inr (.inl 86)), (1, .inl x1), (2, .inl x2), (3, .inl (gx_w (x3 + 0))), (4, .inl (gx_w (x4 + 1)))]) (st' := []) (m' := m) [((71, .iconst 0, 1, 0, 0, 0, 0), (0, 0, 0)), ((72, .iadd, 1, 0, 0, 0, 0), (0, 0, 0)), ((73, .istore_n 3, 1, 0, 0, 0, 0), (0, 0, 0)), ((74, .iinc 4 1, 3, 0, 0, 0, 0), (0, 0, 0)), ((77, .goto (-53), 3, 0, 0, 0, 0), (0, 0, 0))] (by decide +kernel) rfl ?_
          exact hx_pick [0, 1, 2, 3, 4] (h2 c1 c2 c3)
        · have c3 : (m 87 (gx_w (160 + x4)).toNat) = 1 := by have h : ¬ ((m 87 (gx_w (160 + x4)).toNat) ≠ 1) := c3; omega
          refine hx_blk (npc := 60) (L' := [(0, .inr (.inl 86)), (1, .inl x1), (2, .inl x2), (3, .inl x3), (4, .inl x4)]) (st' := [.inl x2, .inl x4, .inr (.inl 86), .inl x3]) (m' := m) [((56, .aload_n 0, 1, 0, 0, 0, 0), (0, 0, 0)), ((57, .iload 4, 2, 0, 0, 0, 0), (0, 0, 0)), ((59, .iload_n 2, 1, 0, 0, 0, 0), (0, 0, 0))] (by decide +kernel) rfl ?_
          exact hx_call (E := (60, .invokevirtual 330, 3, 233, 0, 7060, 0)) (M' := yp_m233) [.inr (.inl 86), .inl x4, .inl x2] [.inl x3] rfl (by decide +kernel) rfl ⟨rfl, rfl⟩ rfl rfl (hx_mono (h3 c1 c2 c3) (fun r m' h' => hx_pick [0, 1, 2, 4] h'))
    · have c2 : ¬ (aYr (m 87) x4) := c2
      show hxn xs n yp_m232 38 [(0, .inr (.inl 86)), (1, .inl x1), (2, .inl x2), (3, .inl x3), (4, .inl x4)] [.inl 0, .inl x3] m Q
      refine hx_if .eq 71 (by decide +kernel) (fun c3 => ?_) (fun c3 => ?_)
      · have c3 : (0 : Int) = 0 := c3
        refine hx_blk (npc := 24) (L' := [(0, .inr (.inl 86)), (1, .inl x1), (2, .inl x2), (3, .inl (gx_w (x3 + 0))), (4, .inl (gx_w (x4 + 1)))]) (st' := []) (m' := m) [((71, .iconst 0, 1, 0, 0, 0, 0), (0, 0, 0)), ((72, .iadd, 1, 0, 0, 0, 0), (0, 0, 0)), ((73, .istore_n 3, 1, 0, 0, 0, 0), (0, 0, 0)), ((74, .iinc 4 1, 3, 0, 0, 0, 0), (0, 0, 0)), ((77, .goto (-53), 3, 0, 0, 0, 0), (0, 0, 0))] (by decide +kernel) rfl ?_
        exact hx_pick [0, 1, 2, 3, 4] (h4 c1 c2)
      · have c3 : (0 : Int) ≠ 0 := c3
        exfalso; omega

/-- deeds from 63 on -/
theorem hr232_63 {xs : List Int32} {n : Nat} {Q : hQ} {m : gx_M} {x1 x2 x4 s0 s1 : Int}
    (h1 : (s1 ≠ x1) → hxn xs n yp_m232 24 [(0, .inr (.inl 86)), (1, .inl x1), (2, .inl x2), (3, .inl (gx_w (s0 + 0))), (4, .inl (gx_w (x4 + 1)))] [] m Q)
    (h2 : (s1 = x1) → hxn xs n yp_m232 24 [(0, .inr (.inl 86)), (1, .inl x1), (2, .inl x2), (3, .inl (gx_w (s0 + 1))), (4, .inl (gx_w (x4 + 1)))] [] m Q) : hxn xs (n + 1) yp_m232 63 [(0, .inr (.inl 86)), (1, .inl x1), (2, .inl x2), (4, .inl x4)] [.inl s1, .inl s0] m Q := by
  refine hx_blks (npc := 64) (L' := [(0, .inr (.inl 86)), (1, .inl x1), (2, .inl x2), (4, .inl x4)]) (st' := [.inl x1, .inl s1, .inl s0]) (m' := m) ((63, .iload_n 1, 1, 0, 0, 0, 0), (0, 0, 0)) [] (by decide +kernel) rfl ?_
  refine hx_cmp .ne 71 (by decide +kernel) (fun c1 => ?_) (fun c1 => ?_)
  · have c1 : s1 ≠ x1 := c1
    refine hx_blk (npc := 24) (L' := [(0, .inr (.inl 86)), (1, .inl x1), (2, .inl x2), (4, .inl (gx_w (x4 + 1))), (3, .inl (gx_w (s0 + 0)))]) (st' := []) (m' := m) [((71, .iconst 0, 1, 0, 0, 0, 0), (0, 0, 0)), ((72, .iadd, 1, 0, 0, 0, 0), (0, 0, 0)), ((73, .istore_n 3, 1, 0, 0, 0, 0), (0, 0, 0)), ((74, .iinc 4 1, 3, 0, 0, 0, 0), (0, 0, 0)), ((77, .goto (-53), 3, 0, 0, 0, 0), (0, 0, 0))] (by decide +kernel) rfl ?_
    exact hx_pick [0, 1, 2, 3, 4] (h1 c1)
  · have c1 : s1 = x1 := by have h : ¬ (s1 ≠ x1) := c1; omega
    refine hx_blk (npc := 24) (L' := [(0, .inr (.inl 86)), (1, .inl x1), (2, .inl x2), (4, .inl (gx_w (x4 + 1))), (3, .inl (gx_w (s0 + 1)))]) (st' := []) (m' := m) [((67, .iconst 1, 1, 0, 0, 0, 0), (0, 0, 0)), ((68, .goto 4, 3, 0, 0, 0, 0), (0, 0, 0)), ((72, .iadd, 1, 0, 0, 0, 0), (0, 0, 0)), ((73, .istore_n 3, 1, 0, 0, 0, 0), (0, 0, 0)), ((74, .iinc 4 1, 3, 0, 0, 0, 0), (0, 0, 0)), ((77, .goto (-53), 3, 0, 0, 0, 0), (0, 0, 0))] (by decide +kernel) rfl ?_
    exact hx_pick [0, 1, 2, 3, 4] (h2 c1)

/-- dealtIn from 0 on -/
theorem hr235_0 {xs : List Int32} {n : Nat} {Q : hQ} {m : gx_M} {x1 : Int}
    (h1 : (0 ≤ x1 ∧ x1 ≤ 16) → hxn xs n yp_m235 16 [(0, .inr (.inl 86)), (1, .inl x1), (2, .inl 0), (3, .inl 0)] [] m Q)
    (h2 : (¬ (0 ≤ x1 ∧ x1 ≤ 16)) → Q (some (.inl (-1))) m) : hxn xs (n + 1) yp_m235 0 [(0, .inr (.inl 86)), (1, .inl x1)] [] m Q := by
  refine hx_blks (npc := 4) (L' := [(0, .inr (.inl 86)), (1, .inl x1)]) (st' := [.inl 16, .inl 0, .inl x1]) (m' := m) ((0, .iload_n 1, 1, 0, 0, 0, 0), (0, 0, 0)) [((1, .iconst 0, 1, 0, 0, 0, 0), (0, 0, 0)), ((2, .bipush 16, 2, 0, 0, 0, 0), (0, 0, 0))] (by decide +kernel) rfl ?_
  refine hx_call (E := (4, .invokestatic 108, 3, 162, 0, 6023, 0)) (M' := yp_m162) [.inl x1, .inl 0, .inl 16] [] rfl (by decide +kernel) rfl ⟨rfl, rfl⟩ rfl rfl (hs162 (fun c1 => ?_) (fun c1 => ?_))
  · have c1 : 0 ≤ x1 ∧ x1 ≤ 16 := c1
    show hxn xs n yp_m235 7 [(0, .inr (.inl 86)), (1, .inl x1)] [.inl 1] m Q
    refine hx_if .ne 12 (by decide +kernel) (fun c2 => ?_) (fun c2 => ?_)
    · have c2 : (1 : Int) ≠ 0 := c2
      refine hx_blk (npc := 16) (L' := [(0, .inr (.inl 86)), (1, .inl x1), (2, .inl 0), (3, .inl 0)]) (st' := []) (m' := m) [((12, .iconst 0, 1, 0, 0, 0, 0), (0, 0, 0)), ((13, .istore_n 2, 1, 0, 0, 0, 0), (0, 0, 0)), ((14, .iconst 0, 1, 0, 0, 0, 0), (0, 0, 0)), ((15, .istore_n 3, 1, 0, 0, 0, 0), (0, 0, 0))] (by decide +kernel) rfl ?_
      exact hx_pick [0, 1, 2, 3] (h1 c1)
    · have c2 : (1 : Int) = 0 := by have h : ¬ ((1 : Int) ≠ 0) := c2; omega
      exfalso; omega
  · have c1 : ¬ (0 ≤ x1 ∧ x1 ≤ 16) := c1
    show hxn xs n yp_m235 7 [(0, .inr (.inl 86)), (1, .inl x1)] [.inl 0] m Q
    refine hx_if .ne 12 (by decide +kernel) (fun c2 => ?_) (fun c2 => ?_)
    · have c2 : (0 : Int) ≠ 0 := c2
      exfalso; omega
    · have c2 : (0 : Int) = 0 := by have h : ¬ ((0 : Int) ≠ 0) := c2; omega
      refine hx_blk (npc := 11) (L' := [(0, .inr (.inl 86)), (1, .inl x1)]) (st' := [.inl (-1)]) (m' := m) [((10, .iconst (-1), 1, 0, 0, 0, 0), (0, 0, 0))] (by decide +kernel) rfl ?_
      exact hx_reti (by decide +kernel) (h2 c1)

/-- dealtIn from 16 on -/
theorem hr235_16 {xs : List Int32} {n : Nat} {Q : hQ} {m : gx_M} {x1 x2 x3 : Int}
    (h1 : (40 ≤ x3) → Q (some (.inl x2)) m)
    (h2 : (x3 < 40) → (aYr (m 87) x3) → ((m 87 (gx_w (160 + x3)).toNat) ≠ 1) → hxn xs n yp_m235 16 [(0, .inr (.inl 86)), (1, .inl x1), (2, .inl (gx_w (x2 + 0))), (3, .inl (gx_w (x3 + 1)))] [] m Q)
    (h3 : (x3 < 40) → (aYr (m 87) x3) → ((m 87 (gx_w (160 + x3)).toNat) = 1) → ((m 87 (gx_w (400 + x3)).toNat) < x1) → hxn xs n yp_m235 16 [(0, .inr (.inl 86)), (1, .inl x1), (2, .inl (gx_w (x2 + 0))), (3, .inl (gx_w (x3 + 1)))] [] m Q)
    (h4 : (x3 < 40) → (aYr (m 87) x3) → ((m 87 (gx_w (160 + x3)).toNat) = 1) → (x1 ≤ (m 87 (gx_w (400 + x3)).toNat)) → hxn xs n yp_m235 16 [(0, .inr (.inl 86)), (1, .inl x1), (2, .inl (gx_w (x2 + 1))), (3, .inl (gx_w (x3 + 1)))] [] m Q)
    (h5 : (x3 < 40) → (¬ (aYr (m 87) x3)) → hxn xs n yp_m235 16 [(0, .inr (.inl 86)), (1, .inl x1), (2, .inl (gx_w (x2 + 0))), (3, .inl (gx_w (x3 + 1)))] [] m Q) : hxn xs (n + 1) yp_m235 16 [(0, .inr (.inl 86)), (1, .inl x1), (2, .inl x2), (3, .inl x3)] [] m Q := by
  refine hx_blks (npc := 19) (L' := [(0, .inr (.inl 86)), (1, .inl x1), (2, .inl x2), (3, .inl x3)]) (st' := [.inl 40, .inl x3]) (m' := m) ((16, .iload_n 3, 1, 0, 0, 0, 0), (0, 0, 0)) [((17, .bipush 40, 2, 0, 0, 0, 0), (0, 0, 0))] (by decide +kernel) rfl ?_
  refine hx_cmp .ge 72 (by decide +kernel) (fun c1 => ?_) (fun c1 => ?_)
  · have c1 : 40 ≤ x3 := c1
    refine hx_blk (npc := 73) (L' := [(0, .inr (.inl 86)), (1, .inl x1), (2, .inl x2), (3, .inl x3)]) (st' := [.inl x2]) (m' := m) [((72, .iload_n 2, 1, 0, 0, 0, 0), (0, 0, 0))] (by decide +kernel) rfl ?_
    exact hx_reti (by decide +kernel) (h1 c1)
  · have c1 : x3 < 40 := by have h : ¬ (40 ≤ x3) := c1; omega
    refine hx_blk (npc := 25) (L' := [(0, .inr (.inl 86)), (1, .inl x1), (2, .inl x2), (3, .inl x3)]) (st' := [.inl x3, .inr (.inl 86), .inl x2]) (m' := m) [((22, .iload_n 2, 1, 0, 0, 0, 0), (0, 0, 0)), ((23, .aload_n 0, 1, 0, 0, 0, 0), (0, 0, 0)), ((24, .iload_n 3, 1, 0, 0, 0, 0), (0, 0, 0))] (by decide +kernel) rfl ?_
    refine hx_call (E := (25, .invokevirtual 269, 3, 196, 0, 6156, 0)) (M' := yp_m196) [.inr (.inl 86), .inl x3] [.inl x2] rfl (by decide +kernel) rfl ⟨rfl, rfl⟩ rfl rfl (hs196 (fun c2 => ?_) (fun c2 => ?_))
    · have c2 : aYr (m 87) x3 := c2
      show hxn xs n yp_m235 28 [(0, .inr (.inl 86)), (1, .inl x1), (2, .inl x2), (3, .inl x3)] [.inl 1, .inl x2] m Q
      refine hx_if .eq 63 (by decide +kernel) (fun c3 => ?_) (fun c3 => ?_)
      · have c3 : (1 : Int) = 0 := c3
        exfalso; omega
      · have c3 : (1 : Int) ≠ 0 := c3
        refine hx_blk (npc := 42) (L' := [(0, .inr (.inl 86)), (1, .inl x1), (2, .inl x2), (3, .inl x3)]) (st' := [.inl 1, .inl (m 87 (gx_w (160 + x3)).toNat), .inl x2]) (m' := m) [((31, .aload_n 0, 1, 0, 0, 0, 0), (0, 0, 0)), ((32, .getfield 7, 3, 10, 0, 5113, 0), (1, 86, 87)), ((35, .sipush 160, 3, 0, 0, 0, 0), (0, 0, 0)), ((38, .iload_n 3, 1, 0, 0, 0, 0), (0, 0, 0)), ((39, .iadd, 1, 0, 0, 0, 0), (0, 0, 0)), ((40, .iaload, 1, 0, 0, 0, 0), (0, 87, 0)), ((41, .iconst 1, 1, 0, 0, 0, 0), (0, 0, 0))] (by decide +kernel) rfl ?_
        refine hx_cmp .ne 63 (by decide +kernel) (fun c3 => ?_) (fun c3 => ?_)
        · have c3 : (m 87 (gx_w (160 + x3)).toNat) ≠ 1 := c3
          refine hx_blk (npc := 16) (L' := [(0, .inr (.inl 86)), (1, .inl x1), (2, .inl (gx_w (x2 + 0))), (3, .inl (gx_w (x3 + 1)))]) (st' := []) (m' := m) [((63, .iconst 0, 1, 0, 0, 0, 0), (0, 0, 0)), ((64, .iadd, 1, 0, 0, 0, 0), (0, 0, 0)), ((65, .istore_n 2, 1, 0, 0, 0, 0), (0, 0, 0)), ((66, .iinc 3 1, 3, 0, 0, 0, 0), (0, 0, 0)), ((69, .goto (-53), 3, 0, 0, 0, 0), (0, 0, 0))] (by decide +kernel) rfl ?_
          exact hx_pick [0, 1, 2, 3] (h2 c1 c2 c3)
        · have c3 : (m 87 (gx_w (160 + x3)).toNat) = 1 := by have h : ¬ ((m 87 (gx_w (160 + x3)).toNat) ≠ 1) := c3; omega
          refine hx_blk (npc := 56) (L' := [(0, .inr (.inl 86)), (1, .inl x1), (2, .inl x2), (3, .inl x3)]) (st' := [.inl x1, .inl (m 87 (gx_w (400 + x3)).toNat), .inl x2]) (m' := m) [((45, .aload_n 0, 1, 0, 0, 0, 0), (0, 0, 0)), ((46, .getfield 7, 3, 10, 0, 5113, 0), (1, 86, 87)), ((49, .sipush 400, 3, 0, 0, 0, 0), (0, 0, 0)), ((52, .iload_n 3, 1, 0, 0, 0, 0), (0, 0, 0)), ((53, .iadd, 1, 0, 0, 0, 0), (0, 0, 0)), ((54, .iaload, 1, 0, 0, 0, 0), (0, 87, 0)), ((55, .iload_n 1, 1, 0, 0, 0, 0), (0, 0, 0))] (by decide +kernel) rfl ?_
          refine hx_cmp .lt 63 (by decide +kernel) (fun c4 => ?_) (fun c4 => ?_)
          · have c4 : (m 87 (gx_w (400 + x3)).toNat) < x1 := c4
            refine hx_blk (npc := 16) (L' := [(0, .inr (.inl 86)), (1, .inl x1), (2, .inl (gx_w (x2 + 0))), (3, .inl (gx_w (x3 + 1)))]) (st' := []) (m' := m) [((63, .iconst 0, 1, 0, 0, 0, 0), (0, 0, 0)), ((64, .iadd, 1, 0, 0, 0, 0), (0, 0, 0)), ((65, .istore_n 2, 1, 0, 0, 0, 0), (0, 0, 0)), ((66, .iinc 3 1, 3, 0, 0, 0, 0), (0, 0, 0)), ((69, .goto (-53), 3, 0, 0, 0, 0), (0, 0, 0))] (by decide +kernel) rfl ?_
            exact hx_pick [0, 1, 2, 3] (h3 c1 c2 c3 c4)
          · have c4 : x1 ≤ (m 87 (gx_w (400 + x3)).toNat) := by have h : ¬ ((m 87 (gx_w (400 + x3)).toNat) < x1) := c4; omega
            refine hx_blk (npc := 16) (L' := [(0, .inr (.inl 86)), (1, .inl x1), (2, .inl (gx_w (x2 + 1))), (3, .inl (gx_w (x3 + 1)))]) (st' := []) (m' := m) [((59, .iconst 1, 1, 0, 0, 0, 0), (0, 0, 0)), ((60, .goto 4, 3, 0, 0, 0, 0), (0, 0, 0)), ((64, .iadd, 1, 0, 0, 0, 0), (0, 0, 0)), ((65, .istore_n 2, 1, 0, 0, 0, 0), (0, 0, 0)), ((66, .iinc 3 1, 3, 0, 0, 0, 0), (0, 0, 0)), ((69, .goto (-53), 3, 0, 0, 0, 0), (0, 0, 0))] (by decide +kernel) rfl ?_
            exact hx_pick [0, 1, 2, 3] (h4 c1 c2 c3 c4)
    · have c2 : ¬ (aYr (m 87) x3) := c2
      show hxn xs n yp_m235 28 [(0, .inr (.inl 86)), (1, .inl x1), (2, .inl x2), (3, .inl x3)] [.inl 0, .inl x2] m Q
      refine hx_if .eq 63 (by decide +kernel) (fun c3 => ?_) (fun c3 => ?_)
      · have c3 : (0 : Int) = 0 := c3
        refine hx_blk (npc := 16) (L' := [(0, .inr (.inl 86)), (1, .inl x1), (2, .inl (gx_w (x2 + 0))), (3, .inl (gx_w (x3 + 1)))]) (st' := []) (m' := m) [((63, .iconst 0, 1, 0, 0, 0, 0), (0, 0, 0)), ((64, .iadd, 1, 0, 0, 0, 0), (0, 0, 0)), ((65, .istore_n 2, 1, 0, 0, 0, 0), (0, 0, 0)), ((66, .iinc 3 1, 3, 0, 0, 0, 0), (0, 0, 0)), ((69, .goto (-53), 3, 0, 0, 0, 0), (0, 0, 0))] (by decide +kernel) rfl ?_
        exact hx_pick [0, 1, 2, 3] (h5 c1 c2)
      · have c3 : (0 : Int) ≠ 0 := c3
        exfalso; omega
end
section
/-! deeds, dealtIn: by both -/
def aDl (s : Nat → Int) (k : Int) (y : Nat) : Bool := (decide (s (440 + y) = 1) && decide (s (160 + y) = 1)) && decide (k ≤ s (400 + y))
def qDealt (s : Nat → Int) (k : Int) : Int := if 0 ≤ k ∧ k ≤ 16 then ((hcnt (aDl s k) 40 : Nat) : Int) else -1
/-- the first hand from k on that owns a year of the date -/
def fHand (s : Nat → Int) (y : Nat) : Nat → Nat → Int
  | _, 0 => s (40 + y)
  | k, d + 1 => if aOwnAt s (s (480 + (16 * y + k))) (s y) = true then s (480 + (16 * y + k)) else fHand s y (k + 1) d
theorem fHand_t {s : Nat → Int} {y k d : Nat} (h : aOwnAt s (s (480 + (16 * y + k))) (s y) = true) : fHand s y k (d + 1) = s (480 + (16 * y + k)) := if_pos h
theorem fHand_f {s : Nat → Int} {y k d : Nat} (h : ¬ aOwnAt s (s (480 + (16 * y + k))) (s y) = true) : fHand s y k (d + 1) = fHand s y (k + 1) d := if_neg h
def qDoer (s : Nat → Int) (rule : Int) (y : Nat) : Int := if rule = 1 then (if 0 ≤ s (280 + y) then s (280 + y) else s (240 + y)) else if rule = 2 then fHand s y 0 (s (400 + y)).toNat else s (40 + y)
def aDo (s : Nat → Int) (p rule : Int) (y : Nat) : Bool := (decide (s (440 + y) = 1) && decide (s (160 + y) = 1)) && decide (qDoer s rule y = p)
noncomputable def qDds (s : Nat → Int) (p rule : Int) : Int := @ite _ (aPers s p ∧ 0 ≤ rule ∧ rule ≤ 2) (Classical.propDecidable _) ((hcnt (aDo s p rule) 40 : Nat) : Int) (-1)
theorem qDds_no {s : Nat → Int} {p w : Int} (h : ¬ (aPers s p ∧ 0 ≤ w ∧ w ≤ 2)) : qDds s p w = -1 := if_neg h
theorem qDds_yes {s : Nat → Int} {p w : Int} (h : aPers s p ∧ 0 ≤ w ∧ w ≤ 2) : qDds s p w = ((hcnt (aDo s p w) 40 : Nat) : Int) := if_pos h
section DD
variable {xs : List Int32} {n : Nat} {Q : hQ} {m : gx_M} {s : Nat → Int} {a1 a2 : Int} {Y : Nat}
theorem q132 (hR : hWr xs m) : hxn xs n yp_m132 0 [(0, .inr (.inl 0)), (1, .inl a1)] [] m (fun r _ => r = some (.inl (qDealt (m 87) a1))) := by
  obtain ⟨hs, hB, -⟩ := hR
  have no : ¬ (0 ≤ a1 ∧ a1 ≤ 16) → (some (.inl (-1)) : Option hV) = some (.inl (qDealt (m 87) a1)) := fun c => by
    unfold qDealt
    rw [if_neg c]
  refine hx_dn (hr132_0 (fun c => no (by omega)) (fun c1 c2 => ?_) (fun _ c => no (by omega)))
  have e : qDealt (m 87) a1 = ((hcnt (aDl (m 87) a1) 40 : Nat) : Int) := if_pos ⟨c1, c2⟩
  rw [e]
  refine hloop (N := 40) (P := fun k => hxn xs n yp_m132 16 [(0, .inr (.inl 0)), (1, .inl a1), (2, .inl ((hcnt (aDl (m 87) a1) k : Nat) : Int)), (3, .inl (k : Int))] [] m (fun r _ => r = some (.inl ((hcnt (aDl (m 87) a1) 40 : Nat) : Int)))) (hx_dn (hr132_16 (fun _ => rfl) (fun c => absurd c (by decide)) (fun c => absurd c (by decide)) (fun c => absurd c (by decide)))) (fun k hk ih => ?_) 0 (Nat.zero_le _)
  have hle := hcnt_le (aDl (m 87) a1) k
  have em := sB5_many hB k hk
  refine hx_dn (hr132_16 (fun c => absurd c (by omega)) (fun _ c d => ?_) (fun _ c d => ?_) (fun _ c => ?_))
  · rw [Int.toNat_natCast, em] at d
    have hf : aDl (m 87) a1 k = false := by
      unfold aDl
      rw [decide_eq_false (show ¬ a1 ≤ m 87 (400 + k) by omega), Bool.and_false]
    rw [hcnt_f0 hf] at ih
    rw [ew_u (by omega)]
    exact ih
  · rw [Int.toNat_natCast, em] at d
    obtain ⟨t1, t2⟩ := (cDeed_iff hs hB hk).mp c
    have hf : aDl (m 87) a1 k = true := by
      unfold aDl
      rw [decide_eq_true d, decide_eq_true t1, decide_eq_true t2]
      rfl
    rw [hcnt_t hf] at ih
    rw [ew_u (by omega), gx_w_id (by omega) (by omega)]
    exact ih
  · have hf : aDl (m 87) a1 k = false := by
      unfold aDl
      rw [Bool.eq_false_iff]
      intro q
      rw [Bool.and_eq_true, Bool.and_eq_true, decide_eq_true_eq, decide_eq_true_eq] at q
      exact c ((cDeed_iff hs hB hk).mpr q.1)
    rw [hcnt_f0 hf] at ih
    rw [ew_u (by omega)]
    exact ih
theorem q235 (hR : hWr xs m) : hxn xs n yp_m235 0 [(0, .inr (.inl 86)), (1, .inl a1)] [] m (fun r _ => r = some (.inl (qDealt (m 87) a1))) := by
  obtain ⟨hs, -⟩ := hR
  refine hx_dn (hr235_0 (fun c => ?_) (fun c => ?_))
  case refine_2 =>
    unfold qDealt
    rw [if_neg c]
  have e : qDealt (m 87) a1 = ((hcnt (aDl (m 87) a1) 40 : Nat) : Int) := if_pos c
  rw [e]
  refine hloop (N := 40) (P := fun k => hxn xs n yp_m235 16 [(0, .inr (.inl 86)), (1, .inl a1), (2, .inl ((hcnt (aDl (m 87) a1) k : Nat) : Int)), (3, .inl (k : Int))] [] m (fun r _ => r = some (.inl ((hcnt (aDl (m 87) a1) 40 : Nat) : Int)))) (hx_dn (hr235_16 (fun _ => rfl) (fun c => absurd c (by decide)) (fun c => absurd c (by decide)) (fun c => absurd c (by decide)) (fun c => absurd c (by decide)))) (fun k hk ih => ?_) 0 (Nat.zero_le _)
  have hle := hcnt_le (aDl (m 87) a1) k
  have e160 : (gx_w (160 + (k : Int))).toNat = 160 + k := wz (by decide) (by omega)
  have no : aDl (m 87) a1 k = false → hxn xs n yp_m235 16 [(0, .inr (.inl 86)), (1, .inl a1), (2, .inl (gx_w (((hcnt (aDl (m 87) a1) k : Nat) : Int) + 0))), (3, .inl (gx_w ((k : Int) + 1)))] [] m (fun r _ => r = some (.inl ((hcnt (aDl (m 87) a1) 40 : Nat) : Int))) := fun hf => by
    rw [hcnt_f hf] at ih
    rw [ew_u (by omega), gx_w_id (by omega) (by omega)]
    exact ih
  refine hx_dn (hr235_16 (fun c => absurd c (by omega)) (fun _ c d => no ?_) (fun _ c d f => no ?_) (fun _ c d f => ?_) (fun _ c => no ?_))
  · rw [e160] at d
    unfold aDl
    rw [decide_eq_false d, Bool.and_false, Bool.false_and]
  · rw [w400 hk] at f
    unfold aDl
    rw [decide_eq_false (show ¬ a1 ≤ m 87 (400 + k) by omega), Bool.and_false]
  · rw [e160] at d
    rw [w400 hk] at f
    have hf : aDl (m 87) a1 k = true := by
      unfold aDl
      rw [decide_eq_true f, decide_eq_true ((aYr_iff hk).mp c), decide_eq_true d]
      rfl
    rw [hcnt_t hf] at ih
    rw [ew_u (by omega), gx_w_id (by omega) (by omega)]
    exact ih
  · unfold aDl
    rw [decide_eq_false (fun q => c ((aYr_iff hk).mpr q)), Bool.false_and, Bool.false_and]
/-! who does a deed -/
theorem c97 (hs : sOK s) (hB : sBk 5 s m) (hY : Y < 40) (ht : s (440 + Y) = 1) (h : Q (some (.inl (fHand s Y 0 (s (400 + Y)).toNat))) m) : hxn xs n yp_m97 0 [(0, .inr (.inl 5)), (1, .inl (Y : Int))] [] m Q := by
  have hm := hs.many Y hY
  have ed := sB5_date hB Y hY
  have em := sB5_many hB Y hY
  refine hx_dn (hr97_0 (fun _ => ?_) (fun c => absurd ((cY_iff hB hY).mpr ht) c))
  rw [Int.toNat_natCast, ed]
  refine c98 hB (hx_dn (hr97_26 ?_))
  have L : ∀ d k : Nat, (k : Int) + (d : Int) = s (400 + Y) → Q (some (.inl (fHand s Y k d))) m → hxn xs n yp_m97 30 [(0, .inr (.inl 5)), (1, .inl (Y : Int)), (2, .inr (.inr ((hmask (aDt s (s Y) (s Y)) 40 : Nat) : Int))), (4, .inl (k : Int))] [] m Q := by
    intro d
    induction d with
    | zero =>
      intro k hk h
      refine hx_dn (hr97_30 (fun _ => ?_) (fun c => ?_))
      · rw [Int.toNat_natCast, sB5_livr hB Y hY]
        exact h
      · rw [Int.toNat_natCast, em] at c
        exact absurd c (by omega)
    | succ d ih =>
      intro k hk h
      refine hx_dn (hr97_30 (fun c => ?_) (fun c => ?_))
      · rw [Int.toNat_natCast, em] at c
        exact absurd c (by omega)
      · refine c74 hB hY ht hm ?_
        rw [if_pos (by omega), Int.toNat_natCast]
        refine hx_dn (hr97_48 (c60 hB ?_))
        have oc := own_c (s := s) (p := s (480 + (16 * Y + k))) (d := s Y)
        refine hx_dn (hr97_56 (fun c => ?_) (fun c => ?_))
        · rw [fHand_f (fun q => oc.mpr q c)] at h
          rw [ew_u (by omega)]
          exact ih (k + 1) (by omega) h
        · rw [fHand_t (oc.mp c)] at h
          exact h
  exact L (s (400 + Y)).toNat 0 (by omega) h
theorem c96 (hs : sOK s) (hB : sBk 5 s m) (hY : Y < 40) (ht : s (440 + Y) = 1) (h : Q (some (.inl (qDoer s a2 Y))) m) : hxn xs n yp_m96 0 [(0, .inr (.inl 5)), (1, .inl (Y : Int)), (2, .inl a2)] [] m Q := by
  unfold qDoer at h
  refine hx_dn (hr96_0 (fun _ c1 c2 => ?_) (fun _ c1 c2 => ?_) (fun _ c1 c2 => ?_) (fun _ c1 c2 => ?_) (fun c => absurd ((cY_iff hB hY).mpr ht) c))
  · rw [if_neg c1, if_neg c2] at h
    rw [Int.toNat_natCast, sB5_livr hB Y hY]
    exact h
  · rw [if_neg c1, if_pos c2] at h
    exact c97 hs hB hY ht (hx_dn (hr96_49 h))
  · rw [if_pos c1, if_pos ((cPw5_iff hs hB hY).mp c2).2] at h
    rw [Int.toNat_natCast, sB5_hold hB Y hY ht]
    exact h
  · rw [if_pos c1, if_neg (fun q => c2 ((cPw5_iff hs hB hY).mpr ⟨ht, q⟩))] at h
    rw [Int.toNat_natCast, sB5_own hB Y hY]
    exact h
theorem q95 (hR : hWr xs m) : hxn xs n yp_m95 0 [(0, .inr (.inl 0)), (1, .inl a1), (2, .inl a2)] [] m (fun r _ => r = some (.inl (qDds (m 87) a1 a2))) := by
  obtain ⟨hs, hB, -⟩ := hR
  have i1 : cPers 5 m a1 ↔ aPers (m 87) a1 := cP_iff hB
  have no : ¬ (aPers (m 87) a1 ∧ 0 ≤ a2 ∧ a2 ≤ 2) → (some (.inl (-1)) : Option hV) = some (.inl (qDds (m 87) a1 a2)) := fun h => by rw [qDds_no h]
  refine hx_dn (hr95_0 (fun _ c => no (fun q => by omega)) (fun c1 c2 c3 => ?_) (fun _ _ c => no (fun q => by omega)) (fun c => no (fun q => c (i1.mpr q.1))))
  rw [qDds_yes ⟨i1.mp c1, c2, c3⟩]
  refine hloop (N := 40) (P := fun k => hxn xs n yp_m95 27 [(0, .inr (.inl 0)), (1, .inl a1), (2, .inl a2), (3, .inl ((hcnt (aDo (m 87) a1 a2) k : Nat) : Int)), (4, .inl (k : Int))] [] m (fun r _ => r = some (.inl ((hcnt (aDo (m 87) a1 a2) 40 : Nat) : Int)))) (hx_dn (hr95_27 (fun _ => rfl) (fun c => absurd c (by decide)) (fun c => absurd c (by decide)))) (fun k hk ih => ?_) 0 (Nat.zero_le _)
  have hle := hcnt_le (aDo (m 87) a1 a2) k
  refine hx_dn (hr95_27 (fun c => absurd c (by omega)) (fun _ c => ?_) (fun _ c => ?_))
  · obtain ⟨t1, t2⟩ := (cDeed_iff hs hB hk).mp c
    refine c96 hs hB hk t1 (hx_dn (hr95_56 (fun d => ?_) (fun d => ?_)))
    · have hf : aDo (m 87) a1 a2 k = false := by
        unfold aDo
        rw [decide_eq_false d, Bool.and_false]
      rw [hcnt_f0 hf] at ih
      rw [ew_u (by omega)]
      exact ih
    · have hf : aDo (m 87) a1 a2 k = true := by
        unfold aDo
        rw [decide_eq_true d, decide_eq_true t1, decide_eq_true t2]
        rfl
      rw [hcnt_t hf] at ih
      rw [ew_u (by omega), gx_w_id (by omega) (by omega)]
      exact ih
  · have hf : aDo (m 87) a1 a2 k = false := by
      unfold aDo
      rw [Bool.eq_false_iff]
      intro q
      rw [Bool.and_eq_true, Bool.and_eq_true, decide_eq_true_eq, decide_eq_true_eq] at q
      exact c ((cDeed_iff hs hB hk).mpr q.1)
    rw [hcnt_f0 hf] at ih
    rw [ew_u (by omega)]
    exact ih
theorem r233 (hs : sOK (m 87)) (hY : Y < 40) (h2 : 0 ≤ a2 ∧ a2 ≤ 2) (h : Q (some (.inl (qDoer (m 87) a2 Y))) m) : hxn xs n yp_m233 0 [(0, .inr (.inl 86)), (1, .inl (Y : Int)), (2, .inl a2)] [] m Q := by
  have hm := hs.many Y hY
  have e40 : (gx_w (40 + (Y : Int))).toNat = 40 + Y := wz (by decide) (by omega)
  have e0 : (gx_w (0 + (Y : Int))).toNat = Y := by
    rw [gx_w_id (by omega) (by omega)]
    omega
  have ipw : aPw (m 87) (Y : Int) ↔ 0 ≤ m 87 (280 + Y) := by
    unfold aPw
    rw [w280 hY]
  unfold qDoer at h
  refine hx_dn (hr233_0 (fun c1 c2 => ?_) (fun c1 c2 c3 => ?_) (fun c1 c2 c3 => ?_) (fun c1 => ?_))
  · rw [if_neg c2, if_pos (by omega)] at h
    have L : ∀ d k : Nat, (k : Int) + (d : Int) = m 87 (400 + Y) → Q (some (.inl (fHand (m 87) Y k d))) m → hxn xs n yp_m233 53 [(0, .inr (.inl 86)), (1, .inl (Y : Int)), (3, .inl (k : Int))] [] m Q := by
      intro d
      induction d with
      | zero =>
        intro k hk h
        refine hx_dn (hr233_53 (fun _ => ?_) (fun c => ?_))
        · rw [e40]
          exact h
        · rw [w400 hY] at c
          exact absurd c (by omega)
      | succ d ih =>
        intro k hk h
        have ei : (gx_w ((gx_w (480 + (gx_w (16 * (Y : Int))))) + (k : Int))).toNat = 480 + (16 * Y + k) := by
          rw [gx_w_id (x := 16 * (Y : Int)) (by omega) (by omega), gx_w_id (x := 480 + 16 * (Y : Int)) (by omega) (by omega), gx_w_id (by omega) (by omega)]
          omega
        refine hx_dn (hr233_53 (fun c => ?_) (fun c => ?_))
        · rw [w400 hY] at c
          exact absurd c (by omega)
        · rw [ei, e0]
          refine r234 hs ?_
          by_cases c : aOwnAt (m 87) (m 87 (480 + (16 * Y + k))) (m 87 Y) = true
          · rw [if_pos c]
            rw [fHand_t c] at h
            refine hx_dn (hr233_94 (fun c => absurd c (by decide)) (fun _ => ?_))
            rw [ei]
            exact h
          · rw [if_neg c]
            rw [fHand_f c] at h
            refine hx_dn (hr233_94 (fun _ => ?_) (fun c => absurd rfl c))
            rw [ew_u (by omega)]
            exact ih (k + 1) (by omega) h
    exact L (m 87 (400 + Y)).toNat 0 (by omega) h
  · rw [if_pos c2, if_pos (ipw.mp c3)] at h
    rw [w280 hY]
    exact h
  · rw [if_pos c2, if_neg (fun q => c3 (ipw.mpr q))] at h
    rw [w240 hY]
    exact h
  · rw [if_neg (by omega), if_neg (by omega)] at h
    rw [e40]
    exact h
theorem q232 (hR : hWr xs m) : hxn xs n yp_m232 0 [(0, .inr (.inl 86)), (1, .inl a1), (2, .inl a2)] [] m (fun r _ => r = some (.inl (qDds (m 87) a1 a2))) := by
  obtain ⟨hs, -⟩ := hR
  have no : ¬ (aPers (m 87) a1 ∧ 0 ≤ a2 ∧ a2 ≤ 2) → (some (.inl (-1)) : Option hV) = some (.inl (qDds (m 87) a1 a2)) := fun h => by rw [qDds_no h]
  refine hx_dn (hr232_0 (fun c1 c2 => ?_) (fun _ c => no (fun q => c q.2)) (fun c => no (fun q => c q.1)))
  rw [qDds_yes ⟨c1, c2⟩]
  refine hloop (N := 40) (P := fun k => hxn xs n yp_m232 24 [(0, .inr (.inl 86)), (1, .inl a1), (2, .inl a2), (3, .inl ((hcnt (aDo (m 87) a1 a2) k : Nat) : Int)), (4, .inl (k : Int))] [] m (fun r _ => r = some (.inl ((hcnt (aDo (m 87) a1 a2) 40 : Nat) : Int)))) (hx_dn (hr232_24 (fun _ => rfl) (fun c => absurd c (by decide)) (fun c => absurd c (by decide)) (fun c => absurd c (by decide)))) (fun k hk ih => ?_) 0 (Nat.zero_le _)
  have hle := hcnt_le (aDo (m 87) a1 a2) k
  have e160 : (gx_w (160 + (k : Int))).toNat = 160 + k := wz (by decide) (by omega)
  have no : aDo (m 87) a1 a2 k = false → hxn xs n yp_m232 24 [(0, .inr (.inl 86)), (1, .inl a1), (2, .inl a2), (3, .inl (gx_w (((hcnt (aDo (m 87) a1 a2) k : Nat) : Int) + 0))), (4, .inl (gx_w ((k : Int) + 1)))] [] m (fun r _ => r = some (.inl ((hcnt (aDo (m 87) a1 a2) 40 : Nat) : Int))) := fun hf => by
    rw [hcnt_f hf] at ih
    rw [ew_u (by omega), gx_w_id (by omega) (by omega)]
    exact ih
  refine hx_dn (hr232_24 (fun c => absurd c (by omega)) (fun _ c d => no ?_) (fun _ c d => ?_) (fun _ c => no ?_))
  · rw [e160] at d
    unfold aDo
    rw [decide_eq_false d, Bool.and_false, Bool.false_and]
  · rw [e160] at d
    refine r233 hs hk c2 (hx_dn (hr232_63 (fun f => no ?_) (fun f => ?_)))
    · unfold aDo
      rw [decide_eq_false f, Bool.and_false]
    · have hf : aDo (m 87) a1 a2 k = true := by
        unfold aDo
        rw [decide_eq_true f, decide_eq_true ((aYr_iff hk).mp c), decide_eq_true d]
        rfl
      rw [hcnt_t hf] at ih
      rw [ew_u (by omega), gx_w_id (by omega) (by omega)]
      exact ih
  · unfold aDo
    rw [decide_eq_false (fun q => c ((aYr_iff hk).mpr q)), Bool.false_and, Bool.false_and]
end DD
end
