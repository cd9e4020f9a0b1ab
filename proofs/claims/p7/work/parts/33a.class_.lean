section
/-! the class: persons, years, what is kept and put back -/
def cPers (b : Nat) (m : gx_M) (p : Int) : Prop := 0 ≤ p ∧ p < 8 ∧ gx_and (gx_shr (m b 0) p) 1 ≠ 0
def cGrp (b : Nat) (m : gx_M) (g : Int) : Prop := 0 ≤ g ∧ g ≤ 255 ∧ gx_and g (gx_xor (m b 0) (-1)) = 0
def cYear (b : Nat) (m : gx_M) (y : Int) : Prop := 0 ≤ y ∧ y < 40 ∧ hlcmp (hland (hlushr (m b 1) y) 1) 0 ≠ 0
/-- hasPerson from 0 on -/
theorem hs13_5 {xs : List Int32} {n : Nat} {Q : hQ} {m : gx_M} {x1 : Int}
    (h1 : cPers 5 m x1 → Q (some (.inl 1)) m) (h0 : ¬ (cPers 5 m x1) → Q (some (.inl 0)) m) : hxn xs n yp_m13 0 [(0, .inr (.inl 5)), (1, .inl x1)] [] m Q := by
  refine hx_dn ?_
  refine hx_blks (npc := 1) (L' := [(0, .inr (.inl 5)), (1, .inl x1)]) (st' := [.inl x1]) (m' := m) ((0, .iload_n 1, 1, 0, 0, 0, 0), (0, 0, 0)) [] (by decide +kernel) rfl ?_
  refine hx_if .lt 25 (by decide +kernel) (fun c1 => ?_) (fun c1 => ?_)
  · have c1 : x1 < 0 := c1
    refine hx_blk (npc := 26) (L' := [(0, .inr (.inl 5)), (1, .inl x1)]) (st' := [.inl 0]) (m' := m) [((25, .iconst 0, 1, 0, 0, 0, 0), (0, 0, 0))] (by decide +kernel) rfl ?_
    exact hx_reti (by decide +kernel) (h0 (by unfold cPers; omega))
  · have c1 : 0 ≤ x1 := by have h : ¬ (x1 < 0) := c1; omega
    refine hx_blk (npc := 7) (L' := [(0, .inr (.inl 5)), (1, .inl x1)]) (st' := [.inl 8, .inl x1]) (m' := m) [((4, .iload_n 1, 1, 0, 0, 0, 0), (0, 0, 0)), ((5, .bipush 8, 2, 0, 0, 0, 0), (0, 0, 0))] (by decide +kernel) rfl ?_
    refine hx_cmp .ge 25 (by decide +kernel) (fun c2 => ?_) (fun c2 => ?_)
    · have c2 : 8 ≤ x1 := c2
      refine hx_blk (npc := 26) (L' := [(0, .inr (.inl 5)), (1, .inl x1)]) (st' := [.inl 0]) (m' := m) [((25, .iconst 0, 1, 0, 0, 0, 0), (0, 0, 0))] (by decide +kernel) rfl ?_
      exact hx_reti (by decide +kernel) (h0 (by unfold cPers; omega))
    · have c2 : x1 < 8 := by have h : ¬ (8 ≤ x1) := c2; omega
      have f1 := gx_and_bd (gx_shr (m 5 0) x1) 1 (by decide)
      refine hx_blk (npc := 18) (L' := [(0, .inr (.inl 5)), (1, .inl x1)]) (st' := [.inl (gx_and (gx_shr (m 5 0) x1) 1)]) (m' := m) [((10, .aload_n 0, 1, 0, 0, 0, 0), (0, 0, 0)), ((11, .getfield 52, 3, 2, 0, 1076, 0), (0, 5, 0)), ((14, .iload_n 1, 1, 0, 0, 0, 0), (0, 0, 0)), ((15, .ishr, 1, 0, 0, 0, 0), (0, 0, 0)), ((16, .iconst 1, 1, 0, 0, 0, 0), (0, 0, 0)), ((17, .iand, 1, 0, 0, 0, 0), (0, 0, 0))] (by decide +kernel) rfl ?_
      refine hx_if .eq 25 (by decide +kernel) (fun c3 => ?_) (fun c3 => ?_)
      · have c3 : (gx_and (gx_shr (m 5 0) x1) 1) = 0 := c3
        refine hx_blk (npc := 26) (L' := [(0, .inr (.inl 5)), (1, .inl x1)]) (st' := [.inl 0]) (m' := m) [((25, .iconst 0, 1, 0, 0, 0, 0), (0, 0, 0))] (by decide +kernel) rfl ?_
        exact hx_reti (by decide +kernel) (h0 (by unfold cPers; omega))
      · have c3 : (gx_and (gx_shr (m 5 0) x1) 1) ≠ 0 := c3
        refine hx_blk (npc := 26) (L' := [(0, .inr (.inl 5)), (1, .inl x1)]) (st' := [.inl 1]) (m' := m) [((21, .iconst 1, 1, 0, 0, 0, 0), (0, 0, 0)), ((22, .goto 4, 3, 0, 0, 0, 0), (0, 0, 0))] (by decide +kernel) rfl ?_
        exact hx_reti (by decide +kernel) (h1 (by unfold cPers; omega))

/-- hasGroup from 0 on -/
theorem hs14_5 {xs : List Int32} {n : Nat} {Q : hQ} {m : gx_M} {x1 : Int}
    (h1 : cGrp 5 m x1 → Q (some (.inl 1)) m) (h0 : ¬ (cGrp 5 m x1) → Q (some (.inl 0)) m) : hxn xs n yp_m14 0 [(0, .inr (.inl 5)), (1, .inl x1)] [] m Q := by
  refine hx_dn ?_
  refine hx_blks (npc := 1) (L' := [(0, .inr (.inl 5)), (1, .inl x1)]) (st' := [.inl x1]) (m' := m) ((0, .iload_n 1, 1, 0, 0, 0, 0), (0, 0, 0)) [] (by decide +kernel) rfl ?_
  refine hx_if .lt 26 (by decide +kernel) (fun c1 => ?_) (fun c1 => ?_)
  · have c1 : x1 < 0 := c1
    refine hx_blk (npc := 27) (L' := [(0, .inr (.inl 5)), (1, .inl x1)]) (st' := [.inl 0]) (m' := m) [((26, .iconst 0, 1, 0, 0, 0, 0), (0, 0, 0))] (by decide +kernel) rfl ?_
    exact hx_reti (by decide +kernel) (h0 (by unfold cGrp; omega))
  · have c1 : 0 ≤ x1 := by have h : ¬ (x1 < 0) := c1; omega
    refine hx_blk (npc := 8) (L' := [(0, .inr (.inl 5)), (1, .inl x1)]) (st' := [.inl 255, .inl x1]) (m' := m) [((4, .iload_n 1, 1, 0, 0, 0, 0), (0, 0, 0)), ((5, .sipush 255, 3, 0, 0, 0, 0), (0, 0, 0))] (by decide +kernel) rfl ?_
    refine hx_cmp .gt 26 (by decide +kernel) (fun c2 => ?_) (fun c2 => ?_)
    · have c2 : 255 < x1 := c2
      refine hx_blk (npc := 27) (L' := [(0, .inr (.inl 5)), (1, .inl x1)]) (st' := [.inl 0]) (m' := m) [((26, .iconst 0, 1, 0, 0, 0, 0), (0, 0, 0))] (by decide +kernel) rfl ?_
      exact hx_reti (by decide +kernel) (h0 (by unfold cGrp; omega))
    · have c2 : x1 ≤ 255 := by have h : ¬ (255 < x1) := c2; omega
      refine hx_blk (npc := 19) (L' := [(0, .inr (.inl 5)), (1, .inl x1)]) (st' := [.inl (gx_and x1 (gx_xor (m 5 0) (-1)))]) (m' := m) [((11, .iload_n 1, 1, 0, 0, 0, 0), (0, 0, 0)), ((12, .aload_n 0, 1, 0, 0, 0, 0), (0, 0, 0)), ((13, .getfield 52, 3, 2, 0, 1076, 0), (0, 5, 0)), ((16, .iconst (-1), 1, 0, 0, 0, 0), (0, 0, 0)), ((17, .ixor, 1, 0, 0, 0, 0), (0, 0, 0)), ((18, .iand, 1, 0, 0, 0, 0), (0, 0, 0))] (by decide +kernel) rfl ?_
      refine hx_if .ne 26 (by decide +kernel) (fun c3 => ?_) (fun c3 => ?_)
      · have c3 : (gx_and x1 (gx_xor (m 5 0) (-1))) ≠ 0 := c3
        refine hx_blk (npc := 27) (L' := [(0, .inr (.inl 5)), (1, .inl x1)]) (st' := [.inl 0]) (m' := m) [((26, .iconst 0, 1, 0, 0, 0, 0), (0, 0, 0))] (by decide +kernel) rfl ?_
        exact hx_reti (by decide +kernel) (h0 (by unfold cGrp; omega))
      · have c3 : (gx_and x1 (gx_xor (m 5 0) (-1))) = 0 := by have h : ¬ ((gx_and x1 (gx_xor (m 5 0) (-1))) ≠ 0) := c3; omega
        refine hx_blk (npc := 27) (L' := [(0, .inr (.inl 5)), (1, .inl x1)]) (st' := [.inl 1]) (m' := m) [((22, .iconst 1, 1, 0, 0, 0, 0), (0, 0, 0)), ((23, .goto 4, 3, 0, 0, 0, 0), (0, 0, 0))] (by decide +kernel) rfl ?_
        exact hx_reti (by decide +kernel) (h1 (by unfold cGrp; omega))

/-- hasYear from 0 on -/
theorem hs17_5 {xs : List Int32} {n : Nat} {Q : hQ} {m : gx_M} {x1 : Int}
    (h1 : cYear 5 m x1 → Q (some (.inl 1)) m) (h0 : ¬ (cYear 5 m x1) → Q (some (.inl 0)) m) : hxn xs n yp_m17 0 [(0, .inr (.inl 5)), (1, .inl x1)] [] m Q := by
  refine hx_dn ?_
  refine hx_blks (npc := 1) (L' := [(0, .inr (.inl 5)), (1, .inl x1)]) (st' := [.inl x1]) (m' := m) ((0, .iload_n 1, 1, 0, 0, 0, 0), (0, 0, 0)) [] (by decide +kernel) rfl ?_
  refine hx_if .lt 27 (by decide +kernel) (fun c1 => ?_) (fun c1 => ?_)
  · have c1 : x1 < 0 := c1
    refine hx_blk (npc := 28) (L' := [(0, .inr (.inl 5)), (1, .inl x1)]) (st' := [.inl 0]) (m' := m) [((27, .iconst 0, 1, 0, 0, 0, 0), (0, 0, 0))] (by decide +kernel) rfl ?_
    exact hx_reti (by decide +kernel) (h0 (by unfold cYear; omega))
  · have c1 : 0 ≤ x1 := by have h : ¬ (x1 < 0) := c1; omega
    refine hx_blk (npc := 7) (L' := [(0, .inr (.inl 5)), (1, .inl x1)]) (st' := [.inl 40, .inl x1]) (m' := m) [((4, .iload_n 1, 1, 0, 0, 0, 0), (0, 0, 0)), ((5, .bipush 40, 2, 0, 0, 0, 0), (0, 0, 0))] (by decide +kernel) rfl ?_
    refine hx_cmp .ge 27 (by decide +kernel) (fun c2 => ?_) (fun c2 => ?_)
    · have c2 : 40 ≤ x1 := c2
      refine hx_blk (npc := 28) (L' := [(0, .inr (.inl 5)), (1, .inl x1)]) (st' := [.inl 0]) (m' := m) [((27, .iconst 0, 1, 0, 0, 0, 0), (0, 0, 0))] (by decide +kernel) rfl ?_
      exact hx_reti (by decide +kernel) (h0 (by unfold cYear; omega))
    · have c2 : x1 < 40 := by have h : ¬ (40 ≤ x1) := c2; omega
      refine hx_blk (npc := 20) (L' := [(0, .inr (.inl 5)), (1, .inl x1)]) (st' := [.inl (hlcmp (hland (hlushr (m 5 1) x1) 1) 0)]) (m' := m) [((10, .aload_n 0, 1, 0, 0, 0, 0), (0, 0, 0)), ((11, .getfield 55, 3, 2, 1, 1078, 0), (2, 5, 0)), ((14, .iload_n 1, 1, 0, 0, 0, 0), (0, 0, 0)), ((15, .lushr, 1, 0, 0, 0, 0), (0, 0, 0)), ((16, .lconst 1, 1, 0, 0, 0, 0), (0, 0, 0)), ((17, .land, 1, 0, 0, 0, 0), (0, 0, 0)), ((18, .lconst 0, 1, 0, 0, 0, 0), (0, 0, 0)), ((19, .lcmp, 1, 0, 0, 0, 0), (0, 0, 0))] (by decide +kernel) rfl ?_
      refine hx_if .eq 27 (by decide +kernel) (fun c3 => ?_) (fun c3 => ?_)
      · have c3 : (hlcmp (hland (hlushr (m 5 1) x1) 1) 0) = 0 := c3
        refine hx_blk (npc := 28) (L' := [(0, .inr (.inl 5)), (1, .inl x1)]) (st' := [.inl 0]) (m' := m) [((27, .iconst 0, 1, 0, 0, 0, 0), (0, 0, 0))] (by decide +kernel) rfl ?_
        exact hx_reti (by decide +kernel) (h0 (by unfold cYear; omega))
      · have c3 : (hlcmp (hland (hlushr (m 5 1) x1) 1) 0) ≠ 0 := c3
        refine hx_blk (npc := 28) (L' := [(0, .inr (.inl 5)), (1, .inl x1)]) (st' := [.inl 1]) (m' := m) [((23, .iconst 1, 1, 0, 0, 0, 0), (0, 0, 0)), ((24, .goto 4, 3, 0, 0, 0, 0), (0, 0, 0))] (by decide +kernel) rfl ?_
        exact hx_reti (by decide +kernel) (h1 (by unfold cYear; omega))

/-- hasPerson from 0 on -/
theorem hs13_31 {xs : List Int32} {n : Nat} {Q : hQ} {m : gx_M} {x1 : Int}
    (h1 : cPers 31 m x1 → Q (some (.inl 1)) m) (h0 : ¬ (cPers 31 m x1) → Q (some (.inl 0)) m) : hxn xs n yp_m13 0 [(0, .inr (.inl 31)), (1, .inl x1)] [] m Q := by
  refine hx_dn ?_
  refine hx_blks (npc := 1) (L' := [(0, .inr (.inl 31)), (1, .inl x1)]) (st' := [.inl x1]) (m' := m) ((0, .iload_n 1, 1, 0, 0, 0, 0), (0, 0, 0)) [] (by decide +kernel) rfl ?_
  refine hx_if .lt 25 (by decide +kernel) (fun c1 => ?_) (fun c1 => ?_)
  · have c1 : x1 < 0 := c1
    refine hx_blk (npc := 26) (L' := [(0, .inr (.inl 31)), (1, .inl x1)]) (st' := [.inl 0]) (m' := m) [((25, .iconst 0, 1, 0, 0, 0, 0), (0, 0, 0))] (by decide +kernel) rfl ?_
    exact hx_reti (by decide +kernel) (h0 (by unfold cPers; omega))
  · have c1 : 0 ≤ x1 := by have h : ¬ (x1 < 0) := c1; omega
    refine hx_blk (npc := 7) (L' := [(0, .inr (.inl 31)), (1, .inl x1)]) (st' := [.inl 8, .inl x1]) (m' := m) [((4, .iload_n 1, 1, 0, 0, 0, 0), (0, 0, 0)), ((5, .bipush 8, 2, 0, 0, 0, 0), (0, 0, 0))] (by decide +kernel) rfl ?_
    refine hx_cmp .ge 25 (by decide +kernel) (fun c2 => ?_) (fun c2 => ?_)
    · have c2 : 8 ≤ x1 := c2
      refine hx_blk (npc := 26) (L' := [(0, .inr (.inl 31)), (1, .inl x1)]) (st' := [.inl 0]) (m' := m) [((25, .iconst 0, 1, 0, 0, 0, 0), (0, 0, 0))] (by decide +kernel) rfl ?_
      exact hx_reti (by decide +kernel) (h0 (by unfold cPers; omega))
    · have c2 : x1 < 8 := by have h : ¬ (8 ≤ x1) := c2; omega
      have f1 := gx_and_bd (gx_shr (m 31 0) x1) 1 (by decide)
      refine hx_blk (npc := 18) (L' := [(0, .inr (.inl 31)), (1, .inl x1)]) (st' := [.inl (gx_and (gx_shr (m 31 0) x1) 1)]) (m' := m) [((10, .aload_n 0, 1, 0, 0, 0, 0), (0, 0, 0)), ((11, .getfield 52, 3, 2, 0, 1076, 0), (0, 31, 0)), ((14, .iload_n 1, 1, 0, 0, 0, 0), (0, 0, 0)), ((15, .ishr, 1, 0, 0, 0, 0), (0, 0, 0)), ((16, .iconst 1, 1, 0, 0, 0, 0), (0, 0, 0)), ((17, .iand, 1, 0, 0, 0, 0), (0, 0, 0))] (by decide +kernel) rfl ?_
      refine hx_if .eq 25 (by decide +kernel) (fun c3 => ?_) (fun c3 => ?_)
      · have c3 : (gx_and (gx_shr (m 31 0) x1) 1) = 0 := c3
        refine hx_blk (npc := 26) (L' := [(0, .inr (.inl 31)), (1, .inl x1)]) (st' := [.inl 0]) (m' := m) [((25, .iconst 0, 1, 0, 0, 0, 0), (0, 0, 0))] (by decide +kernel) rfl ?_
        exact hx_reti (by decide +kernel) (h0 (by unfold cPers; omega))
      · have c3 : (gx_and (gx_shr (m 31 0) x1) 1) ≠ 0 := c3
        refine hx_blk (npc := 26) (L' := [(0, .inr (.inl 31)), (1, .inl x1)]) (st' := [.inl 1]) (m' := m) [((21, .iconst 1, 1, 0, 0, 0, 0), (0, 0, 0)), ((22, .goto 4, 3, 0, 0, 0, 0), (0, 0, 0))] (by decide +kernel) rfl ?_
        exact hx_reti (by decide +kernel) (h1 (by unfold cPers; omega))

/-- hasGroup from 0 on -/
theorem hs14_31 {xs : List Int32} {n : Nat} {Q : hQ} {m : gx_M} {x1 : Int}
    (h1 : cGrp 31 m x1 → Q (some (.inl 1)) m) (h0 : ¬ (cGrp 31 m x1) → Q (some (.inl 0)) m) : hxn xs n yp_m14 0 [(0, .inr (.inl 31)), (1, .inl x1)] [] m Q := by
  refine hx_dn ?_
  refine hx_blks (npc := 1) (L' := [(0, .inr (.inl 31)), (1, .inl x1)]) (st' := [.inl x1]) (m' := m) ((0, .iload_n 1, 1, 0, 0, 0, 0), (0, 0, 0)) [] (by decide +kernel) rfl ?_
  refine hx_if .lt 26 (by decide +kernel) (fun c1 => ?_) (fun c1 => ?_)
  · have c1 : x1 < 0 := c1
    refine hx_blk (npc := 27) (L' := [(0, .inr (.inl 31)), (1, .inl x1)]) (st' := [.inl 0]) (m' := m) [((26, .iconst 0, 1, 0, 0, 0, 0), (0, 0, 0))] (by decide +kernel) rfl ?_
    exact hx_reti (by decide +kernel) (h0 (by unfold cGrp; omega))
  · have c1 : 0 ≤ x1 := by have h : ¬ (x1 < 0) := c1; omega
    refine hx_blk (npc := 8) (L' := [(0, .inr (.inl 31)), (1, .inl x1)]) (st' := [.inl 255, .inl x1]) (m' := m) [((4, .iload_n 1, 1, 0, 0, 0, 0), (0, 0, 0)), ((5, .sipush 255, 3, 0, 0, 0, 0), (0, 0, 0))] (by decide +kernel) rfl ?_
    refine hx_cmp .gt 26 (by decide +kernel) (fun c2 => ?_) (fun c2 => ?_)
    · have c2 : 255 < x1 := c2
      refine hx_blk (npc := 27) (L' := [(0, .inr (.inl 31)), (1, .inl x1)]) (st' := [.inl 0]) (m' := m) [((26, .iconst 0, 1, 0, 0, 0, 0), (0, 0, 0))] (by decide +kernel) rfl ?_
      exact hx_reti (by decide +kernel) (h0 (by unfold cGrp; omega))
    · have c2 : x1 ≤ 255 := by have h : ¬ (255 < x1) := c2; omega
      refine hx_blk (npc := 19) (L' := [(0, .inr (.inl 31)), (1, .inl x1)]) (st' := [.inl (gx_and x1 (gx_xor (m 31 0) (-1)))]) (m' := m) [((11, .iload_n 1, 1, 0, 0, 0, 0), (0, 0, 0)), ((12, .aload_n 0, 1, 0, 0, 0, 0), (0, 0, 0)), ((13, .getfield 52, 3, 2, 0, 1076, 0), (0, 31, 0)), ((16, .iconst (-1), 1, 0, 0, 0, 0), (0, 0, 0)), ((17, .ixor, 1, 0, 0, 0, 0), (0, 0, 0)), ((18, .iand, 1, 0, 0, 0, 0), (0, 0, 0))] (by decide +kernel) rfl ?_
      refine hx_if .ne 26 (by decide +kernel) (fun c3 => ?_) (fun c3 => ?_)
      · have c3 : (gx_and x1 (gx_xor (m 31 0) (-1))) ≠ 0 := c3
        refine hx_blk (npc := 27) (L' := [(0, .inr (.inl 31)), (1, .inl x1)]) (st' := [.inl 0]) (m' := m) [((26, .iconst 0, 1, 0, 0, 0, 0), (0, 0, 0))] (by decide +kernel) rfl ?_
        exact hx_reti (by decide +kernel) (h0 (by unfold cGrp; omega))
      · have c3 : (gx_and x1 (gx_xor (m 31 0) (-1))) = 0 := by have h : ¬ ((gx_and x1 (gx_xor (m 31 0) (-1))) ≠ 0) := c3; omega
        refine hx_blk (npc := 27) (L' := [(0, .inr (.inl 31)), (1, .inl x1)]) (st' := [.inl 1]) (m' := m) [((22, .iconst 1, 1, 0, 0, 0, 0), (0, 0, 0)), ((23, .goto 4, 3, 0, 0, 0, 0), (0, 0, 0))] (by decide +kernel) rfl ?_
        exact hx_reti (by decide +kernel) (h1 (by unfold cGrp; omega))

/-- hasYear from 0 on -/
theorem hs17_31 {xs : List Int32} {n : Nat} {Q : hQ} {m : gx_M} {x1 : Int}
    (h1 : cYear 31 m x1 → Q (some (.inl 1)) m) (h0 : ¬ (cYear 31 m x1) → Q (some (.inl 0)) m) : hxn xs n yp_m17 0 [(0, .inr (.inl 31)), (1, .inl x1)] [] m Q := by
  refine hx_dn ?_
  refine hx_blks (npc := 1) (L' := [(0, .inr (.inl 31)), (1, .inl x1)]) (st' := [.inl x1]) (m' := m) ((0, .iload_n 1, 1, 0, 0, 0, 0), (0, 0, 0)) [] (by decide +kernel) rfl ?_
  refine hx_if .lt 27 (by decide +kernel) (fun c1 => ?_) (fun c1 => ?_)
  · have c1 : x1 < 0 := c1
    refine hx_blk (npc := 28) (L' := [(0, .inr (.inl 31)), (1, .inl x1)]) (st' := [.inl 0]) (m' := m) [((27, .iconst 0, 1, 0, 0, 0, 0), (0, 0, 0))] (by decide +kernel) rfl ?_
    exact hx_reti (by decide +kernel) (h0 (by unfold cYear; omega))
  · have c1 : 0 ≤ x1 := by have h : ¬ (x1 < 0) := c1; omega
    refine hx_blk (npc := 7) (L' := [(0, .inr (.inl 31)), (1, .inl x1)]) (st' := [.inl 40, .inl x1]) (m' := m) [((4, .iload_n 1, 1, 0, 0, 0, 0), (0, 0, 0)), ((5, .bipush 40, 2, 0, 0, 0, 0), (0, 0, 0))] (by decide +kernel) rfl ?_
    refine hx_cmp .ge 27 (by decide +kernel) (fun c2 => ?_) (fun c2 => ?_)
    · have c2 : 40 ≤ x1 := c2
      refine hx_blk (npc := 28) (L' := [(0, .inr (.inl 31)), (1, .inl x1)]) (st' := [.inl 0]) (m' := m) [((27, .iconst 0, 1, 0, 0, 0, 0), (0, 0, 0))] (by decide +kernel) rfl ?_
      exact hx_reti (by decide +kernel) (h0 (by unfold cYear; omega))
    · have c2 : x1 < 40 := by have h : ¬ (40 ≤ x1) := c2; omega
      refine hx_blk (npc := 20) (L' := [(0, .inr (.inl 31)), (1, .inl x1)]) (st' := [.inl (hlcmp (hland (hlushr (m 31 1) x1) 1) 0)]) (m' := m) [((10, .aload_n 0, 1, 0, 0, 0, 0), (0, 0, 0)), ((11, .getfield 55, 3, 2, 1, 1078, 0), (2, 31, 0)), ((14, .iload_n 1, 1, 0, 0, 0, 0), (0, 0, 0)), ((15, .lushr, 1, 0, 0, 0, 0), (0, 0, 0)), ((16, .lconst 1, 1, 0, 0, 0, 0), (0, 0, 0)), ((17, .land, 1, 0, 0, 0, 0), (0, 0, 0)), ((18, .lconst 0, 1, 0, 0, 0, 0), (0, 0, 0)), ((19, .lcmp, 1, 0, 0, 0, 0), (0, 0, 0))] (by decide +kernel) rfl ?_
      refine hx_if .eq 27 (by decide +kernel) (fun c3 => ?_) (fun c3 => ?_)
      · have c3 : (hlcmp (hland (hlushr (m 31 1) x1) 1) 0) = 0 := c3
        refine hx_blk (npc := 28) (L' := [(0, .inr (.inl 31)), (1, .inl x1)]) (st' := [.inl 0]) (m' := m) [((27, .iconst 0, 1, 0, 0, 0, 0), (0, 0, 0))] (by decide +kernel) rfl ?_
        exact hx_reti (by decide +kernel) (h0 (by unfold cYear; omega))
      · have c3 : (hlcmp (hland (hlushr (m 31 1) x1) 1) 0) ≠ 0 := c3
        refine hx_blk (npc := 28) (L' := [(0, .inr (.inl 31)), (1, .inl x1)]) (st' := [.inl 1]) (m' := m) [((23, .iconst 1, 1, 0, 0, 0, 0), (0, 0, 0)), ((24, .goto 4, 3, 0, 0, 0, 0), (0, 0, 0))] (by decide +kernel) rfl ?_
        exact hx_reti (by decide +kernel) (h1 (by unfold cYear; omega))

def hFv : List Nat := [12, 13, 14, 15, 16, 17]
theorem hF17v {xs : List Int32} {n : Nat} {Q : hQ} {m0 m : gx_M} {x1 : Int} (g : hFr hFv m0 m) (hQ : ∀ v m', hFr hFv m0 m' → Q (some (.inl v)) m') : hxn xs n yp_m17 0 [(0, .inr (.inl 5)), (1, .inl x1)] [] m Q := by
  refine hx_dn ?_
  refine hx_blks (npc := 1) (L' := [(0, .inr (.inl 5)), (1, .inl x1)]) (st' := [.inl x1]) (m' := m) ((0, .iload_n 1, 1, 0, 0, 0, 0), (0, 0, 0)) [] (by decide +kernel) rfl ?_
  refine hx_if .lt 27 (by decide +kernel) (fun _ => ?_) (fun _ => ?_)
  · refine hx_blk (npc := 28) (L' := [(0, .inr (.inl 5)), (1, .inl x1)]) (st' := [.inl 0]) (m' := m) [((27, .iconst 0, 1, 0, 0, 0, 0), (0, 0, 0))] (by decide +kernel) rfl ?_
    exact hx_reti (by decide +kernel) (hQ _ _ g)
  · refine hx_blk (npc := 7) (L' := [(0, .inr (.inl 5)), (1, .inl x1)]) (st' := [.inl 40, .inl x1]) (m' := m) [((4, .iload_n 1, 1, 0, 0, 0, 0), (0, 0, 0)), ((5, .bipush 40, 2, 0, 0, 0, 0), (0, 0, 0))] (by decide +kernel) rfl ?_
    refine hx_cmp .ge 27 (by decide +kernel) (fun _ => ?_) (fun _ => ?_)
    · refine hx_blk (npc := 28) (L' := [(0, .inr (.inl 5)), (1, .inl x1)]) (st' := [.inl 0]) (m' := m) [((27, .iconst 0, 1, 0, 0, 0, 0), (0, 0, 0))] (by decide +kernel) rfl ?_
      exact hx_reti (by decide +kernel) (hQ _ _ g)
    · refine hx_blk (npc := 20) (L' := [(0, .inr (.inl 5)), (1, .inl x1)]) (st' := [.inl (hlcmp (hland (hlushr (m 5 1) x1) 1) 0)]) (m' := m) [((10, .aload_n 0, 1, 0, 0, 0, 0), (0, 0, 0)), ((11, .getfield 55, 3, 2, 1, 1078, 0), (2, 5, 0)), ((14, .iload_n 1, 1, 0, 0, 0, 0), (0, 0, 0)), ((15, .lushr, 1, 0, 0, 0, 0), (0, 0, 0)), ((16, .lconst 1, 1, 0, 0, 0, 0), (0, 0, 0)), ((17, .land, 1, 0, 0, 0, 0), (0, 0, 0)), ((18, .lconst 0, 1, 0, 0, 0, 0), (0, 0, 0)), ((19, .lcmp, 1, 0, 0, 0, 0), (0, 0, 0))] (by decide +kernel) rfl ?_
      refine hx_if .eq 27 (by decide +kernel) (fun _ => ?_) (fun _ => ?_)
      · refine hx_blk (npc := 28) (L' := [(0, .inr (.inl 5)), (1, .inl x1)]) (st' := [.inl 0]) (m' := m) [((27, .iconst 0, 1, 0, 0, 0, 0), (0, 0, 0))] (by decide +kernel) rfl ?_
        exact hx_reti (by decide +kernel) (hQ _ _ g)
      · refine hx_blk (npc := 28) (L' := [(0, .inr (.inl 5)), (1, .inl x1)]) (st' := [.inl 1]) (m' := m) [((23, .iconst 1, 1, 0, 0, 0, 0), (0, 0, 0)), ((24, .goto 4, 3, 0, 0, 0, 0), (0, 0, 0))] (by decide +kernel) rfl ?_
        exact hx_reti (by decide +kernel) (hQ _ _ g)
theorem hF19v {xs : List Int32} {n : Nat} {Q : hQ} {m0 m : gx_M} {x1 x2 x3 : Int} (g : hFr hFv m0 m) (hQ : ∀ m', hFr hFv m0 m' → Q none m') : hxn xs n yp_m19 0 [(0, .inr (.inl 5)), (1, .inl x1), (2, .inl x2), (3, .inl x3)] [] m Q := by
  refine hx_dn ?_
  refine hx_blks (npc := 2) (L' := [(0, .inr (.inl 5)), (1, .inl x1), (2, .inl x2), (3, .inl x3)]) (st' := [.inl x1, .inr (.inl 5)]) (m' := m) ((0, .aload_n 0, 1, 0, 0, 0, 0), (0, 0, 0)) [((1, .iload_n 1, 1, 0, 0, 0, 0), (0, 0, 0))] (by decide +kernel) rfl ?_
  refine hx_call (E := (2, .invokevirtual 71, 3, 17, 0, 2188, 0)) (M' := yp_m17) [.inr (.inl 5), .inl x1] [] rfl (by decide +kernel) rfl ⟨rfl, rfl⟩ rfl rfl (hF17v (m0 := m0) g (fun v1 m1 g1 => ?_))
  show hxn xs n yp_m19 5 [(0, .inr (.inl 5)), (1, .inl x1), (2, .inl x2), (3, .inl x3)] [.inl v1] m1 Q
  refine hx_if .ne 9 (by decide +kernel) (fun _ => ?_) (fun _ => ?_)
  · refine hx_blk (npc := 30) (L' := [(0, .inr (.inl 5)), (1, .inl x1), (2, .inl x2), (3, .inl x3)]) (st' := []) (m' := (gx_u (gx_u (gx_u m1 13 (x1).toNat x2) 14 (x1).toNat x3) 15 (x1).toNat x3)) [((9, .aload_n 0, 1, 0, 0, 0, 0), (0, 0, 0)), ((10, .getfield 37, 3, 2, 12, 1119, 0), (1, 5, 13)), ((13, .iload_n 1, 1, 0, 0, 0, 0), (0, 0, 0)), ((14, .iload_n 2, 1, 0, 0, 0, 0), (0, 0, 0)), ((15, .iastore, 1, 0, 0, 0, 0), (0, 13, 0)), ((16, .aload_n 0, 1, 0, 0, 0, 0), (0, 0, 0)), ((17, .getfield 40, 3, 2, 13, 1124, 0), (1, 5, 14)), ((20, .iload_n 1, 1, 0, 0, 0, 0), (0, 0, 0)), ((21, .iload_n 3, 1, 0, 0, 0, 0), (0, 0, 0)), ((22, .iastore, 1, 0, 0, 0, 0), (0, 14, 0)), ((23, .aload_n 0, 1, 0, 0, 0, 0), (0, 0, 0)), ((24, .getfield 43, 3, 2, 14, 1127, 0), (1, 5, 15)), ((27, .iload_n 1, 1, 0, 0, 0, 0), (0, 0, 0)), ((28, .iload_n 3, 1, 0, 0, 0, 0), (0, 0, 0)), ((29, .iastore, 1, 0, 0, 0, 0), (0, 15, 0))] (by decide +kernel) rfl ?_
    exact hx_ret0 (by decide +kernel) (hQ _ (((g1.w 13 (by decide)).w 14 (by decide)).w 15 (by decide)))
  · exact hx_ret0 (by decide +kernel) (hQ _ g1)
theorem hF18v {xs : List Int32} {n : Nat} {Q : hQ} {m0 m : gx_M} {x1 : Int} (g : hFr hFv m0 m) (hQ : ∀ m', hFr hFv m0 m' → Q none m') : hxn xs n yp_m18 0 [(0, .inr (.inl 5)), (1, .inl x1)] [] m Q := by
  refine hx_dn ?_
  refine hx_blks (npc := 5) (L' := [(0, .inr (.inl 5)), (1, .inl x1)]) (st' := [.inl 0, .inl (-2), .inl x1, .inr (.inl 5)]) (m' := m) ((0, .aload_n 0, 1, 0, 0, 0, 0), (0, 0, 0)) [((1, .iload_n 1, 1, 0, 0, 0, 0), (0, 0, 0)), ((2, .bipush (-2), 2, 0, 0, 0, 0), (0, 0, 0)), ((4, .iconst 0, 1, 0, 0, 0, 0), (0, 0, 0))] (by decide +kernel) rfl ?_
  refine hx_call (E := (5, .invokevirtual 85, 3, 19, 0, 2196, 0)) (M' := yp_m19) [.inr (.inl 5), .inl x1, .inl (-2), .inl 0] [] rfl (by decide +kernel) rfl ⟨rfl, rfl⟩ rfl rfl (hF19v (m0 := m0) g (fun m1 g1 => ?_))
  show hxn xs n yp_m18 8 [(0, .inr (.inl 5)), (1, .inl x1)] [] m1 Q
  exact hx_ret0 (by decide +kernel) (hQ _ g1)
theorem hF16v {xs : List Int32} {n : Nat} {Q : hQ} {m0 m : gx_M} {x1 x2 : Int} (g : hFr hFv m0 m) (hQ : ∀ m', hFr hFv m0 m' → Q none m') : hxn xs n yp_m16 0 [(0, .inr (.inl 5)), (1, .inl x1), (2, .inl x2)] [] m Q := by
  refine hx_dn ?_
  refine hx_blks (npc := 2) (L' := [(0, .inr (.inl 5)), (1, .inl x1), (2, .inl x2)]) (st' := [.inl x1, .inr (.inl 5)]) (m' := m) ((0, .aload_n 0, 1, 0, 0, 0, 0), (0, 0, 0)) [((1, .iload_n 1, 1, 0, 0, 0, 0), (0, 0, 0))] (by decide +kernel) rfl ?_
  refine hx_call (E := (2, .invokevirtual 71, 3, 17, 0, 2188, 0)) (M' := yp_m17) [.inr (.inl 5), .inl x1] [] rfl (by decide +kernel) rfl ⟨rfl, rfl⟩ rfl rfl (hF17v (m0 := m0) g (fun v1 m1 g1 => ?_))
  show hxn xs n yp_m16 5 [(0, .inr (.inl 5)), (1, .inl x1), (2, .inl x2)] [.inl v1] m1 Q
  refine hx_if .ne 9 (by decide +kernel) (fun _ => ?_) (fun _ => ?_)
  · refine hx_blk (npc := 18) (L' := [(0, .inr (.inl 5)), (1, .inl x1), (2, .inl x2)]) (st' := [.inl x1, .inr (.inl 5)]) (m' := (gx_u m1 12 (x1).toNat x2)) [((9, .aload_n 0, 1, 0, 0, 0, 0), (0, 0, 0)), ((10, .getfield 34, 3, 2, 11, 1111, 0), (1, 5, 12)), ((13, .iload_n 1, 1, 0, 0, 0, 0), (0, 0, 0)), ((14, .iload_n 2, 1, 0, 0, 0, 0), (0, 0, 0)), ((15, .iastore, 1, 0, 0, 0, 0), (0, 12, 0)), ((16, .aload_n 0, 1, 0, 0, 0, 0), (0, 0, 0)), ((17, .iload_n 1, 1, 0, 0, 0, 0), (0, 0, 0))] (by decide +kernel) rfl ?_
    refine hx_call (E := (18, .invokevirtual 81, 3, 18, 0, 2192, 0)) (M' := yp_m18) [.inr (.inl 5), .inl x1] [] rfl (by decide +kernel) rfl ⟨rfl, rfl⟩ rfl rfl (hF18v (m0 := m0) (g1.w 12 (by decide)) (fun m2 g2 => ?_))
    show hxn xs n yp_m16 21 [(0, .inr (.inl 5)), (1, .inl x1), (2, .inl x2)] [] m2 Q
    refine hx_blk (npc := 29) (L' := [(0, .inr (.inl 5)), (1, .inl x1), (2, .inl x2), (3, .inl (m2 16 (x1).toNat))]) (st' := [.inl (m2 16 (x1).toNat)]) (m' := m2) [((21, .aload_n 0, 1, 0, 0, 0, 0), (0, 0, 0)), ((22, .getfield 46, 3, 2, 15, 1131, 0), (1, 5, 16)), ((25, .iload_n 1, 1, 0, 0, 0, 0), (0, 0, 0)), ((26, .iaload, 1, 0, 0, 0, 0), (0, 16, 0)), ((27, .istore_n 3, 1, 0, 0, 0, 0), (0, 0, 0)), ((28, .iload_n 3, 1, 0, 0, 0, 0), (0, 0, 0))] (by decide +kernel) rfl ?_
    refine hx_if .lt 38 (by decide +kernel) (fun _ => ?_) (fun _ => ?_)
    · exact hx_ret0 (by decide +kernel) (hQ _ g2)
    · refine hx_blk (npc := 35) (L' := [(0, .inr (.inl 5)), (1, .inl x1), (2, .inl x2), (3, .inl (m2 16 (x1).toNat))]) (st' := [.inl 16, .inl (m2 16 (x1).toNat)]) (m' := m2) [((32, .iload_n 3, 1, 0, 0, 0, 0), (0, 0, 0)), ((33, .bipush 16, 2, 0, 0, 0, 0), (0, 0, 0))] (by decide +kernel) rfl ?_
      refine hx_cmp .lt 39 (by decide +kernel) (fun _ => ?_) (fun _ => ?_)
      · refine hx_blk (npc := 60) (L' := [(0, .inr (.inl 5)), (1, .inl x1), (2, .inl x2), (3, .inl (m2 16 (x1).toNat))]) (st' := []) (m' := (gx_u (gx_u m2 17 (gx_w ((gx_w (x1 * 16)) + (m2 16 (x1).toNat))).toNat x2) 16 (x1).toNat (gx_w ((m2 16 (x1).toNat) + 1)))) [((39, .aload_n 0, 1, 0, 0, 0, 0), (0, 0, 0)), ((40, .getfield 49, 3, 2, 16, 1136, 0), (1, 5, 17)), ((43, .iload_n 1, 1, 0, 0, 0, 0), (0, 0, 0)), ((44, .bipush 16, 2, 0, 0, 0, 0), (0, 0, 0)), ((46, .imul, 1, 0, 0, 0, 0), (0, 0, 0)), ((47, .iload_n 3, 1, 0, 0, 0, 0), (0, 0, 0)), ((48, .iadd, 1, 0, 0, 0, 0), (0, 0, 0)), ((49, .iload_n 2, 1, 0, 0, 0, 0), (0, 0, 0)), ((50, .iastore, 1, 0, 0, 0, 0), (0, 17, 0)), ((51, .aload_n 0, 1, 0, 0, 0, 0), (0, 0, 0)), ((52, .getfield 46, 3, 2, 15, 1131, 0), (1, 5, 16)), ((55, .iload_n 1, 1, 0, 0, 0, 0), (0, 0, 0)), ((56, .iload_n 3, 1, 0, 0, 0, 0), (0, 0, 0)), ((57, .iconst 1, 1, 0, 0, 0, 0), (0, 0, 0)), ((58, .iadd, 1, 0, 0, 0, 0), (0, 0, 0)), ((59, .iastore, 1, 0, 0, 0, 0), (0, 16, 0))] (by decide +kernel) rfl ?_
        exact hx_ret0 (by decide +kernel) (hQ _ ((g2.w 17 (by decide)).w 16 (by decide)))
      · exact hx_ret0 (by decide +kernel) (hQ _ g2)
  · exact hx_ret0 (by decide +kernel) (hQ _ g1)
/-- person from 0 on -/
theorem hr11_0 {xs : List Int32} {n : Nat} {Q : hQ} {m : gx_M} {x1 x2 : Int}
    (h1 : (x1 < 0) → Q (some (.inl 0)) m)
    (h2 : (0 ≤ x1) → (8 ≤ x1) → Q (some (.inl 0)) m)
    (h3 : (0 ≤ x1) → (x1 < 8) → (x2 < 0) → Q (some (.inl 0)) m)
    (h4 : (0 ≤ x1) → (x1 < 8) → (0 ≤ x2) → (x2 ≤ 99999) → Q (some (.inl 1)) (gx_u (gx_u m 5 0 (gx_or (m 5 0) (gx_shl 1 x1))) 6 (x1).toNat x2))
    (h5 : (0 ≤ x1) → (x1 < 8) → (0 ≤ x2) → (99999 < x2) → Q (some (.inl 0)) m) : hxn xs (n + 1) yp_m11 0 [(0, .inr (.inl 0)), (1, .inl x1), (2, .inl x2)] [] m Q := by
  refine hx_blks (npc := 1) (L' := [(0, .inr (.inl 0)), (1, .inl x1), (2, .inl x2)]) (st' := [.inl x1]) (m' := m) ((0, .iload_n 1, 1, 0, 0, 0, 0), (0, 0, 0)) [] (by decide +kernel) rfl ?_
  refine hx_if .lt 20 (by decide +kernel) (fun c1 => ?_) (fun c1 => ?_)
  · have c1 : x1 < 0 := c1
    refine hx_blk (npc := 21) (L' := [(0, .inr (.inl 0)), (1, .inl x1), (2, .inl x2)]) (st' := [.inl 0]) (m' := m) [((20, .iconst 0, 1, 0, 0, 0, 0), (0, 0, 0))] (by decide +kernel) rfl ?_
    exact hx_reti (by decide +kernel) (h1 c1)
  · have c1 : 0 ≤ x1 := by have h : ¬ (x1 < 0) := c1; omega
    refine hx_blk (npc := 7) (L' := [(0, .inr (.inl 0)), (1, .inl x1), (2, .inl x2)]) (st' := [.inl 8, .inl x1]) (m' := m) [((4, .iload_n 1, 1, 0, 0, 0, 0), (0, 0, 0)), ((5, .bipush 8, 2, 0, 0, 0, 0), (0, 0, 0))] (by decide +kernel) rfl ?_
    refine hx_cmp .ge 20 (by decide +kernel) (fun c2 => ?_) (fun c2 => ?_)
    · have c2 : 8 ≤ x1 := c2
      refine hx_blk (npc := 21) (L' := [(0, .inr (.inl 0)), (1, .inl x1), (2, .inl x2)]) (st' := [.inl 0]) (m' := m) [((20, .iconst 0, 1, 0, 0, 0, 0), (0, 0, 0))] (by decide +kernel) rfl ?_
      exact hx_reti (by decide +kernel) (h2 c1 c2)
    · have c2 : x1 < 8 := by have h : ¬ (8 ≤ x1) := c2; omega
      refine hx_blk (npc := 11) (L' := [(0, .inr (.inl 0)), (1, .inl x1), (2, .inl x2)]) (st' := [.inl x2]) (m' := m) [((10, .iload_n 2, 1, 0, 0, 0, 0), (0, 0, 0))] (by decide +kernel) rfl ?_
      refine hx_if .lt 20 (by decide +kernel) (fun c3 => ?_) (fun c3 => ?_)
      · have c3 : x2 < 0 := c3
        refine hx_blk (npc := 21) (L' := [(0, .inr (.inl 0)), (1, .inl x1), (2, .inl x2)]) (st' := [.inl 0]) (m' := m) [((20, .iconst 0, 1, 0, 0, 0, 0), (0, 0, 0))] (by decide +kernel) rfl ?_
        exact hx_reti (by decide +kernel) (h3 c1 c2 c3)
      · have c3 : 0 ≤ x2 := by have h : ¬ (x2 < 0) := c3; omega
        refine hx_blk (npc := 17) (L' := [(0, .inr (.inl 0)), (1, .inl x1), (2, .inl x2)]) (st' := [.inl 99999, .inl x2]) (m' := m) [((14, .iload_n 2, 1, 0, 0, 0, 0), (0, 0, 0)), ((15, .ldc 85, 2, 0, 0, 2166, 99999), (0, 0, 0))] (by decide +kernel) rfl ?_
        refine hx_cmp .le 22 (by decide +kernel) (fun c4 => ?_) (fun c4 => ?_)
        · have c4 : x2 ≤ 99999 := c4
          refine hx_blk (npc := 48) (L' := [(0, .inr (.inl 0)), (1, .inl x1), (2, .inl x2)]) (st' := [.inl 1]) (m' := (gx_u (gx_u m 5 0 (gx_or (m 5 0) (gx_shl 1 x1))) 6 (x1).toNat x2)) [((22, .aload_n 0, 1, 0, 0, 0, 0), (0, 0, 0)), ((23, .getfield 26, 3, 9, 2, 2121, 0), (1, 0, 5)), ((26, .dup, 1, 0, 0, 0, 0), (0, 0, 0)), ((27, .getfield 86, 3, 2, 0, 1077, 0), (0, 5, 0)), ((30, .iconst 1, 1, 0, 0, 0, 0), (0, 0, 0)), ((31, .iload_n 1, 1, 0, 0, 0, 0), (0, 0, 0)), ((32, .ishl, 1, 0, 0, 0, 0), (0, 0, 0)), ((33, .ior, 1, 0, 0, 0, 0), (0, 0, 0)), ((34, .putfield 86, 3, 2, 0, 1077, 0), (0, 5, 0)), ((37, .aload_n 0, 1, 0, 0, 0, 0), (0, 0, 0)), ((38, .getfield 26, 3, 9, 2, 2121, 0), (1, 0, 5)), ((41, .getfield 90, 3, 2, 5, 1090, 0), (1, 5, 6)), ((44, .iload_n 1, 1, 0, 0, 0, 0), (0, 0, 0)), ((45, .iload_n 2, 1, 0, 0, 0, 0), (0, 0, 0)), ((46, .iastore, 1, 0, 0, 0, 0), (0, 6, 0)), ((47, .iconst 1, 1, 0, 0, 0, 0), (0, 0, 0))] (by decide +kernel) rfl ?_
          exact hx_reti (by decide +kernel) (h4 c1 c2 c3 c4)
        · have c4 : 99999 < x2 := by have h : ¬ (x2 ≤ 99999) := c4; omega
          refine hx_blk (npc := 21) (L' := [(0, .inr (.inl 0)), (1, .inl x1), (2, .inl x2)]) (st' := [.inl 0]) (m' := m) [((20, .iconst 0, 1, 0, 0, 0, 0), (0, 0, 0))] (by decide +kernel) rfl ?_
          exact hx_reti (by decide +kernel) (h5 c1 c2 c3 c4)

/-- bear from 0 on -/
theorem hr15_0 {xs : List Int32} {n : Nat} {Q : hQ} {m : gx_M} {x1 x2 x3 : Int}
    (h1 : (x1 < 0) → Q none m)
    (h2 : (0 ≤ x1) → (x1 < 40) → (x3 = 0) → hxn xs n yp_m16 0 [(0, .inr (.inl 5)), (1, .inl x1), (2, .inl x2)] [] (gx_u (gx_u (gx_u (gx_u m 5 1 (hlor (m 5 1) (hlshl 1 x1))) 5 2 (hland (m 5 2) (hlxor (hlshl 1 x1) (-1)))) 8 (x1).toNat x2) 16 (x1).toNat 0) (fun r m' => hxn xs n yp_m15 74 [] (hrs r ++ []) m' Q))
    (h3 : (0 ≤ x1) → (x1 < 40) → (x3 ≠ 0) → hxn xs n yp_m16 0 [(0, .inr (.inl 5)), (1, .inl x1), (2, .inl x2)] [] (gx_u (gx_u (gx_u (gx_u m 5 1 (hlor (m 5 1) (hlshl 1 x1))) 5 2 (hlor (m 5 2) (hlshl 1 x1))) 8 (x1).toNat x2) 16 (x1).toNat 0) (fun r m' => hxn xs n yp_m15 74 [] (hrs r ++ []) m' Q))
    (h4 : (0 ≤ x1) → (40 ≤ x1) → Q none m) : hxn xs (n + 1) yp_m15 0 [(0, .inr (.inl 5)), (1, .inl x1), (2, .inl x2), (3, .inl x3)] [] m Q := by
  refine hx_blks (npc := 1) (L' := [(0, .inr (.inl 5)), (1, .inl x1), (2, .inl x2), (3, .inl x3)]) (st' := [.inl x1]) (m' := m) ((0, .iload_n 1, 1, 0, 0, 0, 0), (0, 0, 0)) [] (by decide +kernel) rfl ?_
  refine hx_if .lt 10 (by decide +kernel) (fun c1 => ?_) (fun c1 => ?_)
  · have c1 : x1 < 0 := c1
    exact hx_ret0 (by decide +kernel) (h1 c1)
  · have c1 : 0 ≤ x1 := by have h : ¬ (x1 < 0) := c1; omega
    refine hx_blk (npc := 7) (L' := [(0, .inr (.inl 5)), (1, .inl x1), (2, .inl x2), (3, .inl x3)]) (st' := [.inl 40, .inl x1]) (m' := m) [((4, .iload_n 1, 1, 0, 0, 0, 0), (0, 0, 0)), ((5, .bipush 40, 2, 0, 0, 0, 0), (0, 0, 0))] (by decide +kernel) rfl ?_
    refine hx_cmp .lt 11 (by decide +kernel) (fun c2 => ?_) (fun c2 => ?_)
    · have c2 : x1 < 40 := c2
      refine hx_blk (npc := 25) (L' := [(0, .inr (.inl 5)), (1, .inl x1), (2, .inl x2), (3, .inl x3)]) (st' := [.inl x3, .inr (.inl 5)]) (m' := (gx_u m 5 1 (hlor (m 5 1) (hlshl 1 x1)))) [((11, .aload_n 0, 1, 0, 0, 0, 0), (0, 0, 0)), ((12, .dup, 1, 0, 0, 0, 0), (0, 0, 0)), ((13, .getfield 55, 3, 2, 1, 1078, 0), (2, 5, 0)), ((16, .lconst 1, 1, 0, 0, 0, 0), (0, 0, 0)), ((17, .iload_n 1, 1, 0, 0, 0, 0), (0, 0, 0)), ((18, .lshl, 1, 0, 0, 0, 0), (0, 0, 0)), ((19, .lor, 1, 0, 0, 0, 0), (0, 0, 0)), ((20, .putfield 55, 3, 2, 1, 1078, 0), (2, 5, 0)), ((23, .aload_n 0, 1, 0, 0, 0, 0), (0, 0, 0)), ((24, .iload_n 3, 1, 0, 0, 0, 0), (0, 0, 0))] (by decide +kernel) rfl ?_
      refine hx_if .eq 39 (by decide +kernel) (fun c3 => ?_) (fun c3 => ?_)
      · have c3 : x3 = 0 := c3
        refine hx_blk (npc := 71) (L' := [(0, .inr (.inl 5)), (1, .inl x1), (2, .inl x2), (3, .inl x3)]) (st' := [.inl x2, .inl x1, .inr (.inl 5)]) (m' := (gx_u (gx_u (gx_u (gx_u m 5 1 (hlor (m 5 1) (hlshl 1 x1))) 5 2 (hland (m 5 2) (hlxor (hlshl 1 x1) (-1)))) 8 (x1).toNat x2) 16 (x1).toNat 0)) [((39, .aload_n 0, 1, 0, 0, 0, 0), (0, 0, 0)), ((40, .getfield 59, 3, 2, 2, 1080, 0), (2, 5, 0)), ((43, .lconst 1, 1, 0, 0, 0, 0), (0, 0, 0)), ((44, .iload_n 1, 1, 0, 0, 0, 0), (0, 0, 0)), ((45, .lshl, 1, 0, 0, 0, 0), (0, 0, 0)), ((46, .ldc2_w 75, 3, 0, 0, 2183, (-1)), (0, 0, 0)), ((49, .lxor, 1, 0, 0, 0, 0), (0, 0, 0)), ((50, .land, 1, 0, 0, 0, 0), (0, 0, 0)), ((51, .putfield 59, 3, 2, 2, 1080, 0), (2, 5, 0)), ((54, .aload_n 0, 1, 0, 0, 0, 0), (0, 0, 0)), ((55, .getfield 22, 3, 2, 7, 1096, 0), (1, 5, 8)), ((58, .iload_n 1, 1, 0, 0, 0, 0), (0, 0, 0)), ((59, .iload_n 2, 1, 0, 0, 0, 0), (0, 0, 0)), ((60, .iastore, 1, 0, 0, 0, 0), (0, 8, 0)), ((61, .aload_n 0, 1, 0, 0, 0, 0), (0, 0, 0)), ((62, .getfield 46, 3, 2, 15, 1131, 0), (1, 5, 16)), ((65, .iload_n 1, 1, 0, 0, 0, 0), (0, 0, 0)), ((66, .iconst 0, 1, 0, 0, 0, 0), (0, 0, 0)), ((67, .iastore, 1, 0, 0, 0, 0), (0, 16, 0)), ((68, .aload_n 0, 1, 0, 0, 0, 0), (0, 0, 0)), ((69, .iload_n 1, 1, 0, 0, 0, 0), (0, 0, 0)), ((70, .iload_n 2, 1, 0, 0, 0, 0), (0, 0, 0))] (by decide +kernel) rfl ?_
        exact hx_call (E := (71, .invokevirtual 77, 3, 16, 0, 2184, 0)) (M' := yp_m16) [.inr (.inl 5), .inl x1, .inl x2] [] rfl (by decide +kernel) rfl ⟨rfl, rfl⟩ rfl rfl (hx_mono (h2 c1 c2 c3) (fun r m' h' => hx_pick [] h'))
      · have c3 : x3 ≠ 0 := c3
        refine hx_blk (npc := 71) (L' := [(0, .inr (.inl 5)), (1, .inl x1), (2, .inl x2), (3, .inl x3)]) (st' := [.inl x2, .inl x1, .inr (.inl 5)]) (m' := (gx_u (gx_u (gx_u (gx_u m 5 1 (hlor (m 5 1) (hlshl 1 x1))) 5 2 (hlor (m 5 2) (hlshl 1 x1))) 8 (x1).toNat x2) 16 (x1).toNat 0)) [((28, .aload_n 0, 1, 0, 0, 0, 0), (0, 0, 0)), ((29, .getfield 59, 3, 2, 2, 1080, 0), (2, 5, 0)), ((32, .lconst 1, 1, 0, 0, 0, 0), (0, 0, 0)), ((33, .iload_n 1, 1, 0, 0, 0, 0), (0, 0, 0)), ((34, .lshl, 1, 0, 0, 0, 0), (0, 0, 0)), ((35, .lor, 1, 0, 0, 0, 0), (0, 0, 0)), ((36, .goto 15, 3, 0, 0, 0, 0), (0, 0, 0)), ((51, .putfield 59, 3, 2, 2, 1080, 0), (2, 5, 0)), ((54, .aload_n 0, 1, 0, 0, 0, 0), (0, 0, 0)), ((55, .getfield 22, 3, 2, 7, 1096, 0), (1, 5, 8)), ((58, .iload_n 1, 1, 0, 0, 0, 0), (0, 0, 0)), ((59, .iload_n 2, 1, 0, 0, 0, 0), (0, 0, 0)), ((60, .iastore, 1, 0, 0, 0, 0), (0, 8, 0)), ((61, .aload_n 0, 1, 0, 0, 0, 0), (0, 0, 0)), ((62, .getfield 46, 3, 2, 15, 1131, 0), (1, 5, 16)), ((65, .iload_n 1, 1, 0, 0, 0, 0), (0, 0, 0)), ((66, .iconst 0, 1, 0, 0, 0, 0), (0, 0, 0)), ((67, .iastore, 1, 0, 0, 0, 0), (0, 16, 0)), ((68, .aload_n 0, 1, 0, 0, 0, 0), (0, 0, 0)), ((69, .iload_n 1, 1, 0, 0, 0, 0), (0, 0, 0)), ((70, .iload_n 2, 1, 0, 0, 0, 0), (0, 0, 0))] (by decide +kernel) rfl ?_
        exact hx_call (E := (71, .invokevirtual 77, 3, 16, 0, 2184, 0)) (M' := yp_m16) [.inr (.inl 5), .inl x1, .inl x2] [] rfl (by decide +kernel) rfl ⟨rfl, rfl⟩ rfl rfl (hx_mono (h3 c1 c2 c3) (fun r m' h' => hx_pick [] h'))
    · have c2 : 40 ≤ x1 := by have h : ¬ (x1 < 40) := c2; omega
      exact hx_ret0 (by decide +kernel) (h4 c1 c2)

/-- bear from 74 on -/
theorem hr15_74 {xs : List Int32} {n : Nat} {Q : hQ} {m : gx_M}
    (h1 : Q none m) : hxn xs (n + 1) yp_m15 74 [] [] m Q := by
  exact hx_ret0 (by decide +kernel) h1

/-- year from 0 on -/
theorem hr12_0 {xs : List Int32} {n : Nat} {Q : hQ} {m : gx_M} {x1 x2 x3 x4 x5 x6 x7 : Int}
    (h1 : (x1 < 0) → Q (some (.inl 0)) m)
    (h2 : (0 ≤ x1) → (40 ≤ x1) → Q (some (.inl 0)) m)
    (h3 : (0 ≤ x1) → (x1 < 40) → (x2 < 0) → Q (some (.inl 0)) m)
    (h4 : (0 ≤ x1) → (x1 < 40) → (0 ≤ x2) → (99 < x2) → Q (some (.inl 0)) m)
    (h5 : (0 ≤ x1) → (x1 < 40) → (0 ≤ x2) → (x2 ≤ 99) → (x7 < 0) → Q (some (.inl 0)) m)
    (h6 : (0 ≤ x1) → (x1 < 40) → (0 ≤ x2) → (x2 ≤ 99) → (0 ≤ x7) → (x7 ≤ 9) → (x4 < 0) → Q (some (.inl 0)) m)
    (h7 : (0 ≤ x1) → (x1 < 40) → (0 ≤ x2) → (x2 ≤ 99) → (0 ≤ x7) → (x7 ≤ 9) → (0 ≤ x4) → (4095 < x4) → Q (some (.inl 0)) m)
    (h8 : (0 ≤ x1) → (x1 < 40) → (0 ≤ x2) → (x2 ≤ 99) → (0 ≤ x7) → (x7 ≤ 9) → (0 ≤ x4) → (x4 ≤ 4095) → (cPers 5 m x3) → (cGrp 5 m x5) → ((gx_and (gx_shr x5 x3) 1) = 0) → hxn xs n yp_m15 0 [(0, .inr (.inl 5)), (1, .inl x1), (2, .inl x3), (3, .inl x6)] [] (gx_u (gx_u (gx_u (gx_u m 7 (x1).toNat x2) 9 (x1).toNat x4) 10 (x1).toNat x5) 11 (x1).toNat x7) (fun r m' => hxn xs n yp_m12 137 [] (hrs r ++ []) m' Q))
    (h9 : (0 ≤ x1) → (x1 < 40) → (0 ≤ x2) → (x2 ≤ 99) → (0 ≤ x7) → (x7 ≤ 9) → (0 ≤ x4) → (x4 ≤ 4095) → (cPers 5 m x3) → (cGrp 5 m x5) → ((gx_and (gx_shr x5 x3) 1) ≠ 0) → Q (some (.inl 0)) m)
    (h10 : (0 ≤ x1) → (x1 < 40) → (0 ≤ x2) → (x2 ≤ 99) → (0 ≤ x7) → (x7 ≤ 9) → (0 ≤ x4) → (x4 ≤ 4095) → (cPers 5 m x3) → (¬ (cGrp 5 m x5)) → Q (some (.inl 0)) m)
    (h11 : (0 ≤ x1) → (x1 < 40) → (0 ≤ x2) → (x2 ≤ 99) → (0 ≤ x7) → (x7 ≤ 9) → (0 ≤ x4) → (x4 ≤ 4095) → (¬ (cPers 5 m x3)) → Q (some (.inl 0)) m)
    (h12 : (0 ≤ x1) → (x1 < 40) → (0 ≤ x2) → (x2 ≤ 99) → (0 ≤ x7) → (9 < x7) → Q (some (.inl 0)) m) : hxn xs (n + 1) yp_m12 0 [(0, .inr (.inl 0)), (1, .inl x1), (2, .inl x2), (3, .inl x3), (4, .inl x4), (5, .inl x5), (6, .inl x6), (7, .inl x7)] [] m Q := by
  refine hx_blks (npc := 1) (L' := [(0, .inr (.inl 0)), (1, .inl x1), (2, .inl x2), (3, .inl x3), (4, .inl x4), (5, .inl x5), (6, .inl x6), (7, .inl x7)]) (st' := [.inl x1]) (m' := m) ((0, .iload_n 1, 1, 0, 0, 0, 0), (0, 0, 0)) [] (by decide +kernel) rfl ?_
  refine hx_if .lt 32 (by decide +kernel) (fun c1 => ?_) (fun c1 => ?_)
  · have c1 : x1 < 0 := c1
    refine hx_blk (npc := 33) (L' := [(0, .inr (.inl 0)), (1, .inl x1), (2, .inl x2), (3, .inl x3), (4, .inl x4), (5, .inl x5), (6, .inl x6), (7, .inl x7)]) (st' := [.inl 0]) (m' := m) [((32, .iconst 0, 1, 0, 0, 0, 0), (0, 0, 0))] (by decide +kernel) rfl ?_
    exact hx_reti (by decide +kernel) (h1 c1)
  · have c1 : 0 ≤ x1 := by have h : ¬ (x1 < 0) := c1; omega
    refine hx_blk (npc := 7) (L' := [(0, .inr (.inl 0)), (1, .inl x1), (2, .inl x2), (3, .inl x3), (4, .inl x4), (5, .inl x5), (6, .inl x6), (7, .inl x7)]) (st' := [.inl 40, .inl x1]) (m' := m) [((4, .iload_n 1, 1, 0, 0, 0, 0), (0, 0, 0)), ((5, .bipush 40, 2, 0, 0, 0, 0), (0, 0, 0))] (by decide +kernel) rfl ?_
    refine hx_cmp .ge 32 (by decide +kernel) (fun c2 => ?_) (fun c2 => ?_)
    · have c2 : 40 ≤ x1 := c2
      refine hx_blk (npc := 33) (L' := [(0, .inr (.inl 0)), (1, .inl x1), (2, .inl x2), (3, .inl x3), (4, .inl x4), (5, .inl x5), (6, .inl x6), (7, .inl x7)]) (st' := [.inl 0]) (m' := m) [((32, .iconst 0, 1, 0, 0, 0, 0), (0, 0, 0))] (by decide +kernel) rfl ?_
      exact hx_reti (by decide +kernel) (h2 c1 c2)
    · have c2 : x1 < 40 := by have h : ¬ (40 ≤ x1) := c2; omega
      refine hx_blk (npc := 11) (L' := [(0, .inr (.inl 0)), (1, .inl x1), (2, .inl x2), (3, .inl x3), (4, .inl x4), (5, .inl x5), (6, .inl x6), (7, .inl x7)]) (st' := [.inl x2]) (m' := m) [((10, .iload_n 2, 1, 0, 0, 0, 0), (0, 0, 0))] (by decide +kernel) rfl ?_
      refine hx_if .lt 32 (by decide +kernel) (fun c3 => ?_) (fun c3 => ?_)
      · have c3 : x2 < 0 := c3
        refine hx_blk (npc := 33) (L' := [(0, .inr (.inl 0)), (1, .inl x1), (2, .inl x2), (3, .inl x3), (4, .inl x4), (5, .inl x5), (6, .inl x6), (7, .inl x7)]) (st' := [.inl 0]) (m' := m) [((32, .iconst 0, 1, 0, 0, 0, 0), (0, 0, 0))] (by decide +kernel) rfl ?_
        exact hx_reti (by decide +kernel) (h3 c1 c2 c3)
      · have c3 : 0 ≤ x2 := by have h : ¬ (x2 < 0) := c3; omega
        refine hx_blk (npc := 17) (L' := [(0, .inr (.inl 0)), (1, .inl x1), (2, .inl x2), (3, .inl x3), (4, .inl x4), (5, .inl x5), (6, .inl x6), (7, .inl x7)]) (st' := [.inl 99, .inl x2]) (m' := m) [((14, .iload_n 2, 1, 0, 0, 0, 0), (0, 0, 0)), ((15, .bipush 99, 2, 0, 0, 0, 0), (0, 0, 0))] (by decide +kernel) rfl ?_
        refine hx_cmp .gt 32 (by decide +kernel) (fun c4 => ?_) (fun c4 => ?_)
        · have c4 : 99 < x2 := c4
          refine hx_blk (npc := 33) (L' := [(0, .inr (.inl 0)), (1, .inl x1), (2, .inl x2), (3, .inl x3), (4, .inl x4), (5, .inl x5), (6, .inl x6), (7, .inl x7)]) (st' := [.inl 0]) (m' := m) [((32, .iconst 0, 1, 0, 0, 0, 0), (0, 0, 0))] (by decide +kernel) rfl ?_
          exact hx_reti (by decide +kernel) (h4 c1 c2 c3 c4)
        · have c4 : x2 ≤ 99 := by have h : ¬ (99 < x2) := c4; omega
          refine hx_blk (npc := 22) (L' := [(0, .inr (.inl 0)), (1, .inl x1), (2, .inl x2), (3, .inl x3), (4, .inl x4), (5, .inl x5), (6, .inl x6), (7, .inl x7)]) (st' := [.inl x7]) (m' := m) [((20, .iload 7, 2, 0, 0, 0, 0), (0, 0, 0))] (by decide +kernel) rfl ?_
          refine hx_if .lt 32 (by decide +kernel) (fun c5 => ?_) (fun c5 => ?_)
          · have c5 : x7 < 0 := c5
            refine hx_blk (npc := 33) (L' := [(0, .inr (.inl 0)), (1, .inl x1), (2, .inl x2), (3, .inl x3), (4, .inl x4), (5, .inl x5), (6, .inl x6), (7, .inl x7)]) (st' := [.inl 0]) (m' := m) [((32, .iconst 0, 1, 0, 0, 0, 0), (0, 0, 0))] (by decide +kernel) rfl ?_
            exact hx_reti (by decide +kernel) (h5 c1 c2 c3 c4 c5)
          · have c5 : 0 ≤ x7 := by have h : ¬ (x7 < 0) := c5; omega
            refine hx_blk (npc := 29) (L' := [(0, .inr (.inl 0)), (1, .inl x1), (2, .inl x2), (3, .inl x3), (4, .inl x4), (5, .inl x5), (6, .inl x6), (7, .inl x7)]) (st' := [.inl 9, .inl x7]) (m' := m) [((25, .iload 7, 2, 0, 0, 0, 0), (0, 0, 0)), ((27, .bipush 9, 2, 0, 0, 0, 0), (0, 0, 0))] (by decide +kernel) rfl ?_
            refine hx_cmp .le 34 (by decide +kernel) (fun c6 => ?_) (fun c6 => ?_)
            · have c6 : x7 ≤ 9 := c6
              refine hx_blk (npc := 36) (L' := [(0, .inr (.inl 0)), (1, .inl x1), (2, .inl x2), (3, .inl x3), (4, .inl x4), (5, .inl x5), (6, .inl x6), (7, .inl x7)]) (st' := [.inl x4]) (m' := m) [((34, .iload 4, 2, 0, 0, 0, 0), (0, 0, 0))] (by decide +kernel) rfl ?_
              refine hx_if .lt 70 (by decide +kernel) (fun c7 => ?_) (fun c7 => ?_)
              · have c7 : x4 < 0 := c7
                refine hx_blk (npc := 71) (L' := [(0, .inr (.inl 0)), (1, .inl x1), (2, .inl x2), (3, .inl x3), (4, .inl x4), (5, .inl x5), (6, .inl x6), (7, .inl x7)]) (st' := [.inl 0]) (m' := m) [((70, .iconst 0, 1, 0, 0, 0, 0), (0, 0, 0))] (by decide +kernel) rfl ?_
                exact hx_reti (by decide +kernel) (h6 c1 c2 c3 c4 c5 c6 c7)
              · have c7 : 0 ≤ x4 := by have h : ¬ (x4 < 0) := c7; omega
                refine hx_blk (npc := 44) (L' := [(0, .inr (.inl 0)), (1, .inl x1), (2, .inl x2), (3, .inl x3), (4, .inl x4), (5, .inl x5), (6, .inl x6), (7, .inl x7)]) (st' := [.inl 4095, .inl x4]) (m' := m) [((39, .iload 4, 2, 0, 0, 0, 0), (0, 0, 0)), ((41, .sipush 4095, 3, 0, 0, 0, 0), (0, 0, 0))] (by decide +kernel) rfl ?_
                refine hx_cmp .gt 70 (by decide +kernel) (fun c8 => ?_) (fun c8 => ?_)
                · have c8 : 4095 < x4 := c8
                  refine hx_blk (npc := 71) (L' := [(0, .inr (.inl 0)), (1, .inl x1), (2, .inl x2), (3, .inl x3), (4, .inl x4), (5, .inl x5), (6, .inl x6), (7, .inl x7)]) (st' := [.inl 0]) (m' := m) [((70, .iconst 0, 1, 0, 0, 0, 0), (0, 0, 0))] (by decide +kernel) rfl ?_
                  exact hx_reti (by decide +kernel) (h7 c1 c2 c3 c4 c5 c6 c7 c8)
                · have c8 : x4 ≤ 4095 := by have h : ¬ (4095 < x4) := c8; omega
                  refine hx_blk (npc := 52) (L' := [(0, .inr (.inl 0)), (1, .inl x1), (2, .inl x2), (3, .inl x3), (4, .inl x4), (5, .inl x5), (6, .inl x6), (7, .inl x7)]) (st' := [.inl x3, .inr (.inl 5)]) (m' := m) [((47, .aload_n 0, 1, 0, 0, 0, 0), (0, 0, 0)), ((48, .getfield 26, 3, 9, 2, 2121, 0), (1, 0, 5)), ((51, .iload_n 3, 1, 0, 0, 0, 0), (0, 0, 0))] (by decide +kernel) rfl ?_
                  refine hx_call (E := (52, .invokevirtual 94, 3, 13, 0, 2171, 0)) (M' := yp_m13) [.inr (.inl 5), .inl x3] [] rfl (by decide +kernel) rfl ⟨rfl, rfl⟩ rfl rfl (hs13_5 (fun c9 => ?_) (fun c9 => ?_))
                  · have c9 : cPers 5 m x3 := c9
                    show hxn xs n yp_m12 55 [(0, .inr (.inl 0)), (1, .inl x1), (2, .inl x2), (3, .inl x3), (4, .inl x4), (5, .inl x5), (6, .inl x6), (7, .inl x7)] [.inl 1] m Q
                    refine hx_if .eq 70 (by decide +kernel) (fun c10 => ?_) (fun c10 => ?_)
                    · have c10 : (1 : Int) = 0 := c10
                      exfalso; omega
                    · have c10 : (1 : Int) ≠ 0 := c10
                      refine hx_blk (npc := 64) (L' := [(0, .inr (.inl 0)), (1, .inl x1), (2, .inl x2), (3, .inl x3), (4, .inl x4), (5, .inl x5), (6, .inl x6), (7, .inl x7)]) (st' := [.inl x5, .inr (.inl 5)]) (m' := m) [((58, .aload_n 0, 1, 0, 0, 0, 0), (0, 0, 0)), ((59, .getfield 26, 3, 9, 2, 2121, 0), (1, 0, 5)), ((62, .iload 5, 2, 0, 0, 0, 0), (0, 0, 0))] (by decide +kernel) rfl ?_
                      refine hx_call (E := (64, .invokevirtual 98, 3, 14, 0, 2175, 0)) (M' := yp_m14) [.inr (.inl 5), .inl x5] [] rfl (by decide +kernel) rfl ⟨rfl, rfl⟩ rfl rfl (hs14_5 (fun c10 => ?_) (fun c10 => ?_))
                      · have c10 : cGrp 5 m x5 := c10
                        show hxn xs n yp_m12 67 [(0, .inr (.inl 0)), (1, .inl x1), (2, .inl x2), (3, .inl x3), (4, .inl x4), (5, .inl x5), (6, .inl x6), (7, .inl x7)] [.inl 1] m Q
                        refine hx_if .ne 72 (by decide +kernel) (fun c11 => ?_) (fun c11 => ?_)
                        · have c11 : (1 : Int) ≠ 0 := c11
                          have f1 := gx_and_bd (gx_shr x5 x3) 1 (by decide)
                          refine hx_blk (npc := 78) (L' := [(0, .inr (.inl 0)), (1, .inl x1), (2, .inl x2), (3, .inl x3), (4, .inl x4), (5, .inl x5), (6, .inl x6), (7, .inl x7)]) (st' := [.inl (gx_and (gx_shr x5 x3) 1)]) (m' := m) [((72, .iload 5, 2, 0, 0, 0, 0), (0, 0, 0)), ((74, .iload_n 3, 1, 0, 0, 0, 0), (0, 0, 0)), ((75, .ishr, 1, 0, 0, 0, 0), (0, 0, 0)), ((76, .iconst 1, 1, 0, 0, 0, 0), (0, 0, 0)), ((77, .iand, 1, 0, 0, 0, 0), (0, 0, 0))] (by decide +kernel) rfl ?_
                          refine hx_if .eq 83 (by decide +kernel) (fun c11 => ?_) (fun c11 => ?_)
                          · have c11 : (gx_and (gx_shr x5 x3) 1) = 0 := c11
                            refine hx_blk (npc := 134) (L' := [(0, .inr (.inl 0)), (1, .inl x1), (2, .inl x2), (3, .inl x3), (4, .inl x4), (5, .inl x5), (6, .inl x6), (7, .inl x7)]) (st' := [.inl x6, .inl x3, .inl x1, .inr (.inl 5)]) (m' := (gx_u (gx_u (gx_u (gx_u m 7 (x1).toNat x2) 9 (x1).toNat x4) 10 (x1).toNat x5) 11 (x1).toNat x7)) [((83, .aload_n 0, 1, 0, 0, 0, 0), (0, 0, 0)), ((84, .getfield 26, 3, 9, 2, 2121, 0), (1, 0, 5)), ((87, .getfield 101, 3, 2, 6, 1094, 0), (1, 5, 7)), ((90, .iload_n 1, 1, 0, 0, 0, 0), (0, 0, 0)), ((91, .iload_n 2, 1, 0, 0, 0, 0), (0, 0, 0)), ((92, .iastore, 1, 0, 0, 0, 0), (0, 7, 0)), ((93, .aload_n 0, 1, 0, 0, 0, 0), (0, 0, 0)), ((94, .getfield 26, 3, 9, 2, 2121, 0), (1, 0, 5)), ((97, .getfield 104, 3, 2, 8, 1102, 0), (1, 5, 9)), ((100, .iload_n 1, 1, 0, 0, 0, 0), (0, 0, 0)), ((101, .iload 4, 2, 0, 0, 0, 0), (0, 0, 0)), ((103, .iastore, 1, 0, 0, 0, 0), (0, 9, 0)), ((104, .aload_n 0, 1, 0, 0, 0, 0), (0, 0, 0)), ((105, .getfield 26, 3, 9, 2, 2121, 0), (1, 0, 5)), ((108, .getfield 107, 3, 2, 9, 1106, 0), (1, 5, 10)), ((111, .iload_n 1, 1, 0, 0, 0, 0), (0, 0, 0)), ((112, .iload 5, 2, 0, 0, 0, 0), (0, 0, 0)), ((114, .iastore, 1, 0, 0, 0, 0), (0, 10, 0)), ((115, .aload_n 0, 1, 0, 0, 0, 0), (0, 0, 0)), ((116, .getfield 26, 3, 9, 2, 2121, 0), (1, 0, 5)), ((119, .getfield 110, 3, 2, 10, 1109, 0), (1, 5, 11)), ((122, .iload_n 1, 1, 0, 0, 0, 0), (0, 0, 0)), ((123, .iload 7, 2, 0, 0, 0, 0), (0, 0, 0)), ((125, .iastore, 1, 0, 0, 0, 0), (0, 11, 0)), ((126, .aload_n 0, 1, 0, 0, 0, 0), (0, 0, 0)), ((127, .getfield 26, 3, 9, 2, 2121, 0), (1, 0, 5)), ((130, .iload_n 1, 1, 0, 0, 0, 0), (0, 0, 0)), ((131, .iload_n 3, 1, 0, 0, 0, 0), (0, 0, 0)), ((132, .iload 6, 2, 0, 0, 0, 0), (0, 0, 0))] (by decide +kernel) rfl ?_
                            exact hx_call (E := (134, .invokevirtual 113, 3, 15, 0, 2179, 0)) (M' := yp_m15) [.inr (.inl 5), .inl x1, .inl x3, .inl x6] [] rfl (by decide +kernel) rfl ⟨rfl, rfl⟩ rfl rfl (hx_mono (h8 c1 c2 c3 c4 c5 c6 c7 c8 c9 c10 c11) (fun r m' h' => hx_pick [] h'))
                          · have c11 : (gx_and (gx_shr x5 x3) 1) ≠ 0 := c11
                            refine hx_blk (npc := 82) (L' := [(0, .inr (.inl 0)), (1, .inl x1), (2, .inl x2), (3, .inl x3), (4, .inl x4), (5, .inl x5), (6, .inl x6), (7, .inl x7)]) (st' := [.inl 0]) (m' := m) [((81, .iconst 0, 1, 0, 0, 0, 0), (0, 0, 0))] (by decide +kernel) rfl ?_
                            exact hx_reti (by decide +kernel) (h9 c1 c2 c3 c4 c5 c6 c7 c8 c9 c10 c11)
                        · have c11 : (1 : Int) = 0 := by have h : ¬ ((1 : Int) ≠ 0) := c11; omega
                          exfalso; omega
                      · have c10 : ¬ (cGrp 5 m x5) := c10
                        show hxn xs n yp_m12 67 [(0, .inr (.inl 0)), (1, .inl x1), (2, .inl x2), (3, .inl x3), (4, .inl x4), (5, .inl x5), (6, .inl x6), (7, .inl x7)] [.inl 0] m Q
                        refine hx_if .ne 72 (by decide +kernel) (fun c11 => ?_) (fun c11 => ?_)
                        · have c11 : (0 : Int) ≠ 0 := c11
                          exfalso; omega
                        · have c11 : (0 : Int) = 0 := by have h : ¬ ((0 : Int) ≠ 0) := c11; omega
                          refine hx_blk (npc := 71) (L' := [(0, .inr (.inl 0)), (1, .inl x1), (2, .inl x2), (3, .inl x3), (4, .inl x4), (5, .inl x5), (6, .inl x6), (7, .inl x7)]) (st' := [.inl 0]) (m' := m) [((70, .iconst 0, 1, 0, 0, 0, 0), (0, 0, 0))] (by decide +kernel) rfl ?_
                          exact hx_reti (by decide +kernel) (h10 c1 c2 c3 c4 c5 c6 c7 c8 c9 c10)
                  · have c9 : ¬ (cPers 5 m x3) := c9
                    show hxn xs n yp_m12 55 [(0, .inr (.inl 0)), (1, .inl x1), (2, .inl x2), (3, .inl x3), (4, .inl x4), (5, .inl x5), (6, .inl x6), (7, .inl x7)] [.inl 0] m Q
                    refine hx_if .eq 70 (by decide +kernel) (fun c10 => ?_) (fun c10 => ?_)
                    · have c10 : (0 : Int) = 0 := c10
                      refine hx_blk (npc := 71) (L' := [(0, .inr (.inl 0)), (1, .inl x1), (2, .inl x2), (3, .inl x3), (4, .inl x4), (5, .inl x5), (6, .inl x6), (7, .inl x7)]) (st' := [.inl 0]) (m' := m) [((70, .iconst 0, 1, 0, 0, 0, 0), (0, 0, 0))] (by decide +kernel) rfl ?_
                      exact hx_reti (by decide +kernel) (h11 c1 c2 c3 c4 c5 c6 c7 c8 c9)
                    · have c10 : (0 : Int) ≠ 0 := c10
                      exfalso; omega
            · have c6 : 9 < x7 := by have h : ¬ (x7 ≤ 9) := c6; omega
              refine hx_blk (npc := 33) (L' := [(0, .inr (.inl 0)), (1, .inl x1), (2, .inl x2), (3, .inl x3), (4, .inl x4), (5, .inl x5), (6, .inl x6), (7, .inl x7)]) (st' := [.inl 0]) (m' := m) [((32, .iconst 0, 1, 0, 0, 0, 0), (0, 0, 0))] (by decide +kernel) rfl ?_
              exact hx_reti (by decide +kernel) (h12 c1 c2 c3 c4 c5 c6)

/-- year from 137 on -/
theorem hr12_137 {xs : List Int32} {n : Nat} {Q : hQ} {m : gx_M}
    (h1 : Q (some (.inl 1)) m) : hxn xs (n + 1) yp_m12 137 [] [] m Q := by
  refine hx_blks (npc := 138) (L' := []) (st' := [.inl 1]) (m' := m) ((137, .iconst 1, 1, 0, 0, 0, 0), (0, 0, 0)) [] (by decide +kernel) rfl ?_
  exact hx_reti (by decide +kernel) h1

set_option maxRecDepth 100000 in
theorem hr71_5_18 {xs : List Int32} {n : Nat} {Q : hQ} {m : gx_M}
    (h1 : Q none (hcopy (hcopy (hcopy (hcopy (hcopy (hcopy (hcopy (hcopy (hcopy (hcopy (hcopy (hcopy (gx_u (gx_u (gx_u (gx_u (gx_u m 5 0 (m 18 0)) 5 1 (m 18 1)) 5 2 (m 18 2)) 5 3 (m 18 3)) 5 4 (m 18 4)) 19 0 6 0 8) 20 0 7 0 40) 21 0 8 0 40) 22 0 9 0 40) 23 0 10 0 40) 24 0 11 0 40) 25 0 12 0 40) 26 0 13 0 40) 27 0 14 0 40) 28 0 15 0 40) 29 0 16 0 40) 30 0 17 0 640)) : hxn xs (n + 1) yp_m71 0 [(0, .inr (.inl 5)), (1, .inr (.inl 18))] [] m Q := by
  refine hx_blks (npc := 221) (L' := [(0, .inr (.inl 5)), (1, .inr (.inl 18))]) (st' := []) (m' := (hcopy (hcopy (hcopy (hcopy (hcopy (hcopy (hcopy (hcopy (hcopy (hcopy (hcopy (hcopy (gx_u (gx_u (gx_u (gx_u (gx_u m 5 0 (m 18 0)) 5 1 (m 18 1)) 5 2 (m 18 2)) 5 3 (m 18 3)) 5 4 (m 18 4)) 19 0 6 0 8) 20 0 7 0 40) 21 0 8 0 40) 22 0 9 0 40) 23 0 10 0 40) 24 0 11 0 40) 25 0 12 0 40) 26 0 13 0 40) 27 0 14 0 40) 28 0 15 0 40) 29 0 16 0 40) 30 0 17 0 640)) ((0, .aload_n 0, 1, 0, 0, 0, 0), (0, 0, 0)) [((1, .aload_n 1, 1, 0, 0, 0, 0), (0, 0, 0)), ((2, .getfield 52, 3, 2, 0, 1076, 0), (0, 18, 0)), ((5, .putfield 52, 3, 2, 0, 1076, 0), (0, 5, 0)), ((8, .aload_n 0, 1, 0, 0, 0, 0), (0, 0, 0)), ((9, .aload_n 1, 1, 0, 0, 0, 0), (0, 0, 0)), ((10, .getfield 55, 3, 2, 1, 1078, 0), (2, 18, 0)), ((13, .putfield 55, 3, 2, 1, 1078, 0), (2, 5, 0)), ((16, .aload_n 0, 1, 0, 0, 0, 0), (0, 0, 0)), ((17, .aload_n 1, 1, 0, 0, 0, 0), (0, 0, 0)), ((18, .getfield 59, 3, 2, 2, 1080, 0), (2, 18, 0)), ((21, .putfield 59, 3, 2, 2, 1080, 0), (2, 5, 0)), ((24, .aload_n 0, 1, 0, 0, 0, 0), (0, 0, 0)), ((25, .aload_n 1, 1, 0, 0, 0, 0), (0, 0, 0)), ((26, .getfield 62, 3, 2, 3, 1082, 0), (0, 18, 0)), ((29, .putfield 62, 3, 2, 3, 1082, 0), (0, 5, 0)), ((32, .aload_n 0, 1, 0, 0, 0, 0), (0, 0, 0)), ((33, .aload_n 1, 1, 0, 0, 0, 0), (0, 0, 0)), ((34, .getfield 9, 3, 2, 4, 1086, 0), (0, 18, 0)), ((37, .putfield 9, 3, 2, 4, 1086, 0), (0, 5, 0)), ((40, .aload_n 1, 1, 0, 0, 0, 0), (0, 0, 0)), ((41, .getfield 15, 3, 2, 5, 1089, 0), (1, 18, 19)), ((44, .iconst 0, 1, 0, 0, 0, 0), (0, 0, 0)), ((45, .aload_n 0, 1, 0, 0, 0, 0), (0, 0, 0)), ((46, .getfield 15, 3, 2, 5, 1089, 0), (1, 5, 6)), ((49, .iconst 0, 1, 0, 0, 0, 0), (0, 0, 0)), ((50, .bipush 8, 2, 0, 0, 0, 0), (0, 0, 0)), ((52, .invokestatic 65, 3, 1001, 2228, 3197, 1014), (0, 19, 6)), ((55, .aload_n 1, 1, 0, 0, 0, 0), (0, 0, 0)), ((56, .getfield 19, 3, 2, 6, 1092, 0), (1, 18, 20)), ((59, .iconst 0, 1, 0, 0, 0, 0), (0, 0, 0)), ((60, .aload_n 0, 1, 0, 0, 0, 0), (0, 0, 0)), ((61, .getfield 19, 3, 2, 6, 1092, 0), (1, 5, 7)), ((64, .iconst 0, 1, 0, 0, 0, 0), (0, 0, 0)), ((65, .bipush 40, 2, 0, 0, 0, 0), (0, 0, 0)), ((67, .invokestatic 65, 3, 1001, 2228, 3197, 1014), (0, 20, 7)), ((70, .aload_n 1, 1, 0, 0, 0, 0), (0, 0, 0)), ((71, .getfield 22, 3, 2, 7, 1096, 0), (1, 18, 21)), ((74, .iconst 0, 1, 0, 0, 0, 0), (0, 0, 0)), ((75, .aload_n 0, 1, 0, 0, 0, 0), (0, 0, 0)), ((76, .getfield 22, 3, 2, 7, 1096, 0), (1, 5, 8)), ((79, .iconst 0, 1, 0, 0, 0, 0), (0, 0, 0)), ((80, .bipush 40, 2, 0, 0, 0, 0), (0, 0, 0)), ((82, .invokestatic 65, 3, 1001, 2228, 3197, 1014), (0, 21, 8)), ((85, .aload_n 1, 1, 0, 0, 0, 0), (0, 0, 0)), ((86, .getfield 25, 3, 2, 8, 1100, 0), (1, 18, 22)), ((89, .iconst 0, 1, 0, 0, 0, 0), (0, 0, 0)), ((90, .aload_n 0, 1, 0, 0, 0, 0), (0, 0, 0)), ((91, .getfield 25, 3, 2, 8, 1100, 0), (1, 5, 9)), ((94, .iconst 0, 1, 0, 0, 0, 0), (0, 0, 0)), ((95, .bipush 40, 2, 0, 0, 0, 0), (0, 0, 0)), ((97, .invokestatic 65, 3, 1001, 2228, 3197, 1014), (0, 22, 9)), ((100, .aload_n 1, 1, 0, 0, 0, 0), (0, 0, 0)), ((101, .getfield 28, 3, 2, 9, 1104, 0), (1, 18, 23)), ((104, .iconst 0, 1, 0, 0, 0, 0), (0, 0, 0)), ((105, .aload_n 0, 1, 0, 0, 0, 0), (0, 0, 0)), ((106, .getfield 28, 3, 2, 9, 1104, 0), (1, 5, 10)), ((109, .iconst 0, 1, 0, 0, 0, 0), (0, 0, 0)), ((110, .bipush 40, 2, 0, 0, 0, 0), (0, 0, 0)), ((112, .invokestatic 65, 3, 1001, 2228, 3197, 1014), (0, 23, 10)), ((115, .aload_n 1, 1, 0, 0, 0, 0), (0, 0, 0)), ((116, .getfield 31, 3, 2, 10, 1108, 0), (1, 18, 24)), ((119, .iconst 0, 1, 0, 0, 0, 0), (0, 0, 0)), ((120, .aload_n 0, 1, 0, 0, 0, 0), (0, 0, 0)), ((121, .getfield 31, 3, 2, 10, 1108, 0), (1, 5, 11)), ((124, .iconst 0, 1, 0, 0, 0, 0), (0, 0, 0)), ((125, .bipush 40, 2, 0, 0, 0, 0), (0, 0, 0)), ((127, .invokestatic 65, 3, 1001, 2228, 3197, 1014), (0, 24, 11)), ((130, .aload_n 1, 1, 0, 0, 0, 0), (0, 0, 0)), ((131, .getfield 34, 3, 2, 11, 1111, 0), (1, 18, 25)), ((134, .iconst 0, 1, 0, 0, 0, 0), (0, 0, 0)), ((135, .aload_n 0, 1, 0, 0, 0, 0), (0, 0, 0)), ((136, .getfield 34, 3, 2, 11, 1111, 0), (1, 5, 12)), ((139, .iconst 0, 1, 0, 0, 0, 0), (0, 0, 0)), ((140, .bipush 40, 2, 0, 0, 0, 0), (0, 0, 0)), ((142, .invokestatic 65, 3, 1001, 2228, 3197, 1014), (0, 25, 12)), ((145, .aload_n 1, 1, 0, 0, 0, 0), (0, 0, 0)), ((146, .getfield 37, 3, 2, 12, 1119, 0), (1, 18, 26)), ((149, .iconst 0, 1, 0, 0, 0, 0), (0, 0, 0)), ((150, .aload_n 0, 1, 0, 0, 0, 0), (0, 0, 0)), ((151, .getfield 37, 3, 2, 12, 1119, 0), (1, 5, 13)), ((154, .iconst 0, 1, 0, 0, 0, 0), (0, 0, 0)), ((155, .bipush 40, 2, 0, 0, 0, 0), (0, 0, 0)), ((157, .invokestatic 65, 3, 1001, 2228, 3197, 1014), (0, 26, 13)), ((160, .aload_n 1, 1, 0, 0, 0, 0), (0, 0, 0)), ((161, .getfield 40, 3, 2, 13, 1124, 0), (1, 18, 27)), ((164, .iconst 0, 1, 0, 0, 0, 0), (0, 0, 0)), ((165, .aload_n 0, 1, 0, 0, 0, 0), (0, 0, 0)), ((166, .getfield 40, 3, 2, 13, 1124, 0), (1, 5, 14)), ((169, .iconst 0, 1, 0, 0, 0, 0), (0, 0, 0)), ((170, .bipush 40, 2, 0, 0, 0, 0), (0, 0, 0)), ((172, .invokestatic 65, 3, 1001, 2228, 3197, 1014), (0, 27, 14)), ((175, .aload_n 1, 1, 0, 0, 0, 0), (0, 0, 0)), ((176, .getfield 43, 3, 2, 14, 1127, 0), (1, 18, 28)), ((179, .iconst 0, 1, 0, 0, 0, 0), (0, 0, 0)), ((180, .aload_n 0, 1, 0, 0, 0, 0), (0, 0, 0)), ((181, .getfield 43, 3, 2, 14, 1127, 0), (1, 5, 15)), ((184, .iconst 0, 1, 0, 0, 0, 0), (0, 0, 0)), ((185, .bipush 40, 2, 0, 0, 0, 0), (0, 0, 0)), ((187, .invokestatic 65, 3, 1001, 2228, 3197, 1014), (0, 28, 15)), ((190, .aload_n 1, 1, 0, 0, 0, 0), (0, 0, 0)), ((191, .getfield 46, 3, 2, 15, 1131, 0), (1, 18, 29)), ((194, .iconst 0, 1, 0, 0, 0, 0), (0, 0, 0)), ((195, .aload_n 0, 1, 0, 0, 0, 0), (0, 0, 0)), ((196, .getfield 46, 3, 2, 15, 1131, 0), (1, 5, 16)), ((199, .iconst 0, 1, 0, 0, 0, 0), (0, 0, 0)), ((200, .bipush 40, 2, 0, 0, 0, 0), (0, 0, 0)), ((202, .invokestatic 65, 3, 1001, 2228, 3197, 1014), (0, 29, 16)), ((205, .aload_n 1, 1, 0, 0, 0, 0), (0, 0, 0)), ((206, .getfield 49, 3, 2, 16, 1136, 0), (1, 18, 30)), ((209, .iconst 0, 1, 0, 0, 0, 0), (0, 0, 0)), ((210, .aload_n 0, 1, 0, 0, 0, 0), (0, 0, 0)), ((211, .getfield 49, 3, 2, 16, 1136, 0), (1, 5, 17)), ((214, .iconst 0, 1, 0, 0, 0, 0), (0, 0, 0)), ((215, .sipush 640, 3, 0, 0, 0, 0), (0, 0, 0)), ((218, .invokestatic 65, 3, 1001, 2228, 3197, 1014), (0, 30, 17))] (by decide +kernel) rfl ?_
  exact hx_ret0 (by decide +kernel) h1

def hCp_5_18 (m m' : gx_M) : Prop := m' 5 0 = m 18 0 ∧ m' 5 1 = m 18 1 ∧ m' 5 2 = m 18 2 ∧ m' 5 3 = m 18 3 ∧ m' 5 4 = m 18 4 ∧ (∀ k, k < 8 → m' 6 k = m 19 k) ∧ (∀ k, k < 40 → m' 7 k = m 20 k) ∧ (∀ k, k < 40 → m' 8 k = m 21 k) ∧ (∀ k, k < 40 → m' 9 k = m 22 k) ∧ (∀ k, k < 40 → m' 10 k = m 23 k) ∧ (∀ k, k < 40 → m' 11 k = m 24 k) ∧ (∀ k, k < 40 → m' 12 k = m 25 k) ∧ (∀ k, k < 40 → m' 13 k = m 26 k) ∧ (∀ k, k < 40 → m' 14 k = m 27 k) ∧ (∀ k, k < 40 → m' 15 k = m 28 k) ∧ (∀ k, k < 40 → m' 16 k = m 29 k) ∧ (∀ k, k < 640 → m' 17 k = m 30 k) ∧ ∀ c, c ∉ [5, 6, 7, 8, 9, 10, 11, 12, 13, 14, 15, 16, 17] → m' c = m c
theorem hs71_5_18 {xs : List Int32} {n : Nat} {Q : hQ} {m : gx_M} (h : ∀ m', hCp_5_18 m m' → Q none m') : hxn xs n yp_m71 0 [(0, .inr (.inl 5)), (1, .inr (.inl 18))] [] m Q := by
  refine hx_dn (hr71_5_18 (h _ ?_))
  refine ⟨by rw [hcopy_ne (by decide), hcopy_ne (by decide), hcopy_ne (by decide), hcopy_ne (by decide), hcopy_ne (by decide), hcopy_ne (by decide), hcopy_ne (by decide), hcopy_ne (by decide), hcopy_ne (by decide), hcopy_ne (by decide), hcopy_ne (by decide), hcopy_ne (by decide), gx_u_ne (by decide), gx_u_ne (by decide), gx_u_ne (by decide), gx_u_ne (by decide), gx_u_self], by rw [hcopy_ne (by decide), hcopy_ne (by decide), hcopy_ne (by decide), hcopy_ne (by decide), hcopy_ne (by decide), hcopy_ne (by decide), hcopy_ne (by decide), hcopy_ne (by decide), hcopy_ne (by decide), hcopy_ne (by decide), hcopy_ne (by decide), hcopy_ne (by decide), gx_u_ne (by decide), gx_u_ne (by decide), gx_u_ne (by decide), gx_u_self], by rw [hcopy_ne (by decide), hcopy_ne (by decide), hcopy_ne (by decide), hcopy_ne (by decide), hcopy_ne (by decide), hcopy_ne (by decide), hcopy_ne (by decide), hcopy_ne (by decide), hcopy_ne (by decide), hcopy_ne (by decide), hcopy_ne (by decide), hcopy_ne (by decide), gx_u_ne (by decide), gx_u_ne (by decide), gx_u_self], by rw [hcopy_ne (by decide), hcopy_ne (by decide), hcopy_ne (by decide), hcopy_ne (by decide), hcopy_ne (by decide), hcopy_ne (by decide), hcopy_ne (by decide), hcopy_ne (by decide), hcopy_ne (by decide), hcopy_ne (by decide), hcopy_ne (by decide), hcopy_ne (by decide), gx_u_ne (by decide), gx_u_self], by rw [hcopy_ne (by decide), hcopy_ne (by decide), hcopy_ne (by decide), hcopy_ne (by decide), hcopy_ne (by decide), hcopy_ne (by decide), hcopy_ne (by decide), hcopy_ne (by decide), hcopy_ne (by decide), hcopy_ne (by decide), hcopy_ne (by decide), hcopy_ne (by decide), gx_u_self], fun k hk => by rw [hcopy_ne (by decide), hcopy_ne (by decide), hcopy_ne (by decide), hcopy_ne (by decide), hcopy_ne (by decide), hcopy_ne (by decide), hcopy_ne (by decide), hcopy_ne (by decide), hcopy_ne (by decide), hcopy_ne (by decide), hcopy_ne (by decide), hcopy_at hk, gx_u_ne (by omega), gx_u_ne (by omega), gx_u_ne (by omega), gx_u_ne (by omega), gx_u_ne (by omega)], fun k hk => by rw [hcopy_ne (by decide), hcopy_ne (by decide), hcopy_ne (by decide), hcopy_ne (by decide), hcopy_ne (by decide), hcopy_ne (by decide), hcopy_ne (by decide), hcopy_ne (by decide), hcopy_ne (by decide), hcopy_ne (by decide), hcopy_at hk, hcopy_ne (by decide), gx_u_ne (by omega), gx_u_ne (by omega), gx_u_ne (by omega), gx_u_ne (by omega), gx_u_ne (by omega)], fun k hk => by rw [hcopy_ne (by decide), hcopy_ne (by decide), hcopy_ne (by decide), hcopy_ne (by decide), hcopy_ne (by decide), hcopy_ne (by decide), hcopy_ne (by decide), hcopy_ne (by decide), hcopy_ne (by decide), hcopy_at hk, hcopy_ne (by decide), hcopy_ne (by decide), gx_u_ne (by omega), gx_u_ne (by omega), gx_u_ne (by omega), gx_u_ne (by omega), gx_u_ne (by omega)], fun k hk => by rw [hcopy_ne (by decide), hcopy_ne (by decide), hcopy_ne (by decide), hcopy_ne (by decide), hcopy_ne (by decide), hcopy_ne (by decide), hcopy_ne (by decide), hcopy_ne (by decide), hcopy_at hk, hcopy_ne (by decide), hcopy_ne (by decide), hcopy_ne (by decide), gx_u_ne (by omega), gx_u_ne (by omega), gx_u_ne (by omega), gx_u_ne (by omega), gx_u_ne (by omega)], fun k hk => by rw [hcopy_ne (by decide), hcopy_ne (by decide), hcopy_ne (by decide), hcopy_ne (by decide), hcopy_ne (by decide), hcopy_ne (by decide), hcopy_ne (by decide), hcopy_at hk, hcopy_ne (by decide), hcopy_ne (by decide), hcopy_ne (by decide), hcopy_ne (by decide), gx_u_ne (by omega), gx_u_ne (by omega), gx_u_ne (by omega), gx_u_ne (by omega), gx_u_ne (by omega)], fun k hk => by rw [hcopy_ne (by decide), hcopy_ne (by decide), hcopy_ne (by decide), hcopy_ne (by decide), hcopy_ne (by decide), hcopy_ne (by decide), hcopy_at hk, hcopy_ne (by decide), hcopy_ne (by decide), hcopy_ne (by decide), hcopy_ne (by decide), hcopy_ne (by decide), gx_u_ne (by omega), gx_u_ne (by omega), gx_u_ne (by omega), gx_u_ne (by omega), gx_u_ne (by omega)], fun k hk => by rw [hcopy_ne (by decide), hcopy_ne (by decide), hcopy_ne (by decide), hcopy_ne (by decide), hcopy_ne (by decide), hcopy_at hk, hcopy_ne (by decide), hcopy_ne (by decide), hcopy_ne (by decide), hcopy_ne (by decide), hcopy_ne (by decide), hcopy_ne (by decide), gx_u_ne (by omega), gx_u_ne (by omega), gx_u_ne (by omega), gx_u_ne (by omega), gx_u_ne (by omega)], fun k hk => by rw [hcopy_ne (by decide), hcopy_ne (by decide), hcopy_ne (by decide), hcopy_ne (by decide), hcopy_at hk, hcopy_ne (by decide), hcopy_ne (by decide), hcopy_ne (by decide), hcopy_ne (by decide), hcopy_ne (by decide), hcopy_ne (by decide), hcopy_ne (by decide), gx_u_ne (by omega), gx_u_ne (by omega), gx_u_ne (by omega), gx_u_ne (by omega), gx_u_ne (by omega)], fun k hk => by rw [hcopy_ne (by decide), hcopy_ne (by decide), hcopy_ne (by decide), hcopy_at hk, hcopy_ne (by decide), hcopy_ne (by decide), hcopy_ne (by decide), hcopy_ne (by decide), hcopy_ne (by decide), hcopy_ne (by decide), hcopy_ne (by decide), hcopy_ne (by decide), gx_u_ne (by omega), gx_u_ne (by omega), gx_u_ne (by omega), gx_u_ne (by omega), gx_u_ne (by omega)], fun k hk => by rw [hcopy_ne (by decide), hcopy_ne (by decide), hcopy_at hk, hcopy_ne (by decide), hcopy_ne (by decide), hcopy_ne (by decide), hcopy_ne (by decide), hcopy_ne (by decide), hcopy_ne (by decide), hcopy_ne (by decide), hcopy_ne (by decide), hcopy_ne (by decide), gx_u_ne (by omega), gx_u_ne (by omega), gx_u_ne (by omega), gx_u_ne (by omega), gx_u_ne (by omega)], fun k hk => by rw [hcopy_ne (by decide), hcopy_at hk, hcopy_ne (by decide), hcopy_ne (by decide), hcopy_ne (by decide), hcopy_ne (by decide), hcopy_ne (by decide), hcopy_ne (by decide), hcopy_ne (by decide), hcopy_ne (by decide), hcopy_ne (by decide), hcopy_ne (by decide), gx_u_ne (by omega), gx_u_ne (by omega), gx_u_ne (by omega), gx_u_ne (by omega), gx_u_ne (by omega)], fun k hk => by rw [hcopy_at hk, hcopy_ne (by decide), hcopy_ne (by decide), hcopy_ne (by decide), hcopy_ne (by decide), hcopy_ne (by decide), hcopy_ne (by decide), hcopy_ne (by decide), hcopy_ne (by decide), hcopy_ne (by decide), hcopy_ne (by decide), hcopy_ne (by decide), gx_u_ne (by omega), gx_u_ne (by omega), gx_u_ne (by omega), gx_u_ne (by omega), gx_u_ne (by omega)], fun c hc => by
      simp only [List.mem_cons, List.not_mem_nil, or_false, not_or] at hc
      obtain ⟨n0, n1, n2, n3, n4, n5, n6, n7, n8, n9, n10, n11, n12⟩ := hc
      funext k
      rw [hcopy_ne n12, hcopy_ne n11, hcopy_ne n10, hcopy_ne n9, hcopy_ne n8, hcopy_ne n7, hcopy_ne n6, hcopy_ne n5, hcopy_ne n4, hcopy_ne n3, hcopy_ne n2, hcopy_ne n1, gx_u_ne (fun e => n0 e.1), gx_u_ne (fun e => n0 e.1), gx_u_ne (fun e => n0 e.1), gx_u_ne (fun e => n0 e.1), gx_u_ne (fun e => n0 e.1)]⟩
set_option maxRecDepth 100000 in
theorem hr71_18_5 {xs : List Int32} {n : Nat} {Q : hQ} {m : gx_M}
    (h1 : Q none (hcopy (hcopy (hcopy (hcopy (hcopy (hcopy (hcopy (hcopy (hcopy (hcopy (hcopy (hcopy (gx_u (gx_u (gx_u (gx_u (gx_u m 18 0 (m 5 0)) 18 1 (m 5 1)) 18 2 (m 5 2)) 18 3 (m 5 3)) 18 4 (m 5 4)) 6 0 19 0 8) 7 0 20 0 40) 8 0 21 0 40) 9 0 22 0 40) 10 0 23 0 40) 11 0 24 0 40) 12 0 25 0 40) 13 0 26 0 40) 14 0 27 0 40) 15 0 28 0 40) 16 0 29 0 40) 17 0 30 0 640)) : hxn xs (n + 1) yp_m71 0 [(0, .inr (.inl 18)), (1, .inr (.inl 5))] [] m Q := by
  refine hx_blks (npc := 221) (L' := [(0, .inr (.inl 18)), (1, .inr (.inl 5))]) (st' := []) (m' := (hcopy (hcopy (hcopy (hcopy (hcopy (hcopy (hcopy (hcopy (hcopy (hcopy (hcopy (hcopy (gx_u (gx_u (gx_u (gx_u (gx_u m 18 0 (m 5 0)) 18 1 (m 5 1)) 18 2 (m 5 2)) 18 3 (m 5 3)) 18 4 (m 5 4)) 6 0 19 0 8) 7 0 20 0 40) 8 0 21 0 40) 9 0 22 0 40) 10 0 23 0 40) 11 0 24 0 40) 12 0 25 0 40) 13 0 26 0 40) 14 0 27 0 40) 15 0 28 0 40) 16 0 29 0 40) 17 0 30 0 640)) ((0, .aload_n 0, 1, 0, 0, 0, 0), (0, 0, 0)) [((1, .aload_n 1, 1, 0, 0, 0, 0), (0, 0, 0)), ((2, .getfield 52, 3, 2, 0, 1076, 0), (0, 5, 0)), ((5, .putfield 52, 3, 2, 0, 1076, 0), (0, 18, 0)), ((8, .aload_n 0, 1, 0, 0, 0, 0), (0, 0, 0)), ((9, .aload_n 1, 1, 0, 0, 0, 0), (0, 0, 0)), ((10, .getfield 55, 3, 2, 1, 1078, 0), (2, 5, 0)), ((13, .putfield 55, 3, 2, 1, 1078, 0), (2, 18, 0)), ((16, .aload_n 0, 1, 0, 0, 0, 0), (0, 0, 0)), ((17, .aload_n 1, 1, 0, 0, 0, 0), (0, 0, 0)), ((18, .getfield 59, 3, 2, 2, 1080, 0), (2, 5, 0)), ((21, .putfield 59, 3, 2, 2, 1080, 0), (2, 18, 0)), ((24, .aload_n 0, 1, 0, 0, 0, 0), (0, 0, 0)), ((25, .aload_n 1, 1, 0, 0, 0, 0), (0, 0, 0)), ((26, .getfield 62, 3, 2, 3, 1082, 0), (0, 5, 0)), ((29, .putfield 62, 3, 2, 3, 1082, 0), (0, 18, 0)), ((32, .aload_n 0, 1, 0, 0, 0, 0), (0, 0, 0)), ((33, .aload_n 1, 1, 0, 0, 0, 0), (0, 0, 0)), ((34, .getfield 9, 3, 2, 4, 1086, 0), (0, 5, 0)), ((37, .putfield 9, 3, 2, 4, 1086, 0), (0, 18, 0)), ((40, .aload_n 1, 1, 0, 0, 0, 0), (0, 0, 0)), ((41, .getfield 15, 3, 2, 5, 1089, 0), (1, 5, 6)), ((44, .iconst 0, 1, 0, 0, 0, 0), (0, 0, 0)), ((45, .aload_n 0, 1, 0, 0, 0, 0), (0, 0, 0)), ((46, .getfield 15, 3, 2, 5, 1089, 0), (1, 18, 19)), ((49, .iconst 0, 1, 0, 0, 0, 0), (0, 0, 0)), ((50, .bipush 8, 2, 0, 0, 0, 0), (0, 0, 0)), ((52, .invokestatic 65, 3, 1001, 2228, 3197, 1014), (0, 6, 19)), ((55, .aload_n 1, 1, 0, 0, 0, 0), (0, 0, 0)), ((56, .getfield 19, 3, 2, 6, 1092, 0), (1, 5, 7)), ((59, .iconst 0, 1, 0, 0, 0, 0), (0, 0, 0)), ((60, .aload_n 0, 1, 0, 0, 0, 0), (0, 0, 0)), ((61, .getfield 19, 3, 2, 6, 1092, 0), (1, 18, 20)), ((64, .iconst 0, 1, 0, 0, 0, 0), (0, 0, 0)), ((65, .bipush 40, 2, 0, 0, 0, 0), (0, 0, 0)), ((67, .invokestatic 65, 3, 1001, 2228, 3197, 1014), (0, 7, 20)), ((70, .aload_n 1, 1, 0, 0, 0, 0), (0, 0, 0)), ((71, .getfield 22, 3, 2, 7, 1096, 0), (1, 5, 8)), ((74, .iconst 0, 1, 0, 0, 0, 0), (0, 0, 0)), ((75, .aload_n 0, 1, 0, 0, 0, 0), (0, 0, 0)), ((76, .getfield 22, 3, 2, 7, 1096, 0), (1, 18, 21)), ((79, .iconst 0, 1, 0, 0, 0, 0), (0, 0, 0)), ((80, .bipush 40, 2, 0, 0, 0, 0), (0, 0, 0)), ((82, .invokestatic 65, 3, 1001, 2228, 3197, 1014), (0, 8, 21)), ((85, .aload_n 1, 1, 0, 0, 0, 0), (0, 0, 0)), ((86, .getfield 25, 3, 2, 8, 1100, 0), (1, 5, 9)), ((89, .iconst 0, 1, 0, 0, 0, 0), (0, 0, 0)), ((90, .aload_n 0, 1, 0, 0, 0, 0), (0, 0, 0)), ((91, .getfield 25, 3, 2, 8, 1100, 0), (1, 18, 22)), ((94, .iconst 0, 1, 0, 0, 0, 0), (0, 0, 0)), ((95, .bipush 40, 2, 0, 0, 0, 0), (0, 0, 0)), ((97, .invokestatic 65, 3, 1001, 2228, 3197, 1014), (0, 9, 22)), ((100, .aload_n 1, 1, 0, 0, 0, 0), (0, 0, 0)), ((101, .getfield 28, 3, 2, 9, 1104, 0), (1, 5, 10)), ((104, .iconst 0, 1, 0, 0, 0, 0), (0, 0, 0)), ((105, .aload_n 0, 1, 0, 0, 0, 0), (0, 0, 0)), ((106, .getfield 28, 3, 2, 9, 1104, 0), (1, 18, 23)), ((109, .iconst 0, 1, 0, 0, 0, 0), (0, 0, 0)), ((110, .bipush 40, 2, 0, 0, 0, 0), (0, 0, 0)), ((112, .invokestatic 65, 3, 1001, 2228, 3197, 1014), (0, 10, 23)), ((115, .aload_n 1, 1, 0, 0, 0, 0), (0, 0, 0)), ((116, .getfield 31, 3, 2, 10, 1108, 0), (1, 5, 11)), ((119, .iconst 0, 1, 0, 0, 0, 0), (0, 0, 0)), ((120, .aload_n 0, 1, 0, 0, 0, 0), (0, 0, 0)), ((121, .getfield 31, 3, 2, 10, 1108, 0), (1, 18, 24)), ((124, .iconst 0, 1, 0, 0, 0, 0), (0, 0, 0)), ((125, .bipush 40, 2, 0, 0, 0, 0), (0, 0, 0)), ((127, .invokestatic 65, 3, 1001, 2228, 3197, 1014), (0, 11, 24)), ((130, .aload_n 1, 1, 0, 0, 0, 0), (0, 0, 0)), ((131, .getfield 34, 3, 2, 11, 1111, 0), (1, 5, 12)), ((134, .iconst 0, 1, 0, 0, 0, 0), (0, 0, 0)), ((135, .aload_n 0, 1, 0, 0, 0, 0), (0, 0, 0)), ((136, .getfield 34, 3, 2, 11, 1111, 0), (1, 18, 25)), ((139, .iconst 0, 1, 0, 0, 0, 0), (0, 0, 0)), ((140, .bipush 40, 2, 0, 0, 0, 0), (0, 0, 0)), ((142, .invokestatic 65, 3, 1001, 2228, 3197, 1014), (0, 12, 25)), ((145, .aload_n 1, 1, 0, 0, 0, 0), (0, 0, 0)), ((146, .getfield 37, 3, 2, 12, 1119, 0), (1, 5, 13)), ((149, .iconst 0, 1, 0, 0, 0, 0), (0, 0, 0)), ((150, .aload_n 0, 1, 0, 0, 0, 0), (0, 0, 0)), ((151, .getfield 37, 3, 2, 12, 1119, 0), (1, 18, 26)), ((154, .iconst 0, 1, 0, 0, 0, 0), (0, 0, 0)), ((155, .bipush 40, 2, 0, 0, 0, 0), (0, 0, 0)), ((157, .invokestatic 65, 3, 1001, 2228, 3197, 1014), (0, 13, 26)), ((160, .aload_n 1, 1, 0, 0, 0, 0), (0, 0, 0)), ((161, .getfield 40, 3, 2, 13, 1124, 0), (1, 5, 14)), ((164, .iconst 0, 1, 0, 0, 0, 0), (0, 0, 0)), ((165, .aload_n 0, 1, 0, 0, 0, 0), (0, 0, 0)), ((166, .getfield 40, 3, 2, 13, 1124, 0), (1, 18, 27)), ((169, .iconst 0, 1, 0, 0, 0, 0), (0, 0, 0)), ((170, .bipush 40, 2, 0, 0, 0, 0), (0, 0, 0)), ((172, .invokestatic 65, 3, 1001, 2228, 3197, 1014), (0, 14, 27)), ((175, .aload_n 1, 1, 0, 0, 0, 0), (0, 0, 0)), ((176, .getfield 43, 3, 2, 14, 1127, 0), (1, 5, 15)), ((179, .iconst 0, 1, 0, 0, 0, 0), (0, 0, 0)), ((180, .aload_n 0, 1, 0, 0, 0, 0), (0, 0, 0)), ((181, .getfield 43, 3, 2, 14, 1127, 0), (1, 18, 28)), ((184, .iconst 0, 1, 0, 0, 0, 0), (0, 0, 0)), ((185, .bipush 40, 2, 0, 0, 0, 0), (0, 0, 0)), ((187, .invokestatic 65, 3, 1001, 2228, 3197, 1014), (0, 15, 28)), ((190, .aload_n 1, 1, 0, 0, 0, 0), (0, 0, 0)), ((191, .getfield 46, 3, 2, 15, 1131, 0), (1, 5, 16)), ((194, .iconst 0, 1, 0, 0, 0, 0), (0, 0, 0)), ((195, .aload_n 0, 1, 0, 0, 0, 0), (0, 0, 0)), ((196, .getfield 46, 3, 2, 15, 1131, 0), (1, 18, 29)), ((199, .iconst 0, 1, 0, 0, 0, 0), (0, 0, 0)), ((200, .bipush 40, 2, 0, 0, 0, 0), (0, 0, 0)), ((202, .invokestatic 65, 3, 1001, 2228, 3197, 1014), (0, 16, 29)), ((205, .aload_n 1, 1, 0, 0, 0, 0), (0, 0, 0)), ((206, .getfield 49, 3, 2, 16, 1136, 0), (1, 5, 17)), ((209, .iconst 0, 1, 0, 0, 0, 0), (0, 0, 0)), ((210, .aload_n 0, 1, 0, 0, 0, 0), (0, 0, 0)), ((211, .getfield 49, 3, 2, 16, 1136, 0), (1, 18, 30)), ((214, .iconst 0, 1, 0, 0, 0, 0), (0, 0, 0)), ((215, .sipush 640, 3, 0, 0, 0, 0), (0, 0, 0)), ((218, .invokestatic 65, 3, 1001, 2228, 3197, 1014), (0, 17, 30))] (by decide +kernel) rfl ?_
  exact hx_ret0 (by decide +kernel) h1

def hCp_18_5 (m m' : gx_M) : Prop := m' 18 0 = m 5 0 ∧ m' 18 1 = m 5 1 ∧ m' 18 2 = m 5 2 ∧ m' 18 3 = m 5 3 ∧ m' 18 4 = m 5 4 ∧ (∀ k, k < 8 → m' 19 k = m 6 k) ∧ (∀ k, k < 40 → m' 20 k = m 7 k) ∧ (∀ k, k < 40 → m' 21 k = m 8 k) ∧ (∀ k, k < 40 → m' 22 k = m 9 k) ∧ (∀ k, k < 40 → m' 23 k = m 10 k) ∧ (∀ k, k < 40 → m' 24 k = m 11 k) ∧ (∀ k, k < 40 → m' 25 k = m 12 k) ∧ (∀ k, k < 40 → m' 26 k = m 13 k) ∧ (∀ k, k < 40 → m' 27 k = m 14 k) ∧ (∀ k, k < 40 → m' 28 k = m 15 k) ∧ (∀ k, k < 40 → m' 29 k = m 16 k) ∧ (∀ k, k < 640 → m' 30 k = m 17 k) ∧ ∀ c, c ∉ [18, 19, 20, 21, 22, 23, 24, 25, 26, 27, 28, 29, 30] → m' c = m c
theorem hs71_18_5 {xs : List Int32} {n : Nat} {Q : hQ} {m : gx_M} (h : ∀ m', hCp_18_5 m m' → Q none m') : hxn xs n yp_m71 0 [(0, .inr (.inl 18)), (1, .inr (.inl 5))] [] m Q := by
  refine hx_dn (hr71_18_5 (h _ ?_))
  refine ⟨by rw [hcopy_ne (by decide), hcopy_ne (by decide), hcopy_ne (by decide), hcopy_ne (by decide), hcopy_ne (by decide), hcopy_ne (by decide), hcopy_ne (by decide), hcopy_ne (by decide), hcopy_ne (by decide), hcopy_ne (by decide), hcopy_ne (by decide), hcopy_ne (by decide), gx_u_ne (by decide), gx_u_ne (by decide), gx_u_ne (by decide), gx_u_ne (by decide), gx_u_self], by rw [hcopy_ne (by decide), hcopy_ne (by decide), hcopy_ne (by decide), hcopy_ne (by decide), hcopy_ne (by decide), hcopy_ne (by decide), hcopy_ne (by decide), hcopy_ne (by decide), hcopy_ne (by decide), hcopy_ne (by decide), hcopy_ne (by decide), hcopy_ne (by decide), gx_u_ne (by decide), gx_u_ne (by decide), gx_u_ne (by decide), gx_u_self], by rw [hcopy_ne (by decide), hcopy_ne (by decide), hcopy_ne (by decide), hcopy_ne (by decide), hcopy_ne (by decide), hcopy_ne (by decide), hcopy_ne (by decide), hcopy_ne (by decide), hcopy_ne (by decide), hcopy_ne (by decide), hcopy_ne (by decide), hcopy_ne (by decide), gx_u_ne (by decide), gx_u_ne (by decide), gx_u_self], by rw [hcopy_ne (by decide), hcopy_ne (by decide), hcopy_ne (by decide), hcopy_ne (by decide), hcopy_ne (by decide), hcopy_ne (by decide), hcopy_ne (by decide), hcopy_ne (by decide), hcopy_ne (by decide), hcopy_ne (by decide), hcopy_ne (by decide), hcopy_ne (by decide), gx_u_ne (by decide), gx_u_self], by rw [hcopy_ne (by decide), hcopy_ne (by decide), hcopy_ne (by decide), hcopy_ne (by decide), hcopy_ne (by decide), hcopy_ne (by decide), hcopy_ne (by decide), hcopy_ne (by decide), hcopy_ne (by decide), hcopy_ne (by decide), hcopy_ne (by decide), hcopy_ne (by decide), gx_u_self], fun k hk => by rw [hcopy_ne (by decide), hcopy_ne (by decide), hcopy_ne (by decide), hcopy_ne (by decide), hcopy_ne (by decide), hcopy_ne (by decide), hcopy_ne (by decide), hcopy_ne (by decide), hcopy_ne (by decide), hcopy_ne (by decide), hcopy_ne (by decide), hcopy_at hk, gx_u_ne (by omega), gx_u_ne (by omega), gx_u_ne (by omega), gx_u_ne (by omega), gx_u_ne (by omega)], fun k hk => by rw [hcopy_ne (by decide), hcopy_ne (by decide), hcopy_ne (by decide), hcopy_ne (by decide), hcopy_ne (by decide), hcopy_ne (by decide), hcopy_ne (by decide), hcopy_ne (by decide), hcopy_ne (by decide), hcopy_ne (by decide), hcopy_at hk, hcopy_ne (by decide), gx_u_ne (by omega), gx_u_ne (by omega), gx_u_ne (by omega), gx_u_ne (by omega), gx_u_ne (by omega)], fun k hk => by rw [hcopy_ne (by decide), hcopy_ne (by decide), hcopy_ne (by decide), hcopy_ne (by decide), hcopy_ne (by decide), hcopy_ne (by decide), hcopy_ne (by decide), hcopy_ne (by decide), hcopy_ne (by decide), hcopy_at hk, hcopy_ne (by decide), hcopy_ne (by decide), gx_u_ne (by omega), gx_u_ne (by omega), gx_u_ne (by omega), gx_u_ne (by omega), gx_u_ne (by omega)], fun k hk => by rw [hcopy_ne (by decide), hcopy_ne (by decide), hcopy_ne (by decide), hcopy_ne (by decide), hcopy_ne (by decide), hcopy_ne (by decide), hcopy_ne (by decide), hcopy_ne (by decide), hcopy_at hk, hcopy_ne (by decide), hcopy_ne (by decide), hcopy_ne (by decide), gx_u_ne (by omega), gx_u_ne (by omega), gx_u_ne (by omega), gx_u_ne (by omega), gx_u_ne (by omega)], fun k hk => by rw [hcopy_ne (by decide), hcopy_ne (by decide), hcopy_ne (by decide), hcopy_ne (by decide), hcopy_ne (by decide), hcopy_ne (by decide), hcopy_ne (by decide), hcopy_at hk, hcopy_ne (by decide), hcopy_ne (by decide), hcopy_ne (by decide), hcopy_ne (by decide), gx_u_ne (by omega), gx_u_ne (by omega), gx_u_ne (by omega), gx_u_ne (by omega), gx_u_ne (by omega)], fun k hk => by rw [hcopy_ne (by decide), hcopy_ne (by decide), hcopy_ne (by decide), hcopy_ne (by decide), hcopy_ne (by decide), hcopy_ne (by decide), hcopy_at hk, hcopy_ne (by decide), hcopy_ne (by decide), hcopy_ne (by decide), hcopy_ne (by decide), hcopy_ne (by decide), gx_u_ne (by omega), gx_u_ne (by omega), gx_u_ne (by omega), gx_u_ne (by omega), gx_u_ne (by omega)], fun k hk => by rw [hcopy_ne (by decide), hcopy_ne (by decide), hcopy_ne (by decide), hcopy_ne (by decide), hcopy_ne (by decide), hcopy_at hk, hcopy_ne (by decide), hcopy_ne (by decide), hcopy_ne (by decide), hcopy_ne (by decide), hcopy_ne (by decide), hcopy_ne (by decide), gx_u_ne (by omega), gx_u_ne (by omega), gx_u_ne (by omega), gx_u_ne (by omega), gx_u_ne (by omega)], fun k hk => by rw [hcopy_ne (by decide), hcopy_ne (by decide), hcopy_ne (by decide), hcopy_ne (by decide), hcopy_at hk, hcopy_ne (by decide), hcopy_ne (by decide), hcopy_ne (by decide), hcopy_ne (by decide), hcopy_ne (by decide), hcopy_ne (by decide), hcopy_ne (by decide), gx_u_ne (by omega), gx_u_ne (by omega), gx_u_ne (by omega), gx_u_ne (by omega), gx_u_ne (by omega)], fun k hk => by rw [hcopy_ne (by decide), hcopy_ne (by decide), hcopy_ne (by decide), hcopy_at hk, hcopy_ne (by decide), hcopy_ne (by decide), hcopy_ne (by decide), hcopy_ne (by decide), hcopy_ne (by decide), hcopy_ne (by decide), hcopy_ne (by decide), hcopy_ne (by decide), gx_u_ne (by omega), gx_u_ne (by omega), gx_u_ne (by omega), gx_u_ne (by omega), gx_u_ne (by omega)], fun k hk => by rw [hcopy_ne (by decide), hcopy_ne (by decide), hcopy_at hk, hcopy_ne (by decide), hcopy_ne (by decide), hcopy_ne (by decide), hcopy_ne (by decide), hcopy_ne (by decide), hcopy_ne (by decide), hcopy_ne (by decide), hcopy_ne (by decide), hcopy_ne (by decide), gx_u_ne (by omega), gx_u_ne (by omega), gx_u_ne (by omega), gx_u_ne (by omega), gx_u_ne (by omega)], fun k hk => by rw [hcopy_ne (by decide), hcopy_at hk, hcopy_ne (by decide), hcopy_ne (by decide), hcopy_ne (by decide), hcopy_ne (by decide), hcopy_ne (by decide), hcopy_ne (by decide), hcopy_ne (by decide), hcopy_ne (by decide), hcopy_ne (by decide), hcopy_ne (by decide), gx_u_ne (by omega), gx_u_ne (by omega), gx_u_ne (by omega), gx_u_ne (by omega), gx_u_ne (by omega)], fun k hk => by rw [hcopy_at hk, hcopy_ne (by decide), hcopy_ne (by decide), hcopy_ne (by decide), hcopy_ne (by decide), hcopy_ne (by decide), hcopy_ne (by decide), hcopy_ne (by decide), hcopy_ne (by decide), hcopy_ne (by decide), hcopy_ne (by decide), hcopy_ne (by decide), gx_u_ne (by omega), gx_u_ne (by omega), gx_u_ne (by omega), gx_u_ne (by omega), gx_u_ne (by omega)], fun c hc => by
      simp only [List.mem_cons, List.not_mem_nil, or_false, not_or] at hc
      obtain ⟨n0, n1, n2, n3, n4, n5, n6, n7, n8, n9, n10, n11, n12⟩ := hc
      funext k
      rw [hcopy_ne n12, hcopy_ne n11, hcopy_ne n10, hcopy_ne n9, hcopy_ne n8, hcopy_ne n7, hcopy_ne n6, hcopy_ne n5, hcopy_ne n4, hcopy_ne n3, hcopy_ne n2, hcopy_ne n1, gx_u_ne (fun e => n0 e.1), gx_u_ne (fun e => n0 e.1), gx_u_ne (fun e => n0 e.1), gx_u_ne (fun e => n0 e.1), gx_u_ne (fun e => n0 e.1)]⟩
set_option maxRecDepth 100000 in
theorem hr71_31_5 {xs : List Int32} {n : Nat} {Q : hQ} {m : gx_M}
    (h1 : Q none (hcopy (hcopy (hcopy (hcopy (hcopy (hcopy (hcopy (hcopy (hcopy (hcopy (hcopy (hcopy (gx_u (gx_u (gx_u (gx_u (gx_u m 31 0 (m 5 0)) 31 1 (m 5 1)) 31 2 (m 5 2)) 31 3 (m 5 3)) 31 4 (m 5 4)) 6 0 32 0 8) 7 0 33 0 40) 8 0 34 0 40) 9 0 35 0 40) 10 0 36 0 40) 11 0 37 0 40) 12 0 38 0 40) 13 0 39 0 40) 14 0 40 0 40) 15 0 41 0 40) 16 0 42 0 40) 17 0 43 0 640)) : hxn xs (n + 1) yp_m71 0 [(0, .inr (.inl 31)), (1, .inr (.inl 5))] [] m Q := by
  refine hx_blks (npc := 221) (L' := [(0, .inr (.inl 31)), (1, .inr (.inl 5))]) (st' := []) (m' := (hcopy (hcopy (hcopy (hcopy (hcopy (hcopy (hcopy (hcopy (hcopy (hcopy (hcopy (hcopy (gx_u (gx_u (gx_u (gx_u (gx_u m 31 0 (m 5 0)) 31 1 (m 5 1)) 31 2 (m 5 2)) 31 3 (m 5 3)) 31 4 (m 5 4)) 6 0 32 0 8) 7 0 33 0 40) 8 0 34 0 40) 9 0 35 0 40) 10 0 36 0 40) 11 0 37 0 40) 12 0 38 0 40) 13 0 39 0 40) 14 0 40 0 40) 15 0 41 0 40) 16 0 42 0 40) 17 0 43 0 640)) ((0, .aload_n 0, 1, 0, 0, 0, 0), (0, 0, 0)) [((1, .aload_n 1, 1, 0, 0, 0, 0), (0, 0, 0)), ((2, .getfield 52, 3, 2, 0, 1076, 0), (0, 5, 0)), ((5, .putfield 52, 3, 2, 0, 1076, 0), (0, 31, 0)), ((8, .aload_n 0, 1, 0, 0, 0, 0), (0, 0, 0)), ((9, .aload_n 1, 1, 0, 0, 0, 0), (0, 0, 0)), ((10, .getfield 55, 3, 2, 1, 1078, 0), (2, 5, 0)), ((13, .putfield 55, 3, 2, 1, 1078, 0), (2, 31, 0)), ((16, .aload_n 0, 1, 0, 0, 0, 0), (0, 0, 0)), ((17, .aload_n 1, 1, 0, 0, 0, 0), (0, 0, 0)), ((18, .getfield 59, 3, 2, 2, 1080, 0), (2, 5, 0)), ((21, .putfield 59, 3, 2, 2, 1080, 0), (2, 31, 0)), ((24, .aload_n 0, 1, 0, 0, 0, 0), (0, 0, 0)), ((25, .aload_n 1, 1, 0, 0, 0, 0), (0, 0, 0)), ((26, .getfield 62, 3, 2, 3, 1082, 0), (0, 5, 0)), ((29, .putfield 62, 3, 2, 3, 1082, 0), (0, 31, 0)), ((32, .aload_n 0, 1, 0, 0, 0, 0), (0, 0, 0)), ((33, .aload_n 1, 1, 0, 0, 0, 0), (0, 0, 0)), ((34, .getfield 9, 3, 2, 4, 1086, 0), (0, 5, 0)), ((37, .putfield 9, 3, 2, 4, 1086, 0), (0, 31, 0)), ((40, .aload_n 1, 1, 0, 0, 0, 0), (0, 0, 0)), ((41, .getfield 15, 3, 2, 5, 1089, 0), (1, 5, 6)), ((44, .iconst 0, 1, 0, 0, 0, 0), (0, 0, 0)), ((45, .aload_n 0, 1, 0, 0, 0, 0), (0, 0, 0)), ((46, .getfield 15, 3, 2, 5, 1089, 0), (1, 31, 32)), ((49, .iconst 0, 1, 0, 0, 0, 0), (0, 0, 0)), ((50, .bipush 8, 2, 0, 0, 0, 0), (0, 0, 0)), ((52, .invokestatic 65, 3, 1001, 2228, 3197, 1014), (0, 6, 32)), ((55, .aload_n 1, 1, 0, 0, 0, 0), (0, 0, 0)), ((56, .getfield 19, 3, 2, 6, 1092, 0), (1, 5, 7)), ((59, .iconst 0, 1, 0, 0, 0, 0), (0, 0, 0)), ((60, .aload_n 0, 1, 0, 0, 0, 0), (0, 0, 0)), ((61, .getfield 19, 3, 2, 6, 1092, 0), (1, 31, 33)), ((64, .iconst 0, 1, 0, 0, 0, 0), (0, 0, 0)), ((65, .bipush 40, 2, 0, 0, 0, 0), (0, 0, 0)), ((67, .invokestatic 65, 3, 1001, 2228, 3197, 1014), (0, 7, 33)), ((70, .aload_n 1, 1, 0, 0, 0, 0), (0, 0, 0)), ((71, .getfield 22, 3, 2, 7, 1096, 0), (1, 5, 8)), ((74, .iconst 0, 1, 0, 0, 0, 0), (0, 0, 0)), ((75, .aload_n 0, 1, 0, 0, 0, 0), (0, 0, 0)), ((76, .getfield 22, 3, 2, 7, 1096, 0), (1, 31, 34)), ((79, .iconst 0, 1, 0, 0, 0, 0), (0, 0, 0)), ((80, .bipush 40, 2, 0, 0, 0, 0), (0, 0, 0)), ((82, .invokestatic 65, 3, 1001, 2228, 3197, 1014), (0, 8, 34)), ((85, .aload_n 1, 1, 0, 0, 0, 0), (0, 0, 0)), ((86, .getfield 25, 3, 2, 8, 1100, 0), (1, 5, 9)), ((89, .iconst 0, 1, 0, 0, 0, 0), (0, 0, 0)), ((90, .aload_n 0, 1, 0, 0, 0, 0), (0, 0, 0)), ((91, .getfield 25, 3, 2, 8, 1100, 0), (1, 31, 35)), ((94, .iconst 0, 1, 0, 0, 0, 0), (0, 0, 0)), ((95, .bipush 40, 2, 0, 0, 0, 0), (0, 0, 0)), ((97, .invokestatic 65, 3, 1001, 2228, 3197, 1014), (0, 9, 35)), ((100, .aload_n 1, 1, 0, 0, 0, 0), (0, 0, 0)), ((101, .getfield 28, 3, 2, 9, 1104, 0), (1, 5, 10)), ((104, .iconst 0, 1, 0, 0, 0, 0), (0, 0, 0)), ((105, .aload_n 0, 1, 0, 0, 0, 0), (0, 0, 0)), ((106, .getfield 28, 3, 2, 9, 1104, 0), (1, 31, 36)), ((109, .iconst 0, 1, 0, 0, 0, 0), (0, 0, 0)), ((110, .bipush 40, 2, 0, 0, 0, 0), (0, 0, 0)), ((112, .invokestatic 65, 3, 1001, 2228, 3197, 1014), (0, 10, 36)), ((115, .aload_n 1, 1, 0, 0, 0, 0), (0, 0, 0)), ((116, .getfield 31, 3, 2, 10, 1108, 0), (1, 5, 11)), ((119, .iconst 0, 1, 0, 0, 0, 0), (0, 0, 0)), ((120, .aload_n 0, 1, 0, 0, 0, 0), (0, 0, 0)), ((121, .getfield 31, 3, 2, 10, 1108, 0), (1, 31, 37)), ((124, .iconst 0, 1, 0, 0, 0, 0), (0, 0, 0)), ((125, .bipush 40, 2, 0, 0, 0, 0), (0, 0, 0)), ((127, .invokestatic 65, 3, 1001, 2228, 3197, 1014), (0, 11, 37)), ((130, .aload_n 1, 1, 0, 0, 0, 0), (0, 0, 0)), ((131, .getfield 34, 3, 2, 11, 1111, 0), (1, 5, 12)), ((134, .iconst 0, 1, 0, 0, 0, 0), (0, 0, 0)), ((135, .aload_n 0, 1, 0, 0, 0, 0), (0, 0, 0)), ((136, .getfield 34, 3, 2, 11, 1111, 0), (1, 31, 38)), ((139, .iconst 0, 1, 0, 0, 0, 0), (0, 0, 0)), ((140, .bipush 40, 2, 0, 0, 0, 0), (0, 0, 0)), ((142, .invokestatic 65, 3, 1001, 2228, 3197, 1014), (0, 12, 38)), ((145, .aload_n 1, 1, 0, 0, 0, 0), (0, 0, 0)), ((146, .getfield 37, 3, 2, 12, 1119, 0), (1, 5, 13)), ((149, .iconst 0, 1, 0, 0, 0, 0), (0, 0, 0)), ((150, .aload_n 0, 1, 0, 0, 0, 0), (0, 0, 0)), ((151, .getfield 37, 3, 2, 12, 1119, 0), (1, 31, 39)), ((154, .iconst 0, 1, 0, 0, 0, 0), (0, 0, 0)), ((155, .bipush 40, 2, 0, 0, 0, 0), (0, 0, 0)), ((157, .invokestatic 65, 3, 1001, 2228, 3197, 1014), (0, 13, 39)), ((160, .aload_n 1, 1, 0, 0, 0, 0), (0, 0, 0)), ((161, .getfield 40, 3, 2, 13, 1124, 0), (1, 5, 14)), ((164, .iconst 0, 1, 0, 0, 0, 0), (0, 0, 0)), ((165, .aload_n 0, 1, 0, 0, 0, 0), (0, 0, 0)), ((166, .getfield 40, 3, 2, 13, 1124, 0), (1, 31, 40)), ((169, .iconst 0, 1, 0, 0, 0, 0), (0, 0, 0)), ((170, .bipush 40, 2, 0, 0, 0, 0), (0, 0, 0)), ((172, .invokestatic 65, 3, 1001, 2228, 3197, 1014), (0, 14, 40)), ((175, .aload_n 1, 1, 0, 0, 0, 0), (0, 0, 0)), ((176, .getfield 43, 3, 2, 14, 1127, 0), (1, 5, 15)), ((179, .iconst 0, 1, 0, 0, 0, 0), (0, 0, 0)), ((180, .aload_n 0, 1, 0, 0, 0, 0), (0, 0, 0)), ((181, .getfield 43, 3, 2, 14, 1127, 0), (1, 31, 41)), ((184, .iconst 0, 1, 0, 0, 0, 0), (0, 0, 0)), ((185, .bipush 40, 2, 0, 0, 0, 0), (0, 0, 0)), ((187, .invokestatic 65, 3, 1001, 2228, 3197, 1014), (0, 15, 41)), ((190, .aload_n 1, 1, 0, 0, 0, 0), (0, 0, 0)), ((191, .getfield 46, 3, 2, 15, 1131, 0), (1, 5, 16)), ((194, .iconst 0, 1, 0, 0, 0, 0), (0, 0, 0)), ((195, .aload_n 0, 1, 0, 0, 0, 0), (0, 0, 0)), ((196, .getfield 46, 3, 2, 15, 1131, 0), (1, 31, 42)), ((199, .iconst 0, 1, 0, 0, 0, 0), (0, 0, 0)), ((200, .bipush 40, 2, 0, 0, 0, 0), (0, 0, 0)), ((202, .invokestatic 65, 3, 1001, 2228, 3197, 1014), (0, 16, 42)), ((205, .aload_n 1, 1, 0, 0, 0, 0), (0, 0, 0)), ((206, .getfield 49, 3, 2, 16, 1136, 0), (1, 5, 17)), ((209, .iconst 0, 1, 0, 0, 0, 0), (0, 0, 0)), ((210, .aload_n 0, 1, 0, 0, 0, 0), (0, 0, 0)), ((211, .getfield 49, 3, 2, 16, 1136, 0), (1, 31, 43)), ((214, .iconst 0, 1, 0, 0, 0, 0), (0, 0, 0)), ((215, .sipush 640, 3, 0, 0, 0, 0), (0, 0, 0)), ((218, .invokestatic 65, 3, 1001, 2228, 3197, 1014), (0, 17, 43))] (by decide +kernel) rfl ?_
  exact hx_ret0 (by decide +kernel) h1

def hCp_31_5 (m m' : gx_M) : Prop := m' 31 0 = m 5 0 ∧ m' 31 1 = m 5 1 ∧ m' 31 2 = m 5 2 ∧ m' 31 3 = m 5 3 ∧ m' 31 4 = m 5 4 ∧ (∀ k, k < 8 → m' 32 k = m 6 k) ∧ (∀ k, k < 40 → m' 33 k = m 7 k) ∧ (∀ k, k < 40 → m' 34 k = m 8 k) ∧ (∀ k, k < 40 → m' 35 k = m 9 k) ∧ (∀ k, k < 40 → m' 36 k = m 10 k) ∧ (∀ k, k < 40 → m' 37 k = m 11 k) ∧ (∀ k, k < 40 → m' 38 k = m 12 k) ∧ (∀ k, k < 40 → m' 39 k = m 13 k) ∧ (∀ k, k < 40 → m' 40 k = m 14 k) ∧ (∀ k, k < 40 → m' 41 k = m 15 k) ∧ (∀ k, k < 40 → m' 42 k = m 16 k) ∧ (∀ k, k < 640 → m' 43 k = m 17 k) ∧ ∀ c, c ∉ [31, 32, 33, 34, 35, 36, 37, 38, 39, 40, 41, 42, 43] → m' c = m c
theorem hs71_31_5 {xs : List Int32} {n : Nat} {Q : hQ} {m : gx_M} (h : ∀ m', hCp_31_5 m m' → Q none m') : hxn xs n yp_m71 0 [(0, .inr (.inl 31)), (1, .inr (.inl 5))] [] m Q := by
  refine hx_dn (hr71_31_5 (h _ ?_))
  refine ⟨by rw [hcopy_ne (by decide), hcopy_ne (by decide), hcopy_ne (by decide), hcopy_ne (by decide), hcopy_ne (by decide), hcopy_ne (by decide), hcopy_ne (by decide), hcopy_ne (by decide), hcopy_ne (by decide), hcopy_ne (by decide), hcopy_ne (by decide), hcopy_ne (by decide), gx_u_ne (by decide), gx_u_ne (by decide), gx_u_ne (by decide), gx_u_ne (by decide), gx_u_self], by rw [hcopy_ne (by decide), hcopy_ne (by decide), hcopy_ne (by decide), hcopy_ne (by decide), hcopy_ne (by decide), hcopy_ne (by decide), hcopy_ne (by decide), hcopy_ne (by decide), hcopy_ne (by decide), hcopy_ne (by decide), hcopy_ne (by decide), hcopy_ne (by decide), gx_u_ne (by decide), gx_u_ne (by decide), gx_u_ne (by decide), gx_u_self], by rw [hcopy_ne (by decide), hcopy_ne (by decide), hcopy_ne (by decide), hcopy_ne (by decide), hcopy_ne (by decide), hcopy_ne (by decide), hcopy_ne (by decide), hcopy_ne (by decide), hcopy_ne (by decide), hcopy_ne (by decide), hcopy_ne (by decide), hcopy_ne (by decide), gx_u_ne (by decide), gx_u_ne (by decide), gx_u_self], by rw [hcopy_ne (by decide), hcopy_ne (by decide), hcopy_ne (by decide), hcopy_ne (by decide), hcopy_ne (by decide), hcopy_ne (by decide), hcopy_ne (by decide), hcopy_ne (by decide), hcopy_ne (by decide), hcopy_ne (by decide), hcopy_ne (by decide), hcopy_ne (by decide), gx_u_ne (by decide), gx_u_self], by rw [hcopy_ne (by decide), hcopy_ne (by decide), hcopy_ne (by decide), hcopy_ne (by decide), hcopy_ne (by decide), hcopy_ne (by decide), hcopy_ne (by decide), hcopy_ne (by decide), hcopy_ne (by decide), hcopy_ne (by decide), hcopy_ne (by decide), hcopy_ne (by decide), gx_u_self], fun k hk => by rw [hcopy_ne (by decide), hcopy_ne (by decide), hcopy_ne (by decide), hcopy_ne (by decide), hcopy_ne (by decide), hcopy_ne (by decide), hcopy_ne (by decide), hcopy_ne (by decide), hcopy_ne (by decide), hcopy_ne (by decide), hcopy_ne (by decide), hcopy_at hk, gx_u_ne (by omega), gx_u_ne (by omega), gx_u_ne (by omega), gx_u_ne (by omega), gx_u_ne (by omega)], fun k hk => by rw [hcopy_ne (by decide), hcopy_ne (by decide), hcopy_ne (by decide), hcopy_ne (by decide), hcopy_ne (by decide), hcopy_ne (by decide), hcopy_ne (by decide), hcopy_ne (by decide), hcopy_ne (by decide), hcopy_ne (by decide), hcopy_at hk, hcopy_ne (by decide), gx_u_ne (by omega), gx_u_ne (by omega), gx_u_ne (by omega), gx_u_ne (by omega), gx_u_ne (by omega)], fun k hk => by rw [hcopy_ne (by decide), hcopy_ne (by decide), hcopy_ne (by decide), hcopy_ne (by decide), hcopy_ne (by decide), hcopy_ne (by decide), hcopy_ne (by decide), hcopy_ne (by decide), hcopy_ne (by decide), hcopy_at hk, hcopy_ne (by decide), hcopy_ne (by decide), gx_u_ne (by omega), gx_u_ne (by omega), gx_u_ne (by omega), gx_u_ne (by omega), gx_u_ne (by omega)], fun k hk => by rw [hcopy_ne (by decide), hcopy_ne (by decide), hcopy_ne (by decide), hcopy_ne (by decide), hcopy_ne (by decide), hcopy_ne (by decide), hcopy_ne (by decide), hcopy_ne (by decide), hcopy_at hk, hcopy_ne (by decide), hcopy_ne (by decide), hcopy_ne (by decide), gx_u_ne (by omega), gx_u_ne (by omega), gx_u_ne (by omega), gx_u_ne (by omega), gx_u_ne (by omega)], fun k hk => by rw [hcopy_ne (by decide), hcopy_ne (by decide), hcopy_ne (by decide), hcopy_ne (by decide), hcopy_ne (by decide), hcopy_ne (by decide), hcopy_ne (by decide), hcopy_at hk, hcopy_ne (by decide), hcopy_ne (by decide), hcopy_ne (by decide), hcopy_ne (by decide), gx_u_ne (by omega), gx_u_ne (by omega), gx_u_ne (by omega), gx_u_ne (by omega), gx_u_ne (by omega)], fun k hk => by rw [hcopy_ne (by decide), hcopy_ne (by decide), hcopy_ne (by decide), hcopy_ne (by decide), hcopy_ne (by decide), hcopy_ne (by decide), hcopy_at hk, hcopy_ne (by decide), hcopy_ne (by decide), hcopy_ne (by decide), hcopy_ne (by decide), hcopy_ne (by decide), gx_u_ne (by omega), gx_u_ne (by omega), gx_u_ne (by omega), gx_u_ne (by omega), gx_u_ne (by omega)], fun k hk => by rw [hcopy_ne (by decide), hcopy_ne (by decide), hcopy_ne (by decide), hcopy_ne (by decide), hcopy_ne (by decide), hcopy_at hk, hcopy_ne (by decide), hcopy_ne (by decide), hcopy_ne (by decide), hcopy_ne (by decide), hcopy_ne (by decide), hcopy_ne (by decide), gx_u_ne (by omega), gx_u_ne (by omega), gx_u_ne (by omega), gx_u_ne (by omega), gx_u_ne (by omega)], fun k hk => by rw [hcopy_ne (by decide), hcopy_ne (by decide), hcopy_ne (by decide), hcopy_ne (by decide), hcopy_at hk, hcopy_ne (by decide), hcopy_ne (by decide), hcopy_ne (by decide), hcopy_ne (by decide), hcopy_ne (by decide), hcopy_ne (by decide), hcopy_ne (by decide), gx_u_ne (by omega), gx_u_ne (by omega), gx_u_ne (by omega), gx_u_ne (by omega), gx_u_ne (by omega)], fun k hk => by rw [hcopy_ne (by decide), hcopy_ne (by decide), hcopy_ne (by decide), hcopy_at hk, hcopy_ne (by decide), hcopy_ne (by decide), hcopy_ne (by decide), hcopy_ne (by decide), hcopy_ne (by decide), hcopy_ne (by decide), hcopy_ne (by decide), hcopy_ne (by decide), gx_u_ne (by omega), gx_u_ne (by omega), gx_u_ne (by omega), gx_u_ne (by omega), gx_u_ne (by omega)], fun k hk => by rw [hcopy_ne (by decide), hcopy_ne (by decide), hcopy_at hk, hcopy_ne (by decide), hcopy_ne (by decide), hcopy_ne (by decide), hcopy_ne (by decide), hcopy_ne (by decide), hcopy_ne (by decide), hcopy_ne (by decide), hcopy_ne (by decide), hcopy_ne (by decide), gx_u_ne (by omega), gx_u_ne (by omega), gx_u_ne (by omega), gx_u_ne (by omega), gx_u_ne (by omega)], fun k hk => by rw [hcopy_ne (by decide), hcopy_at hk, hcopy_ne (by decide), hcopy_ne (by decide), hcopy_ne (by decide), hcopy_ne (by decide), hcopy_ne (by decide), hcopy_ne (by decide), hcopy_ne (by decide), hcopy_ne (by decide), hcopy_ne (by decide), hcopy_ne (by decide), gx_u_ne (by omega), gx_u_ne (by omega), gx_u_ne (by omega), gx_u_ne (by omega), gx_u_ne (by omega)], fun k hk => by rw [hcopy_at hk, hcopy_ne (by decide), hcopy_ne (by decide), hcopy_ne (by decide), hcopy_ne (by decide), hcopy_ne (by decide), hcopy_ne (by decide), hcopy_ne (by decide), hcopy_ne (by decide), hcopy_ne (by decide), hcopy_ne (by decide), hcopy_ne (by decide), gx_u_ne (by omega), gx_u_ne (by omega), gx_u_ne (by omega), gx_u_ne (by omega), gx_u_ne (by omega)], fun c hc => by
      simp only [List.mem_cons, List.not_mem_nil, or_false, not_or] at hc
      obtain ⟨n0, n1, n2, n3, n4, n5, n6, n7, n8, n9, n10, n11, n12⟩ := hc
      funext k
      rw [hcopy_ne n12, hcopy_ne n11, hcopy_ne n10, hcopy_ne n9, hcopy_ne n8, hcopy_ne n7, hcopy_ne n6, hcopy_ne n5, hcopy_ne n4, hcopy_ne n3, hcopy_ne n2, hcopy_ne n1, gx_u_ne (fun e => n0 e.1), gx_u_ne (fun e => n0 e.1), gx_u_ne (fun e => n0 e.1), gx_u_ne (fun e => n0 e.1), gx_u_ne (fun e => n0 e.1)]⟩
/-- keep from 0 on -/
theorem hr154_0 {xs : List Int32} {n : Nat} {Q : hQ} {m : gx_M}
    (h1 : hxn xs n yp_m71 0 [(0, .inr (.inl 18)), (1, .inr (.inl 5))] [] m (fun r m' => hxn xs n yp_m154 11 [(0, .inr (.inl 0))] (hrs r ++ []) m' Q)) : hxn xs (n + 1) yp_m154 0 [(0, .inr (.inl 0))] [] m Q := by
  refine hx_blks (npc := 8) (L' := [(0, .inr (.inl 0))]) (st' := [.inr (.inl 5), .inr (.inl 18)]) (m' := m) ((0, .aload_n 0, 1, 0, 0, 0, 0), (0, 0, 0)) [((1, .getfield 30, 3, 9, 3, 2122, 0), (1, 0, 18)), ((4, .aload_n 0, 1, 0, 0, 0, 0), (0, 0, 0)), ((5, .getfield 26, 3, 9, 2, 2121, 0), (1, 0, 5))] (by decide +kernel) rfl ?_
  exact hx_call (E := (8, .invokevirtual 153, 3, 71, 0, 3193, 0)) (M' := yp_m71) [.inr (.inl 18), .inr (.inl 5)] [] rfl (by decide +kernel) rfl ⟨rfl, rfl⟩ rfl rfl (hx_mono h1 (fun r m' h' => hx_pick [0] h'))

/-- keep from 11 on -/
theorem hr154_11 {xs : List Int32} {n : Nat} {Q : hQ} {m : gx_M}
    (h1 : hxn xs n yp_m61 0 [(0, .inr (.inr (m 5 1)))] [] (gx_u m 0 12 1) (fun r m' => hxn xs n yp_m154 26 [] (hrs r ++ []) m' Q)) : hxn xs (n + 1) yp_m154 11 [(0, .inr (.inl 0))] [] m Q := by
  refine hx_blks (npc := 23) (L' := [(0, .inr (.inl 0))]) (st' := [.inr (.inr (m 5 1))]) (m' := (gx_u m 0 12 1)) ((11, .aload_n 0, 1, 0, 0, 0, 0), (0, 0, 0)) [((12, .iconst 1, 1, 0, 0, 0, 0), (0, 0, 0)), ((13, .putfield 333, 3, 9, 12, 2131, 0), (0, 0, 0)), ((16, .aload_n 0, 1, 0, 0, 0, 0), (0, 0, 0)), ((17, .getfield 26, 3, 9, 2, 2121, 0), (1, 0, 5)), ((20, .getfield 337, 3, 2, 1, 1079, 0), (2, 5, 0))] (by decide +kernel) rfl ?_
  exact hx_call (E := (23, .invokestatic 185, 3, 61, 0, 3216, 0)) (M' := yp_m61) [.inr (.inr (m 5 1))] [] rfl (by decide +kernel) rfl ⟨rfl, rfl⟩ rfl rfl (hx_mono h1 (fun r m' h' => hx_pick [] h'))

/-- keep from 26 on -/
theorem hr154_26 {xs : List Int32} {n : Nat} {Q : hQ} {m : gx_M} {s0 : Int}
    (h1 : Q (some (.inl s0)) m) : hxn xs (n + 1) yp_m154 26 [] [.inl s0] m Q := by
  exact hx_reti (by decide +kernel) h1

/-- undo from 0 on -/
theorem hr155_0 {xs : List Int32} {n : Nat} {Q : hQ} {m : gx_M}
    (h1 : ((m 0 12) ≠ 0) → hxn xs n yp_m71 0 [(0, .inr (.inl 5)), (1, .inr (.inl 18))] [] m (fun r m' => hxn xs n yp_m155 20 [] (hrs r ++ []) m' Q))
    (h2 : ((m 0 12) = 0) → Q (some (.inl 0)) m) : hxn xs (n + 1) yp_m155 0 [(0, .inr (.inl 0))] [] m Q := by
  refine hx_blks (npc := 4) (L' := [(0, .inr (.inl 0))]) (st' := [.inl (m 0 12)]) (m' := m) ((0, .aload_n 0, 1, 0, 0, 0, 0), (0, 0, 0)) [((1, .getfield 333, 3, 9, 12, 2131, 0), (0, 0, 0))] (by decide +kernel) rfl ?_
  refine hx_if .ne 9 (by decide +kernel) (fun c1 => ?_) (fun c1 => ?_)
  · have c1 : (m 0 12) ≠ 0 := c1
    refine hx_blk (npc := 17) (L' := [(0, .inr (.inl 0))]) (st' := [.inr (.inl 18), .inr (.inl 5)]) (m' := m) [((9, .aload_n 0, 1, 0, 0, 0, 0), (0, 0, 0)), ((10, .getfield 26, 3, 9, 2, 2121, 0), (1, 0, 5)), ((13, .aload_n 0, 1, 0, 0, 0, 0), (0, 0, 0)), ((14, .getfield 30, 3, 9, 3, 2122, 0), (1, 0, 18))] (by decide +kernel) rfl ?_
    exact hx_call (E := (17, .invokevirtual 153, 3, 71, 0, 3193, 0)) (M' := yp_m71) [.inr (.inl 5), .inr (.inl 18)] [] rfl (by decide +kernel) rfl ⟨rfl, rfl⟩ rfl rfl (hx_mono (h1 c1) (fun r m' h' => hx_pick [] h'))
  · have c1 : (m 0 12) = 0 := by have h : ¬ ((m 0 12) ≠ 0) := c1; omega
    refine hx_blk (npc := 8) (L' := [(0, .inr (.inl 0))]) (st' := [.inl 0]) (m' := m) [((7, .iconst 0, 1, 0, 0, 0, 0), (0, 0, 0))] (by decide +kernel) rfl ?_
    exact hx_reti (by decide +kernel) (h2 c1)

/-- undo from 20 on -/
theorem hr155_20 {xs : List Int32} {n : Nat} {Q : hQ} {m : gx_M}
    (h1 : Q (some (.inl 1)) m) : hxn xs (n + 1) yp_m155 20 [] [] m Q := by
  refine hx_blks (npc := 21) (L' := []) (st' := [.inl 1]) (m' := m) ((20, .iconst 1, 1, 0, 0, 0, 0), (0, 0, 0)) [] (by decide +kernel) rfl ?_
  exact hx_reti (by decide +kernel) h1
end
section
/-! the reference: persons, years, what is kept and put back -/
/-- person from 0 on -/
theorem hr161_0 {xs : List Int32} {n : Nat} {Q : hQ} {m : gx_M} {x1 x2 : Int}
    (h1 : (0 ≤ x1 ∧ x1 ≤ 7) → (0 ≤ x2 ∧ x2 ≤ 99999) → Q (some (.inl 1)) (gx_u (gx_u m 87 1128 (gx_or (m 87 1128) (gx_shl 1 x1))) 87 (gx_w (1120 + x1)).toNat x2))
    (h2 : (0 ≤ x1 ∧ x1 ≤ 7) → (¬ (0 ≤ x2 ∧ x2 ≤ 99999)) → Q (some (.inl 0)) m)
    (h3 : (¬ (0 ≤ x1 ∧ x1 ≤ 7)) → Q (some (.inl 0)) m) : hxn xs (n + 1) yp_m161 0 [(0, .inr (.inl 86)), (1, .inl x1), (2, .inl x2)] [] m Q := by
  refine hx_blks (npc := 4) (L' := [(0, .inr (.inl 86)), (1, .inl x1), (2, .inl x2)]) (st' := [.inl 7, .inl 0, .inl x1]) (m' := m) ((0, .iload_n 1, 1, 0, 0, 0, 0), (0, 0, 0)) [((1, .iconst 0, 1, 0, 0, 0, 0), (0, 0, 0)), ((2, .bipush 7, 2, 0, 0, 0, 0), (0, 0, 0))] (by decide +kernel) rfl ?_
  refine hx_call (E := (4, .invokestatic 108, 3, 162, 0, 6023, 0)) (M' := yp_m162) [.inl x1, .inl 0, .inl 7] [] rfl (by decide +kernel) rfl ⟨rfl, rfl⟩ rfl rfl (hs162 (fun c1 => ?_) (fun c1 => ?_))
  · have c1 : 0 ≤ x1 ∧ x1 ≤ 7 := c1
    show hxn xs n yp_m161 7 [(0, .inr (.inl 86)), (1, .inl x1), (2, .inl x2)] [.inl 1] m Q
    refine hx_if .eq 20 (by decide +kernel) (fun c2 => ?_) (fun c2 => ?_)
    · have c2 : (1 : Int) = 0 := c2
      exfalso; omega
    · have c2 : (1 : Int) ≠ 0 := c2
      refine hx_blk (npc := 14) (L' := [(0, .inr (.inl 86)), (1, .inl x1), (2, .inl x2)]) (st' := [.inl 99999, .inl 0, .inl x2]) (m' := m) [((10, .iload_n 2, 1, 0, 0, 0, 0), (0, 0, 0)), ((11, .iconst 0, 1, 0, 0, 0, 0), (0, 0, 0)), ((12, .ldc 112, 2, 0, 0, 6026, 99999), (0, 0, 0))] (by decide +kernel) rfl ?_
      refine hx_call (E := (14, .invokestatic 108, 3, 162, 0, 6023, 0)) (M' := yp_m162) [.inl x2, .inl 0, .inl 99999] [] rfl (by decide +kernel) rfl ⟨rfl, rfl⟩ rfl rfl (hs162 (fun c2 => ?_) (fun c2 => ?_))
      · have c2 : 0 ≤ x2 ∧ x2 ≤ 99999 := c2
        show hxn xs n yp_m161 17 [(0, .inr (.inl 86)), (1, .inl x1), (2, .inl x2)] [.inl 1] m Q
        refine hx_if .ne 22 (by decide +kernel) (fun c3 => ?_) (fun c3 => ?_)
        · have c3 : (1 : Int) ≠ 0 := c3
          refine hx_blk (npc := 54) (L' := [(0, .inr (.inl 86)), (1, .inl x1), (2, .inl x2)]) (st' := [.inl 1]) (m' := (gx_u (gx_u m 87 1128 (gx_or (m 87 1128) (gx_shl 1 x1))) 87 (gx_w (1120 + x1)).toNat x2)) [((22, .aload_n 0, 1, 0, 0, 0, 0), (0, 0, 0)), ((23, .getfield 7, 3, 10, 0, 5113, 0), (1, 86, 87)), ((26, .sipush 1128, 3, 0, 0, 0, 0), (0, 0, 0)), ((29, .aload_n 0, 1, 0, 0, 0, 0), (0, 0, 0)), ((30, .getfield 7, 3, 10, 0, 5113, 0), (1, 86, 87)), ((33, .sipush 1128, 3, 0, 0, 0, 0), (0, 0, 0)), ((36, .iaload, 1, 0, 0, 0, 0), (0, 87, 0)), ((37, .iconst 1, 1, 0, 0, 0, 0), (0, 0, 0)), ((38, .iload_n 1, 1, 0, 0, 0, 0), (0, 0, 0)), ((39, .ishl, 1, 0, 0, 0, 0), (0, 0, 0)), ((40, .ior, 1, 0, 0, 0, 0), (0, 0, 0)), ((41, .iastore, 1, 0, 0, 0, 0), (0, 87, 0)), ((42, .aload_n 0, 1, 0, 0, 0, 0), (0, 0, 0)), ((43, .getfield 7, 3, 10, 0, 5113, 0), (1, 86, 87)), ((46, .sipush 1120, 3, 0, 0, 0, 0), (0, 0, 0)), ((49, .iload_n 1, 1, 0, 0, 0, 0), (0, 0, 0)), ((50, .iadd, 1, 0, 0, 0, 0), (0, 0, 0)), ((51, .iload_n 2, 1, 0, 0, 0, 0), (0, 0, 0)), ((52, .iastore, 1, 0, 0, 0, 0), (0, 87, 0)), ((53, .iconst 1, 1, 0, 0, 0, 0), (0, 0, 0))] (by decide +kernel) rfl ?_
          exact hx_reti (by decide +kernel) (h1 c1 c2)
        · have c3 : (1 : Int) = 0 := by have h : ¬ ((1 : Int) ≠ 0) := c3; omega
          exfalso; omega
      · have c2 : ¬ (0 ≤ x2 ∧ x2 ≤ 99999) := c2
        show hxn xs n yp_m161 17 [(0, .inr (.inl 86)), (1, .inl x1), (2, .inl x2)] [.inl 0] m Q
        refine hx_if .ne 22 (by decide +kernel) (fun c3 => ?_) (fun c3 => ?_)
        · have c3 : (0 : Int) ≠ 0 := c3
          exfalso; omega
        · have c3 : (0 : Int) = 0 := by have h : ¬ ((0 : Int) ≠ 0) := c3; omega
          refine hx_blk (npc := 21) (L' := [(0, .inr (.inl 86)), (1, .inl x1), (2, .inl x2)]) (st' := [.inl 0]) (m' := m) [((20, .iconst 0, 1, 0, 0, 0, 0), (0, 0, 0))] (by decide +kernel) rfl ?_
          exact hx_reti (by decide +kernel) (h2 c1 c2)
  · have c1 : ¬ (0 ≤ x1 ∧ x1 ≤ 7) := c1
    show hxn xs n yp_m161 7 [(0, .inr (.inl 86)), (1, .inl x1), (2, .inl x2)] [.inl 0] m Q
    refine hx_if .eq 20 (by decide +kernel) (fun c2 => ?_) (fun c2 => ?_)
    · have c2 : (0 : Int) = 0 := c2
      refine hx_blk (npc := 21) (L' := [(0, .inr (.inl 86)), (1, .inl x1), (2, .inl x2)]) (st' := [.inl 0]) (m' := m) [((20, .iconst 0, 1, 0, 0, 0, 0), (0, 0, 0))] (by decide +kernel) rfl ?_
      exact hx_reti (by decide +kernel) (h3 c1)
    · have c2 : (0 : Int) ≠ 0 := c2
      exfalso; omega

/-- year from 0 on -/
theorem hr163_0 {xs : List Int32} {n : Nat} {Q : hQ} {m : gx_M} {x1 x2 x3 x4 x5 x6 x7 : Int}
    (h1 : (0 ≤ x1 ∧ x1 ≤ 39) → (0 ≤ x2 ∧ x2 ≤ 99) → (aPers (m 87) x3) → (0 ≤ x4 ∧ x4 ≤ 4095) → (0 ≤ x5 ∧ x5 ≤ 255) → (gx_and (gx_shr x5 x3) 1 = 1) → Q (some (.inl 0)) m)
    (h2 : (0 ≤ x1 ∧ x1 ≤ 39) → (0 ≤ x2 ∧ x2 ≤ 99) → (aPers (m 87) x3) → (0 ≤ x4 ∧ x4 ≤ 4095) → (0 ≤ x5 ∧ x5 ≤ 255) → (¬ (gx_and (gx_shr x5 x3) 1 = 1)) → ((gx_and x5 (gx_xor (m 87 1128) (-1))) ≠ 0) → Q (some (.inl 0)) m)
    (h3 : (0 ≤ x1 ∧ x1 ≤ 39) → (0 ≤ x2 ∧ x2 ≤ 99) → (aPers (m 87) x3) → (0 ≤ x4 ∧ x4 ≤ 4095) → (0 ≤ x5 ∧ x5 ≤ 255) → (¬ (gx_and (gx_shr x5 x3) 1 = 1)) → ((gx_and x5 (gx_xor (m 87 1128) (-1))) = 0) → (0 ≤ x7 ∧ x7 ≤ 9) → (x6 = 0) → Q (some (.inl 1)) (gx_u (gx_u (gx_u (gx_u (gx_u (gx_u (gx_u (gx_u (gx_u (gx_u (gx_u (gx_u (gx_u m 87 (gx_w (440 + x1)).toNat 1) 87 (gx_w (0 + x1)).toNat x2) 87 (gx_w (40 + x1)).toNat x3) 87 (gx_w (80 + x1)).toNat x4) 87 (gx_w (120 + x1)).toNat x5) 87 (gx_w (160 + x1)).toNat 0) 87 (gx_w (200 + x1)).toNat x7) 87 (gx_w (240 + x1)).toNat x3) 87 (gx_w (280 + x1)).toNat (-2)) 87 (gx_w (320 + x1)).toNat 0) 87 (gx_w (360 + x1)).toNat 0) 87 (gx_w (400 + x1)).toNat 1) 87 (gx_w (480 + (gx_w (16 * x1)))).toNat x3))
    (h4 : (0 ≤ x1 ∧ x1 ≤ 39) → (0 ≤ x2 ∧ x2 ≤ 99) → (aPers (m 87) x3) → (0 ≤ x4 ∧ x4 ≤ 4095) → (0 ≤ x5 ∧ x5 ≤ 255) → (¬ (gx_and (gx_shr x5 x3) 1 = 1)) → ((gx_and x5 (gx_xor (m 87 1128) (-1))) = 0) → (0 ≤ x7 ∧ x7 ≤ 9) → (x6 ≠ 0) → Q (some (.inl 1)) (gx_u (gx_u (gx_u (gx_u (gx_u (gx_u (gx_u (gx_u (gx_u (gx_u (gx_u (gx_u (gx_u m 87 (gx_w (440 + x1)).toNat 1) 87 (gx_w (0 + x1)).toNat x2) 87 (gx_w (40 + x1)).toNat x3) 87 (gx_w (80 + x1)).toNat x4) 87 (gx_w (120 + x1)).toNat x5) 87 (gx_w (160 + x1)).toNat 1) 87 (gx_w (200 + x1)).toNat x7) 87 (gx_w (240 + x1)).toNat x3) 87 (gx_w (280 + x1)).toNat (-2)) 87 (gx_w (320 + x1)).toNat 0) 87 (gx_w (360 + x1)).toNat 0) 87 (gx_w (400 + x1)).toNat 1) 87 (gx_w (480 + (gx_w (16 * x1)))).toNat x3))
    (h5 : (0 ≤ x1 ∧ x1 ≤ 39) → (0 ≤ x2 ∧ x2 ≤ 99) → (aPers (m 87) x3) → (0 ≤ x4 ∧ x4 ≤ 4095) → (0 ≤ x5 ∧ x5 ≤ 255) → (¬ (gx_and (gx_shr x5 x3) 1 = 1)) → ((gx_and x5 (gx_xor (m 87 1128) (-1))) = 0) → (¬ (0 ≤ x7 ∧ x7 ≤ 9)) → Q (some (.inl 0)) m)
    (h6 : (0 ≤ x1 ∧ x1 ≤ 39) → (0 ≤ x2 ∧ x2 ≤ 99) → (aPers (m 87) x3) → (0 ≤ x4 ∧ x4 ≤ 4095) → (¬ (0 ≤ x5 ∧ x5 ≤ 255)) → Q (some (.inl 0)) m)
    (h7 : (0 ≤ x1 ∧ x1 ≤ 39) → (0 ≤ x2 ∧ x2 ≤ 99) → (aPers (m 87) x3) → (¬ (0 ≤ x4 ∧ x4 ≤ 4095)) → Q (some (.inl 0)) m)
    (h8 : (0 ≤ x1 ∧ x1 ≤ 39) → (0 ≤ x2 ∧ x2 ≤ 99) → (¬ (aPers (m 87) x3)) → Q (some (.inl 0)) m)
    (h9 : (0 ≤ x1 ∧ x1 ≤ 39) → (¬ (0 ≤ x2 ∧ x2 ≤ 99)) → Q (some (.inl 0)) m)
    (h10 : (¬ (0 ≤ x1 ∧ x1 ≤ 39)) → Q (some (.inl 0)) m) : hxn xs (n + 1) yp_m163 0 [(0, .inr (.inl 86)), (1, .inl x1), (2, .inl x2), (3, .inl x3), (4, .inl x4), (5, .inl x5), (6, .inl x6), (7, .inl x7)] [] m Q := by
  refine hx_blks (npc := 4) (L' := [(0, .inr (.inl 86)), (1, .inl x1), (2, .inl x2), (3, .inl x3), (4, .inl x4), (5, .inl x5), (6, .inl x6), (7, .inl x7)]) (st' := [.inl 39, .inl 0, .inl x1]) (m' := m) ((0, .iload_n 1, 1, 0, 0, 0, 0), (0, 0, 0)) [((1, .iconst 0, 1, 0, 0, 0, 0), (0, 0, 0)), ((2, .bipush 39, 2, 0, 0, 0, 0), (0, 0, 0))] (by decide +kernel) rfl ?_
  refine hx_call (E := (4, .invokestatic 108, 3, 162, 0, 6023, 0)) (M' := yp_m162) [.inl x1, .inl 0, .inl 39] [] rfl (by decide +kernel) rfl ⟨rfl, rfl⟩ rfl rfl (hs162 (fun c1 => ?_) (fun c1 => ?_))
  · have c1 : 0 ≤ x1 ∧ x1 ≤ 39 := c1
    show hxn xs n yp_m163 7 [(0, .inr (.inl 86)), (1, .inl x1), (2, .inl x2), (3, .inl x3), (4, .inl x4), (5, .inl x5), (6, .inl x6), (7, .inl x7)] [.inl 1] m Q
    refine hx_if .eq 88 (by decide +kernel) (fun c2 => ?_) (fun c2 => ?_)
    · have c2 : (1 : Int) = 0 := c2
      exfalso; omega
    · have c2 : (1 : Int) ≠ 0 := c2
      refine hx_blk (npc := 14) (L' := [(0, .inr (.inl 86)), (1, .inl x1), (2, .inl x2), (3, .inl x3), (4, .inl x4), (5, .inl x5), (6, .inl x6), (7, .inl x7)]) (st' := [.inl 99, .inl 0, .inl x2]) (m' := m) [((10, .iload_n 2, 1, 0, 0, 0, 0), (0, 0, 0)), ((11, .iconst 0, 1, 0, 0, 0, 0), (0, 0, 0)), ((12, .bipush 99, 2, 0, 0, 0, 0), (0, 0, 0))] (by decide +kernel) rfl ?_
      refine hx_call (E := (14, .invokestatic 108, 3, 162, 0, 6023, 0)) (M' := yp_m162) [.inl x2, .inl 0, .inl 99] [] rfl (by decide +kernel) rfl ⟨rfl, rfl⟩ rfl rfl (hs162 (fun c2 => ?_) (fun c2 => ?_))
      · have c2 : 0 ≤ x2 ∧ x2 ≤ 99 := c2
        show hxn xs n yp_m163 17 [(0, .inr (.inl 86)), (1, .inl x1), (2, .inl x2), (3, .inl x3), (4, .inl x4), (5, .inl x5), (6, .inl x6), (7, .inl x7)] [.inl 1] m Q
        refine hx_if .eq 88 (by decide +kernel) (fun c3 => ?_) (fun c3 => ?_)
        · have c3 : (1 : Int) = 0 := c3
          exfalso; omega
        · have c3 : (1 : Int) ≠ 0 := c3
          refine hx_blk (npc := 22) (L' := [(0, .inr (.inl 86)), (1, .inl x1), (2, .inl x2), (3, .inl x3), (4, .inl x4), (5, .inl x5), (6, .inl x6), (7, .inl x7)]) (st' := [.inl x3, .inr (.inl 86)]) (m' := m) [((20, .aload_n 0, 1, 0, 0, 0, 0), (0, 0, 0)), ((21, .iload_n 3, 1, 0, 0, 0, 0), (0, 0, 0))] (by decide +kernel) rfl ?_
          refine hx_call (E := (22, .invokevirtual 113, 3, 164, 0, 6031, 0)) (M' := yp_m164) [.inr (.inl 86), .inl x3] [] rfl (by decide +kernel) rfl ⟨rfl, rfl⟩ rfl rfl (hs164 (fun c3 => ?_) (fun c3 => ?_))
          · have c3 : aPers (m 87) x3 := c3
            show hxn xs n yp_m163 25 [(0, .inr (.inl 86)), (1, .inl x1), (2, .inl x2), (3, .inl x3), (4, .inl x4), (5, .inl x5), (6, .inl x6), (7, .inl x7)] [.inl 1] m Q
            refine hx_if .eq 88 (by decide +kernel) (fun c4 => ?_) (fun c4 => ?_)
            · have c4 : (1 : Int) = 0 := c4
              exfalso; omega
            · have c4 : (1 : Int) ≠ 0 := c4
              refine hx_blk (npc := 34) (L' := [(0, .inr (.inl 86)), (1, .inl x1), (2, .inl x2), (3, .inl x3), (4, .inl x4), (5, .inl x5), (6, .inl x6), (7, .inl x7)]) (st' := [.inl 4095, .inl 0, .inl x4]) (m' := m) [((28, .iload 4, 2, 0, 0, 0, 0), (0, 0, 0)), ((30, .iconst 0, 1, 0, 0, 0, 0), (0, 0, 0)), ((31, .sipush 4095, 3, 0, 0, 0, 0), (0, 0, 0))] (by decide +kernel) rfl ?_
              refine hx_call (E := (34, .invokestatic 108, 3, 162, 0, 6023, 0)) (M' := yp_m162) [.inl x4, .inl 0, .inl 4095] [] rfl (by decide +kernel) rfl ⟨rfl, rfl⟩ rfl rfl (hs162 (fun c4 => ?_) (fun c4 => ?_))
              · have c4 : 0 ≤ x4 ∧ x4 ≤ 4095 := c4
                show hxn xs n yp_m163 37 [(0, .inr (.inl 86)), (1, .inl x1), (2, .inl x2), (3, .inl x3), (4, .inl x4), (5, .inl x5), (6, .inl x6), (7, .inl x7)] [.inl 1] m Q
                refine hx_if .eq 88 (by decide +kernel) (fun c5 => ?_) (fun c5 => ?_)
                · have c5 : (1 : Int) = 0 := c5
                  exfalso; omega
                · have c5 : (1 : Int) ≠ 0 := c5
                  refine hx_blk (npc := 46) (L' := [(0, .inr (.inl 86)), (1, .inl x1), (2, .inl x2), (3, .inl x3), (4, .inl x4), (5, .inl x5), (6, .inl x6), (7, .inl x7)]) (st' := [.inl 255, .inl 0, .inl x5]) (m' := m) [((40, .iload 5, 2, 0, 0, 0, 0), (0, 0, 0)), ((42, .iconst 0, 1, 0, 0, 0, 0), (0, 0, 0)), ((43, .sipush 255, 3, 0, 0, 0, 0), (0, 0, 0))] (by decide +kernel) rfl ?_
                  refine hx_call (E := (46, .invokestatic 108, 3, 162, 0, 6023, 0)) (M' := yp_m162) [.inl x5, .inl 0, .inl 255] [] rfl (by decide +kernel) rfl ⟨rfl, rfl⟩ rfl rfl (hs162 (fun c5 => ?_) (fun c5 => ?_))
                  · have c5 : 0 ≤ x5 ∧ x5 ≤ 255 := c5
                    show hxn xs n yp_m163 49 [(0, .inr (.inl 86)), (1, .inl x1), (2, .inl x2), (3, .inl x3), (4, .inl x4), (5, .inl x5), (6, .inl x6), (7, .inl x7)] [.inl 1] m Q
                    refine hx_if .eq 88 (by decide +kernel) (fun c6 => ?_) (fun c6 => ?_)
                    · have c6 : (1 : Int) = 0 := c6
                      exfalso; omega
                    · have c6 : (1 : Int) ≠ 0 := c6
                      refine hx_blk (npc := 55) (L' := [(0, .inr (.inl 86)), (1, .inl x1), (2, .inl x2), (3, .inl x3), (4, .inl x4), (5, .inl x5), (6, .inl x6), (7, .inl x7)]) (st' := [.inl x3, .inl x5]) (m' := m) [((52, .iload 5, 2, 0, 0, 0, 0), (0, 0, 0)), ((54, .iload_n 3, 1, 0, 0, 0, 0), (0, 0, 0))] (by decide +kernel) rfl ?_
                      refine hx_call (E := (55, .invokestatic 104, 3, 165, 0, 6035, 0)) (M' := yp_m165) [.inl x5, .inl x3] [] rfl (by decide +kernel) rfl ⟨rfl, rfl⟩ rfl rfl (hs165 (fun c6 => ?_) (fun c6 => ?_))
                      · have c6 : gx_and (gx_shr x5 x3) 1 = 1 := c6
                        show hxn xs n yp_m163 58 [(0, .inr (.inl 86)), (1, .inl x1), (2, .inl x2), (3, .inl x3), (4, .inl x4), (5, .inl x5), (6, .inl x6), (7, .inl x7)] [.inl 1] m Q
                        refine hx_if .ne 88 (by decide +kernel) (fun c7 => ?_) (fun c7 => ?_)
                        · have c7 : (1 : Int) ≠ 0 := c7
                          refine hx_blk (npc := 89) (L' := [(0, .inr (.inl 86)), (1, .inl x1), (2, .inl x2), (3, .inl x3), (4, .inl x4), (5, .inl x5), (6, .inl x6), (7, .inl x7)]) (st' := [.inl 0]) (m' := m) [((88, .iconst 0, 1, 0, 0, 0, 0), (0, 0, 0))] (by decide +kernel) rfl ?_
                          exact hx_reti (by decide +kernel) (h1 c1 c2 c3 c4 c5 c6)
                        · have c7 : (1 : Int) = 0 := by have h : ¬ ((1 : Int) ≠ 0) := c7; omega
                          exfalso; omega
                      · have c6 : ¬ (gx_and (gx_shr x5 x3) 1 = 1) := c6
                        show hxn xs n yp_m163 58 [(0, .inr (.inl 86)), (1, .inl x1), (2, .inl x2), (3, .inl x3), (4, .inl x4), (5, .inl x5), (6, .inl x6), (7, .inl x7)] [.inl 0] m Q
                        refine hx_if .ne 88 (by decide +kernel) (fun c7 => ?_) (fun c7 => ?_)
                        · have c7 : (0 : Int) ≠ 0 := c7
                          exfalso; omega
                        · have c7 : (0 : Int) = 0 := by have h : ¬ ((0 : Int) ≠ 0) := c7; omega
                          refine hx_blk (npc := 74) (L' := [(0, .inr (.inl 86)), (1, .inl x1), (2, .inl x2), (3, .inl x3), (4, .inl x4), (5, .inl x5), (6, .inl x6), (7, .inl x7)]) (st' := [.inl (gx_and x5 (gx_xor (m 87 1128) (-1)))]) (m' := m) [((61, .iload 5, 2, 0, 0, 0, 0), (0, 0, 0)), ((63, .aload_n 0, 1, 0, 0, 0, 0), (0, 0, 0)), ((64, .getfield 7, 3, 10, 0, 5113, 0), (1, 86, 87)), ((67, .sipush 1128, 3, 0, 0, 0, 0), (0, 0, 0)), ((70, .iaload, 1, 0, 0, 0, 0), (0, 87, 0)), ((71, .iconst (-1), 1, 0, 0, 0, 0), (0, 0, 0)), ((72, .ixor, 1, 0, 0, 0, 0), (0, 0, 0)), ((73, .iand, 1, 0, 0, 0, 0), (0, 0, 0))] (by decide +kernel) rfl ?_
                          refine hx_if .ne 88 (by decide +kernel) (fun c7 => ?_) (fun c7 => ?_)
                          · have c7 : (gx_and x5 (gx_xor (m 87 1128) (-1))) ≠ 0 := c7
                            refine hx_blk (npc := 89) (L' := [(0, .inr (.inl 86)), (1, .inl x1), (2, .inl x2), (3, .inl x3), (4, .inl x4), (5, .inl x5), (6, .inl x6), (7, .inl x7)]) (st' := [.inl 0]) (m' := m) [((88, .iconst 0, 1, 0, 0, 0, 0), (0, 0, 0))] (by decide +kernel) rfl ?_
                            exact hx_reti (by decide +kernel) (h2 c1 c2 c3 c4 c5 c6 c7)
                          · have c7 : (gx_and x5 (gx_xor (m 87 1128) (-1))) = 0 := by have h : ¬ ((gx_and x5 (gx_xor (m 87 1128) (-1))) ≠ 0) := c7; omega
                            refine hx_blk (npc := 82) (L' := [(0, .inr (.inl 86)), (1, .inl x1), (2, .inl x2), (3, .inl x3), (4, .inl x4), (5, .inl x5), (6, .inl x6), (7, .inl x7)]) (st' := [.inl 9, .inl 0, .inl x7]) (m' := m) [((77, .iload 7, 2, 0, 0, 0, 0), (0, 0, 0)), ((79, .iconst 0, 1, 0, 0, 0, 0), (0, 0, 0)), ((80, .bipush 9, 2, 0, 0, 0, 0), (0, 0, 0))] (by decide +kernel) rfl ?_
                            refine hx_call (E := (82, .invokestatic 108, 3, 162, 0, 6023, 0)) (M' := yp_m162) [.inl x7, .inl 0, .inl 9] [] rfl (by decide +kernel) rfl ⟨rfl, rfl⟩ rfl rfl (hs162 (fun c8 => ?_) (fun c8 => ?_))
                            · have c8 : 0 ≤ x7 ∧ x7 ≤ 9 := c8
                              show hxn xs n yp_m163 85 [(0, .inr (.inl 86)), (1, .inl x1), (2, .inl x2), (3, .inl x3), (4, .inl x4), (5, .inl x5), (6, .inl x6), (7, .inl x7)] [.inl 1] m Q
                              refine hx_if .ne 90 (by decide +kernel) (fun c9 => ?_) (fun c9 => ?_)
                              · have c9 : (1 : Int) ≠ 0 := c9
                                refine hx_blk (npc := 153) (L' := [(0, .inr (.inl 86)), (1, .inl x1), (2, .inl x2), (3, .inl x3), (4, .inl x4), (5, .inl x5), (6, .inl x6), (7, .inl x7)]) (st' := [.inl x6, .inl (gx_w (160 + x1)), .inr (.inl 87)]) (m' := (gx_u (gx_u (gx_u (gx_u (gx_u m 87 (gx_w (440 + x1)).toNat 1) 87 (gx_w (0 + x1)).toNat x2) 87 (gx_w (40 + x1)).toNat x3) 87 (gx_w (80 + x1)).toNat x4) 87 (gx_w (120 + x1)).toNat x5)) [((90, .aload_n 0, 1, 0, 0, 0, 0), (0, 0, 0)), ((91, .getfield 7, 3, 10, 0, 5113, 0), (1, 86, 87)), ((94, .sipush 440, 3, 0, 0, 0, 0), (0, 0, 0)), ((97, .iload_n 1, 1, 0, 0, 0, 0), (0, 0, 0)), ((98, .iadd, 1, 0, 0, 0, 0), (0, 0, 0)), ((99, .iconst 1, 1, 0, 0, 0, 0), (0, 0, 0)), ((100, .iastore, 1, 0, 0, 0, 0), (0, 87, 0)), ((101, .aload_n 0, 1, 0, 0, 0, 0), (0, 0, 0)), ((102, .getfield 7, 3, 10, 0, 5113, 0), (1, 86, 87)), ((105, .iconst 0, 1, 0, 0, 0, 0), (0, 0, 0)), ((106, .iload_n 1, 1, 0, 0, 0, 0), (0, 0, 0)), ((107, .iadd, 1, 0, 0, 0, 0), (0, 0, 0)), ((108, .iload_n 2, 1, 0, 0, 0, 0), (0, 0, 0)), ((109, .iastore, 1, 0, 0, 0, 0), (0, 87, 0)), ((110, .aload_n 0, 1, 0, 0, 0, 0), (0, 0, 0)), ((111, .getfield 7, 3, 10, 0, 5113, 0), (1, 86, 87)), ((114, .bipush 40, 2, 0, 0, 0, 0), (0, 0, 0)), ((116, .iload_n 1, 1, 0, 0, 0, 0), (0, 0, 0)), ((117, .iadd, 1, 0, 0, 0, 0), (0, 0, 0)), ((118, .iload_n 3, 1, 0, 0, 0, 0), (0, 0, 0)), ((119, .iastore, 1, 0, 0, 0, 0), (0, 87, 0)), ((120, .aload_n 0, 1, 0, 0, 0, 0), (0, 0, 0)), ((121, .getfield 7, 3, 10, 0, 5113, 0), (1, 86, 87)), ((124, .bipush 80, 2, 0, 0, 0, 0), (0, 0, 0)), ((126, .iload_n 1, 1, 0, 0, 0, 0), (0, 0, 0)), ((127, .iadd, 1, 0, 0, 0, 0), (0, 0, 0)), ((128, .iload 4, 2, 0, 0, 0, 0), (0, 0, 0)), ((130, .iastore, 1, 0, 0, 0, 0), (0, 87, 0)), ((131, .aload_n 0, 1, 0, 0, 0, 0), (0, 0, 0)), ((132, .getfield 7, 3, 10, 0, 5113, 0), (1, 86, 87)), ((135, .bipush 120, 2, 0, 0, 0, 0), (0, 0, 0)), ((137, .iload_n 1, 1, 0, 0, 0, 0), (0, 0, 0)), ((138, .iadd, 1, 0, 0, 0, 0), (0, 0, 0)), ((139, .iload 5, 2, 0, 0, 0, 0), (0, 0, 0)), ((141, .iastore, 1, 0, 0, 0, 0), (0, 87, 0)), ((142, .aload_n 0, 1, 0, 0, 0, 0), (0, 0, 0)), ((143, .getfield 7, 3, 10, 0, 5113, 0), (1, 86, 87)), ((146, .sipush 160, 3, 0, 0, 0, 0), (0, 0, 0)), ((149, .iload_n 1, 1, 0, 0, 0, 0), (0, 0, 0)), ((150, .iadd, 1, 0, 0, 0, 0), (0, 0, 0)), ((151, .iload 6, 2, 0, 0, 0, 0), (0, 0, 0))] (by decide +kernel) rfl ?_
                                refine hx_if .eq 160 (by decide +kernel) (fun c9 => ?_) (fun c9 => ?_)
                                · have c9 : x6 = 0 := c9
                                  refine hx_blk (npc := 245) (L' := [(0, .inr (.inl 86)), (1, .inl x1), (2, .inl x2), (3, .inl x3), (4, .inl x4), (5, .inl x5), (6, .inl x6), (7, .inl x7)]) (st' := [.inl 1]) (m' := (gx_u (gx_u (gx_u (gx_u (gx_u (gx_u (gx_u (gx_u (gx_u (gx_u (gx_u (gx_u (gx_u m 87 (gx_w (440 + x1)).toNat 1) 87 (gx_w (0 + x1)).toNat x2) 87 (gx_w (40 + x1)).toNat x3) 87 (gx_w (80 + x1)).toNat x4) 87 (gx_w (120 + x1)).toNat x5) 87 (gx_w (160 + x1)).toNat 0) 87 (gx_w (200 + x1)).toNat x7) 87 (gx_w (240 + x1)).toNat x3) 87 (gx_w (280 + x1)).toNat (-2)) 87 (gx_w (320 + x1)).toNat 0) 87 (gx_w (360 + x1)).toNat 0) 87 (gx_w (400 + x1)).toNat 1) 87 (gx_w (480 + (gx_w (16 * x1)))).toNat x3)) [((160, .iconst 0, 1, 0, 0, 0, 0), (0, 0, 0)), ((161, .iastore, 1, 0, 0, 0, 0), (0, 87, 0)), ((162, .aload_n 0, 1, 0, 0, 0, 0), (0, 0, 0)), ((163, .getfield 7, 3, 10, 0, 5113, 0), (1, 86, 87)), ((166, .sipush 200, 3, 0, 0, 0, 0), (0, 0, 0)), ((169, .iload_n 1, 1, 0, 0, 0, 0), (0, 0, 0)), ((170, .iadd, 1, 0, 0, 0, 0), (0, 0, 0)), ((171, .iload 7, 2, 0, 0, 0, 0), (0, 0, 0)), ((173, .iastore, 1, 0, 0, 0, 0), (0, 87, 0)), ((174, .aload_n 0, 1, 0, 0, 0, 0), (0, 0, 0)), ((175, .getfield 7, 3, 10, 0, 5113, 0), (1, 86, 87)), ((178, .sipush 240, 3, 0, 0, 0, 0), (0, 0, 0)), ((181, .iload_n 1, 1, 0, 0, 0, 0), (0, 0, 0)), ((182, .iadd, 1, 0, 0, 0, 0), (0, 0, 0)), ((183, .iload_n 3, 1, 0, 0, 0, 0), (0, 0, 0)), ((184, .iastore, 1, 0, 0, 0, 0), (0, 87, 0)), ((185, .aload_n 0, 1, 0, 0, 0, 0), (0, 0, 0)), ((186, .getfield 7, 3, 10, 0, 5113, 0), (1, 86, 87)), ((189, .sipush 280, 3, 0, 0, 0, 0), (0, 0, 0)), ((192, .iload_n 1, 1, 0, 0, 0, 0), (0, 0, 0)), ((193, .iadd, 1, 0, 0, 0, 0), (0, 0, 0)), ((194, .bipush (-2), 2, 0, 0, 0, 0), (0, 0, 0)), ((196, .iastore, 1, 0, 0, 0, 0), (0, 87, 0)), ((197, .aload_n 0, 1, 0, 0, 0, 0), (0, 0, 0)), ((198, .getfield 7, 3, 10, 0, 5113, 0), (1, 86, 87)), ((201, .sipush 320, 3, 0, 0, 0, 0), (0, 0, 0)), ((204, .iload_n 1, 1, 0, 0, 0, 0), (0, 0, 0)), ((205, .iadd, 1, 0, 0, 0, 0), (0, 0, 0)), ((206, .iconst 0, 1, 0, 0, 0, 0), (0, 0, 0)), ((207, .iastore, 1, 0, 0, 0, 0), (0, 87, 0)), ((208, .aload_n 0, 1, 0, 0, 0, 0), (0, 0, 0)), ((209, .getfield 7, 3, 10, 0, 5113, 0), (1, 86, 87)), ((212, .sipush 360, 3, 0, 0, 0, 0), (0, 0, 0)), ((215, .iload_n 1, 1, 0, 0, 0, 0), (0, 0, 0)), ((216, .iadd, 1, 0, 0, 0, 0), (0, 0, 0)), ((217, .iconst 0, 1, 0, 0, 0, 0), (0, 0, 0)), ((218, .iastore, 1, 0, 0, 0, 0), (0, 87, 0)), ((219, .aload_n 0, 1, 0, 0, 0, 0), (0, 0, 0)), ((220, .getfield 7, 3, 10, 0, 5113, 0), (1, 86, 87)), ((223, .sipush 400, 3, 0, 0, 0, 0), (0, 0, 0)), ((226, .iload_n 1, 1, 0, 0, 0, 0), (0, 0, 0)), ((227, .iadd, 1, 0, 0, 0, 0), (0, 0, 0)), ((228, .iconst 1, 1, 0, 0, 0, 0), (0, 0, 0)), ((229, .iastore, 1, 0, 0, 0, 0), (0, 87, 0)), ((230, .aload_n 0, 1, 0, 0, 0, 0), (0, 0, 0)), ((231, .getfield 7, 3, 10, 0, 5113, 0), (1, 86, 87)), ((234, .sipush 480, 3, 0, 0, 0, 0), (0, 0, 0)), ((237, .bipush 16, 2, 0, 0, 0, 0), (0, 0, 0)), ((239, .iload_n 1, 1, 0, 0, 0, 0), (0, 0, 0)), ((240, .imul, 1, 0, 0, 0, 0), (0, 0, 0)), ((241, .iadd, 1, 0, 0, 0, 0), (0, 0, 0)), ((242, .iload_n 3, 1, 0, 0, 0, 0), (0, 0, 0)), ((243, .iastore, 1, 0, 0, 0, 0), (0, 87, 0)), ((244, .iconst 1, 1, 0, 0, 0, 0), (0, 0, 0))] (by decide +kernel) rfl ?_
                                  exact hx_reti (by decide +kernel) (h3 c1 c2 c3 c4 c5 c6 c7 c8 c9)
                                · have c9 : x6 ≠ 0 := c9
                                  refine hx_blk (npc := 245) (L' := [(0, .inr (.inl 86)), (1, .inl x1), (2, .inl x2), (3, .inl x3), (4, .inl x4), (5, .inl x5), (6, .inl x6), (7, .inl x7)]) (st' := [.inl 1]) (m' := (gx_u (gx_u (gx_u (gx_u (gx_u (gx_u (gx_u (gx_u (gx_u (gx_u (gx_u (gx_u (gx_u m 87 (gx_w (440 + x1)).toNat 1) 87 (gx_w (0 + x1)).toNat x2) 87 (gx_w (40 + x1)).toNat x3) 87 (gx_w (80 + x1)).toNat x4) 87 (gx_w (120 + x1)).toNat x5) 87 (gx_w (160 + x1)).toNat 1) 87 (gx_w (200 + x1)).toNat x7) 87 (gx_w (240 + x1)).toNat x3) 87 (gx_w (280 + x1)).toNat (-2)) 87 (gx_w (320 + x1)).toNat 0) 87 (gx_w (360 + x1)).toNat 0) 87 (gx_w (400 + x1)).toNat 1) 87 (gx_w (480 + (gx_w (16 * x1)))).toNat x3)) [((156, .iconst 1, 1, 0, 0, 0, 0), (0, 0, 0)), ((157, .goto 4, 3, 0, 0, 0, 0), (0, 0, 0)), ((161, .iastore, 1, 0, 0, 0, 0), (0, 87, 0)), ((162, .aload_n 0, 1, 0, 0, 0, 0), (0, 0, 0)), ((163, .getfield 7, 3, 10, 0, 5113, 0), (1, 86, 87)), ((166, .sipush 200, 3, 0, 0, 0, 0), (0, 0, 0)), ((169, .iload_n 1, 1, 0, 0, 0, 0), (0, 0, 0)), ((170, .iadd, 1, 0, 0, 0, 0), (0, 0, 0)), ((171, .iload 7, 2, 0, 0, 0, 0), (0, 0, 0)), ((173, .iastore, 1, 0, 0, 0, 0), (0, 87, 0)), ((174, .aload_n 0, 1, 0, 0, 0, 0), (0, 0, 0)), ((175, .getfield 7, 3, 10, 0, 5113, 0), (1, 86, 87)), ((178, .sipush 240, 3, 0, 0, 0, 0), (0, 0, 0)), ((181, .iload_n 1, 1, 0, 0, 0, 0), (0, 0, 0)), ((182, .iadd, 1, 0, 0, 0, 0), (0, 0, 0)), ((183, .iload_n 3, 1, 0, 0, 0, 0), (0, 0, 0)), ((184, .iastore, 1, 0, 0, 0, 0), (0, 87, 0)), ((185, .aload_n 0, 1, 0, 0, 0, 0), (0, 0, 0)), ((186, .getfield 7, 3, 10, 0, 5113, 0), (1, 86, 87)), ((189, .sipush 280, 3, 0, 0, 0, 0), (0, 0, 0)), ((192, .iload_n 1, 1, 0, 0, 0, 0), (0, 0, 0)), ((193, .iadd, 1, 0, 0, 0, 0), (0, 0, 0)), ((194, .bipush (-2), 2, 0, 0, 0, 0), (0, 0, 0)), ((196, .iastore, 1, 0, 0, 0, 0), (0, 87, 0)), ((197, .aload_n 0, 1, 0, 0, 0, 0), (0, 0, 0)), ((198, .getfield 7, 3, 10, 0, 5113, 0), (1, 86, 87)), ((201, .sipush 320, 3, 0, 0, 0, 0), (0, 0, 0)), ((204, .iload_n 1, 1, 0, 0, 0, 0), (0, 0, 0)), ((205, .iadd, 1, 0, 0, 0, 0), (0, 0, 0)), ((206, .iconst 0, 1, 0, 0, 0, 0), (0, 0, 0)), ((207, .iastore, 1, 0, 0, 0, 0), (0, 87, 0)), ((208, .aload_n 0, 1, 0, 0, 0, 0), (0, 0, 0)), ((209, .getfield 7, 3, 10, 0, 5113, 0), (1, 86, 87)), ((212, .sipush 360, 3, 0, 0, 0, 0), (0, 0, 0)), ((215, .iload_n 1, 1, 0, 0, 0, 0), (0, 0, 0)), ((216, .iadd, 1, 0, 0, 0, 0), (0, 0, 0)), ((217, .iconst 0, 1, 0, 0, 0, 0), (0, 0, 0)), ((218, .iastore, 1, 0, 0, 0, 0), (0, 87, 0)), ((219, .aload_n 0, 1, 0, 0, 0, 0), (0, 0, 0)), ((220, .getfield 7, 3, 10, 0, 5113, 0), (1, 86, 87)), ((223, .sipush 400, 3, 0, 0, 0, 0), (0, 0, 0)), ((226, .iload_n 1, 1, 0, 0, 0, 0), (0, 0, 0)), ((227, .iadd, 1, 0, 0, 0, 0), (0, 0, 0)), ((228, .iconst 1, 1, 0, 0, 0, 0), (0, 0, 0)), ((229, .iastore, 1, 0, 0, 0, 0), (0, 87, 0)), ((230, .aload_n 0, 1, 0, 0, 0, 0), (0, 0, 0)), ((231, .getfield 7, 3, 10, 0, 5113, 0), (1, 86, 87)), ((234, .sipush 480, 3, 0, 0, 0, 0), (0, 0, 0)), ((237, .bipush 16, 2, 0, 0, 0, 0), (0, 0, 0)), ((239, .iload_n 1, 1, 0, 0, 0, 0), (0, 0, 0)), ((240, .imul, 1, 0, 0, 0, 0), (0, 0, 0)), ((241, .iadd, 1, 0, 0, 0, 0), (0, 0, 0)), ((242, .iload_n 3, 1, 0, 0, 0, 0), (0, 0, 0)), ((243, .iastore, 1, 0, 0, 0, 0), (0, 87, 0)), ((244, .iconst 1, 1, 0, 0, 0, 0), (0, 0, 0))] (by decide +kernel) rfl ?_
                                  exact hx_reti (by decide +kernel) (h4 c1 c2 c3 c4 c5 c6 c7 c8 c9)
                              · have c9 : (1 : Int) = 0 := by have h : ¬ ((1 : Int) ≠ 0) := c9; omega
                                exfalso; omega
                            · have c8 : ¬ (0 ≤ x7 ∧ x7 ≤ 9) := c8
                              show hxn xs n yp_m163 85 [(0, .inr (.inl 86)), (1, .inl x1), (2, .inl x2), (3, .inl x3), (4, .inl x4), (5, .inl x5), (6, .inl x6), (7, .inl x7)] [.inl 0] m Q
                              refine hx_if .ne 90 (by decide +kernel) (fun c9 => ?_) (fun c9 => ?_)
                              · have c9 : (0 : Int) ≠ 0 := c9
                                exfalso; omega
                              · have c9 : (0 : Int) = 0 := by have h : ¬ ((0 : Int) ≠ 0) := c9; omega
                                refine hx_blk (npc := 89) (L' := [(0, .inr (.inl 86)), (1, .inl x1), (2, .inl x2), (3, .inl x3), (4, .inl x4), (5, .inl x5), (6, .inl x6), (7, .inl x7)]) (st' := [.inl 0]) (m' := m) [((88, .iconst 0, 1, 0, 0, 0, 0), (0, 0, 0))] (by decide +kernel) rfl ?_
                                exact hx_reti (by decide +kernel) (h5 c1 c2 c3 c4 c5 c6 c7 c8)
                  · have c5 : ¬ (0 ≤ x5 ∧ x5 ≤ 255) := c5
                    show hxn xs n yp_m163 49 [(0, .inr (.inl 86)), (1, .inl x1), (2, .inl x2), (3, .inl x3), (4, .inl x4), (5, .inl x5), (6, .inl x6), (7, .inl x7)] [.inl 0] m Q
                    refine hx_if .eq 88 (by decide +kernel) (fun c6 => ?_) (fun c6 => ?_)
                    · have c6 : (0 : Int) = 0 := c6
                      refine hx_blk (npc := 89) (L' := [(0, .inr (.inl 86)), (1, .inl x1), (2, .inl x2), (3, .inl x3), (4, .inl x4), (5, .inl x5), (6, .inl x6), (7, .inl x7)]) (st' := [.inl 0]) (m' := m) [((88, .iconst 0, 1, 0, 0, 0, 0), (0, 0, 0))] (by decide +kernel) rfl ?_
                      exact hx_reti (by decide +kernel) (h6 c1 c2 c3 c4 c5)
                    · have c6 : (0 : Int) ≠ 0 := c6
                      exfalso; omega
              · have c4 : ¬ (0 ≤ x4 ∧ x4 ≤ 4095) := c4
                show hxn xs n yp_m163 37 [(0, .inr (.inl 86)), (1, .inl x1), (2, .inl x2), (3, .inl x3), (4, .inl x4), (5, .inl x5), (6, .inl x6), (7, .inl x7)] [.inl 0] m Q
                refine hx_if .eq 88 (by decide +kernel) (fun c5 => ?_) (fun c5 => ?_)
                · have c5 : (0 : Int) = 0 := c5
                  refine hx_blk (npc := 89) (L' := [(0, .inr (.inl 86)), (1, .inl x1), (2, .inl x2), (3, .inl x3), (4, .inl x4), (5, .inl x5), (6, .inl x6), (7, .inl x7)]) (st' := [.inl 0]) (m' := m) [((88, .iconst 0, 1, 0, 0, 0, 0), (0, 0, 0))] (by decide +kernel) rfl ?_
                  exact hx_reti (by decide +kernel) (h7 c1 c2 c3 c4)
                · have c5 : (0 : Int) ≠ 0 := c5
                  exfalso; omega
          · have c3 : ¬ (aPers (m 87) x3) := c3
            show hxn xs n yp_m163 25 [(0, .inr (.inl 86)), (1, .inl x1), (2, .inl x2), (3, .inl x3), (4, .inl x4), (5, .inl x5), (6, .inl x6), (7, .inl x7)] [.inl 0] m Q
            refine hx_if .eq 88 (by decide +kernel) (fun c4 => ?_) (fun c4 => ?_)
            · have c4 : (0 : Int) = 0 := c4
              refine hx_blk (npc := 89) (L' := [(0, .inr (.inl 86)), (1, .inl x1), (2, .inl x2), (3, .inl x3), (4, .inl x4), (5, .inl x5), (6, .inl x6), (7, .inl x7)]) (st' := [.inl 0]) (m' := m) [((88, .iconst 0, 1, 0, 0, 0, 0), (0, 0, 0))] (by decide +kernel) rfl ?_
              exact hx_reti (by decide +kernel) (h8 c1 c2 c3)
            · have c4 : (0 : Int) ≠ 0 := c4
              exfalso; omega
      · have c2 : ¬ (0 ≤ x2 ∧ x2 ≤ 99) := c2
        show hxn xs n yp_m163 17 [(0, .inr (.inl 86)), (1, .inl x1), (2, .inl x2), (3, .inl x3), (4, .inl x4), (5, .inl x5), (6, .inl x6), (7, .inl x7)] [.inl 0] m Q
        refine hx_if .eq 88 (by decide +kernel) (fun c3 => ?_) (fun c3 => ?_)
        · have c3 : (0 : Int) = 0 := c3
          refine hx_blk (npc := 89) (L' := [(0, .inr (.inl 86)), (1, .inl x1), (2, .inl x2), (3, .inl x3), (4, .inl x4), (5, .inl x5), (6, .inl x6), (7, .inl x7)]) (st' := [.inl 0]) (m' := m) [((88, .iconst 0, 1, 0, 0, 0, 0), (0, 0, 0))] (by decide +kernel) rfl ?_
          exact hx_reti (by decide +kernel) (h9 c1 c2)
        · have c3 : (0 : Int) ≠ 0 := c3
          exfalso; omega
  · have c1 : ¬ (0 ≤ x1 ∧ x1 ≤ 39) := c1
    show hxn xs n yp_m163 7 [(0, .inr (.inl 86)), (1, .inl x1), (2, .inl x2), (3, .inl x3), (4, .inl x4), (5, .inl x5), (6, .inl x6), (7, .inl x7)] [.inl 0] m Q
    refine hx_if .eq 88 (by decide +kernel) (fun c2 => ?_) (fun c2 => ?_)
    · have c2 : (0 : Int) = 0 := c2
      refine hx_blk (npc := 89) (L' := [(0, .inr (.inl 86)), (1, .inl x1), (2, .inl x2), (3, .inl x3), (4, .inl x4), (5, .inl x5), (6, .inl x6), (7, .inl x7)]) (st' := [.inl 0]) (m' := m) [((88, .iconst 0, 1, 0, 0, 0, 0), (0, 0, 0))] (by decide +kernel) rfl ?_
      exact hx_reti (by decide +kernel) (h10 c1)
    · have c2 : (0 : Int) ≠ 0 := c2
      exfalso; omega

/-- yearMany from 0 on -/
theorem hr270_0 {xs : List Int32} {n : Nat} {Q : hQ} {m : gx_M}
    (h1 : hxn xs n yp_m270 4 [(0, .inr (.inl 86)), (1, .inl 0), (2, .inl 0)] [] m Q) : hxn xs (n + 1) yp_m270 0 [(0, .inr (.inl 86))] [] m Q := by
  refine hx_blks (npc := 4) (L' := [(0, .inr (.inl 86)), (1, .inl 0), (2, .inl 0)]) (st' := []) (m' := m) ((0, .iconst 0, 1, 0, 0, 0, 0), (0, 0, 0)) [((1, .istore_n 1, 1, 0, 0, 0, 0), (0, 0, 0)), ((2, .iconst 0, 1, 0, 0, 0, 0), (0, 0, 0)), ((3, .istore_n 2, 1, 0, 0, 0, 0), (0, 0, 0))] (by decide +kernel) rfl ?_
  exact hx_pick [0, 1, 2] h1

/-- yearMany from 4 on -/
theorem hr270_4 {xs : List Int32} {n : Nat} {Q : hQ} {m : gx_M} {x1 x2 : Int} (r_x1 : 0 ≤ x1 ∧ x1 ≤ 40) (r_x2 : 0 ≤ x2 ∧ x2 ≤ 40)
    (h1 : (40 ≤ x2) → Q (some (.inl x1)) m)
    (h2 : (x2 < 40) → hxn xs n yp_m270 4 [(0, .inr (.inl 86)), (1, .inl (gx_w (x1 + (m 87 (440 + x2).toNat)))), (2, .inl (x2 + 1))] [] m Q) : hxn xs (n + 1) yp_m270 4 [(0, .inr (.inl 86)), (1, .inl x1), (2, .inl x2)] [] m Q := by
  refine hx_blks (npc := 7) (L' := [(0, .inr (.inl 86)), (1, .inl x1), (2, .inl x2)]) (st' := [.inl 40, .inl x2]) (m' := m) ((4, .iload_n 2, 1, 0, 0, 0, 0), (0, 0, 0)) [((5, .bipush 40, 2, 0, 0, 0, 0), (0, 0, 0))] (by decide +kernel) rfl ?_
  refine hx_cmp .ge 29 (by decide +kernel) (fun c1 => ?_) (fun c1 => ?_)
  · have c1 : 40 ≤ x2 := c1
    refine hx_blk (npc := 30) (L' := [(0, .inr (.inl 86)), (1, .inl x1), (2, .inl x2)]) (st' := [.inl x1]) (m' := m) [((29, .iload_n 1, 1, 0, 0, 0, 0), (0, 0, 0))] (by decide +kernel) rfl ?_
    exact hx_reti (by decide +kernel) (h1 c1)
  · have c1 : x2 < 40 := by have h : ¬ (40 ≤ x2) := c1; omega
    have e1 : gx_w (440 + x2) = 440 + x2 := gx_w_id (by omega) (by omega)
    have e2 : gx_w (x2 + 1) = x2 + 1 := gx_w_id (by omega) (by omega)
    refine hx_blk (npc := 4) (L' := [(0, .inr (.inl 86)), (1, .inl (gx_w (x1 + (m 87 (gx_w (440 + x2)).toNat)))), (2, .inl (gx_w (x2 + 1)))]) (st' := []) (m' := m) [((10, .iload_n 1, 1, 0, 0, 0, 0), (0, 0, 0)), ((11, .aload_n 0, 1, 0, 0, 0, 0), (0, 0, 0)), ((12, .getfield 7, 3, 10, 0, 5113, 0), (1, 86, 87)), ((15, .sipush 440, 3, 0, 0, 0, 0), (0, 0, 0)), ((18, .iload_n 2, 1, 0, 0, 0, 0), (0, 0, 0)), ((19, .iadd, 1, 0, 0, 0, 0), (0, 0, 0)), ((20, .iaload, 1, 0, 0, 0, 0), (0, 87, 0)), ((21, .iadd, 1, 0, 0, 0, 0), (0, 0, 0)), ((22, .istore_n 1, 1, 0, 0, 0, 0), (0, 0, 0)), ((23, .iinc 2 1, 3, 0, 0, 0, 0), (0, 0, 0)), ((26, .goto (-22), 3, 0, 0, 0, 0), (0, 0, 0))] (by decide +kernel) rfl ?_
    rw [e1, e2]
    exact hx_pick [0, 1, 2] (h2 c1)

/-- keep from 0 on -/
theorem hr269_0 {xs : List Int32} {n : Nat} {Q : hQ} {m : gx_M}
    (h1 : hxn xs n yp_m270 0 [(0, .inr (.inl 86))] [] (hcopy (gx_u m 86 47 1) 87 0 89 0 1131) (fun r m' => hxn xs n yp_m269 20 [] (hrs r ++ []) m' Q)) : hxn xs (n + 1) yp_m269 0 [(0, .inr (.inl 86))] [] m Q := by
  refine hx_blks (npc := 13) (L' := [(0, .inr (.inl 86))]) (st' := [.inr (.inl 89), .inr (.inl 87)]) (m' := (gx_u m 86 47 1)) ((0, .aload_n 0, 1, 0, 0, 0, 0), (0, 0, 0)) [((1, .iconst 1, 1, 0, 0, 0, 0), (0, 0, 0)), ((2, .putfield 416, 3, 10, 47, 5160, 0), (0, 86, 0)), ((5, .aload_n 0, 1, 0, 0, 0, 0), (0, 0, 0)), ((6, .getfield 7, 3, 10, 0, 5113, 0), (1, 86, 87)), ((9, .aload_n 0, 1, 0, 0, 0, 0), (0, 0, 0)), ((10, .getfield 16, 3, 10, 2, 5115, 0), (1, 86, 89))] (by decide +kernel) rfl ?_
  refine hx_call (E := (13, .invokestatic 290, 3, 212, 0, 6217, 0)) (M' := yp_m212) [.inr (.inl 87), .inr (.inl 89)] [] rfl (by decide +kernel) rfl ⟨rfl, rfl⟩ rfl rfl (hs212_87_89 ?_)
  show hxn xs n yp_m269 16 [(0, .inr (.inl 86))] [] (hcopy (gx_u m 86 47 1) 87 0 89 0 1131) Q
  refine hx_blk (npc := 17) (L' := [(0, .inr (.inl 86))]) (st' := [.inr (.inl 86)]) (m' := (hcopy (gx_u m 86 47 1) 87 0 89 0 1131)) [((16, .aload_n 0, 1, 0, 0, 0, 0), (0, 0, 0))] (by decide +kernel) rfl ?_
  exact hx_call (E := (17, .invokevirtual 420, 3, 270, 0, 7210, 0)) (M' := yp_m270) [.inr (.inl 86)] [] rfl (by decide +kernel) rfl ⟨rfl, rfl⟩ rfl rfl (hx_mono h1 (fun r m' h' => hx_pick [] h'))

/-- keep from 20 on -/
theorem hr269_20 {xs : List Int32} {n : Nat} {Q : hQ} {m : gx_M} {s0 : Int}
    (h1 : Q (some (.inl s0)) m) : hxn xs (n + 1) yp_m269 20 [] [.inl s0] m Q := by
  exact hx_reti (by decide +kernel) h1

/-- undo from 0 on -/
theorem hr271_0 {xs : List Int32} {n : Nat} {Q : hQ} {m : gx_M}
    (h1 : ((m 86 47) ≠ 0) → Q (some (.inl 1)) (hcopy m 89 0 87 0 1131))
    (h2 : ((m 86 47) = 0) → Q (some (.inl 0)) m) : hxn xs (n + 1) yp_m271 0 [(0, .inr (.inl 86))] [] m Q := by
  refine hx_blks (npc := 4) (L' := [(0, .inr (.inl 86))]) (st' := [.inl (m 86 47)]) (m' := m) ((0, .aload_n 0, 1, 0, 0, 0, 0), (0, 0, 0)) [((1, .getfield 416, 3, 10, 47, 5160, 0), (0, 86, 0))] (by decide +kernel) rfl ?_
  refine hx_if .ne 9 (by decide +kernel) (fun c1 => ?_) (fun c1 => ?_)
  · have c1 : (m 86 47) ≠ 0 := c1
    refine hx_blk (npc := 17) (L' := [(0, .inr (.inl 86))]) (st' := [.inr (.inl 87), .inr (.inl 89)]) (m' := m) [((9, .aload_n 0, 1, 0, 0, 0, 0), (0, 0, 0)), ((10, .getfield 16, 3, 10, 2, 5115, 0), (1, 86, 89)), ((13, .aload_n 0, 1, 0, 0, 0, 0), (0, 0, 0)), ((14, .getfield 7, 3, 10, 0, 5113, 0), (1, 86, 87))] (by decide +kernel) rfl ?_
    refine hx_call (E := (17, .invokestatic 290, 3, 212, 0, 6217, 0)) (M' := yp_m212) [.inr (.inl 89), .inr (.inl 87)] [] rfl (by decide +kernel) rfl ⟨rfl, rfl⟩ rfl rfl (hs212_89_87 ?_)
    show hxn xs n yp_m271 20 [(0, .inr (.inl 86))] [] (hcopy m 89 0 87 0 1131) Q
    refine hx_blk (npc := 21) (L' := [(0, .inr (.inl 86))]) (st' := [.inl 1]) (m' := (hcopy m 89 0 87 0 1131)) [((20, .iconst 1, 1, 0, 0, 0, 0), (0, 0, 0))] (by decide +kernel) rfl ?_
    exact hx_reti (by decide +kernel) (h1 c1)
  · have c1 : (m 86 47) = 0 := by have h : ¬ ((m 86 47) ≠ 0) := c1; omega
    refine hx_blk (npc := 8) (L' := [(0, .inr (.inl 86))]) (st' := [.inl 0]) (m' := m) [((7, .iconst 0, 1, 0, 0, 0, 0), (0, 0, 0))] (by decide +kernel) rfl ?_
    exact hx_reti (by decide +kernel) (h2 c1)

/-- seed from 0 on -/
theorem hr268_0 {xs : List Int32} {n : Nat} {Q : hQ} {m : gx_M} {x1 : Int}
    (h1 : (0 ≤ x1 ∧ x1 ≤ 65535) → Q (some (.inl 1)) (gx_u m 87 1130 x1))
    (h2 : (¬ (0 ≤ x1 ∧ x1 ≤ 65535)) → Q (some (.inl 0)) m) : hxn xs (n + 1) yp_m268 0 [(0, .inr (.inl 86)), (1, .inl x1)] [] m Q := by
  refine hx_blks (npc := 5) (L' := [(0, .inr (.inl 86)), (1, .inl x1)]) (st' := [.inl 65535, .inl 0, .inl x1]) (m' := m) ((0, .iload_n 1, 1, 0, 0, 0, 0), (0, 0, 0)) [((1, .iconst 0, 1, 0, 0, 0, 0), (0, 0, 0)), ((2, .ldc_w 415, 3, 0, 0, 7205, 65535), (0, 0, 0))] (by decide +kernel) rfl ?_
  refine hx_call (E := (5, .invokestatic 108, 3, 162, 0, 6023, 0)) (M' := yp_m162) [.inl x1, .inl 0, .inl 65535] [] rfl (by decide +kernel) rfl ⟨rfl, rfl⟩ rfl rfl (hs162 (fun c1 => ?_) (fun c1 => ?_))
  · have c1 : 0 ≤ x1 ∧ x1 ≤ 65535 := c1
    show hxn xs n yp_m268 8 [(0, .inr (.inl 86)), (1, .inl x1)] [.inl 1] m Q
    refine hx_if .ne 13 (by decide +kernel) (fun c2 => ?_) (fun c2 => ?_)
    · have c2 : (1 : Int) ≠ 0 := c2
      refine hx_blk (npc := 23) (L' := [(0, .inr (.inl 86)), (1, .inl x1)]) (st' := [.inl 1]) (m' := (gx_u m 87 1130 x1)) [((13, .aload_n 0, 1, 0, 0, 0, 0), (0, 0, 0)), ((14, .getfield 7, 3, 10, 0, 5113, 0), (1, 86, 87)), ((17, .sipush 1130, 3, 0, 0, 0, 0), (0, 0, 0)), ((20, .iload_n 1, 1, 0, 0, 0, 0), (0, 0, 0)), ((21, .iastore, 1, 0, 0, 0, 0), (0, 87, 0)), ((22, .iconst 1, 1, 0, 0, 0, 0), (0, 0, 0))] (by decide +kernel) rfl ?_
      exact hx_reti (by decide +kernel) (h1 c1)
    · have c2 : (1 : Int) = 0 := by have h : ¬ ((1 : Int) ≠ 0) := c2; omega
      exfalso; omega
  · have c1 : ¬ (0 ≤ x1 ∧ x1 ≤ 65535) := c1
    show hxn xs n yp_m268 8 [(0, .inr (.inl 86)), (1, .inl x1)] [.inl 0] m Q
    refine hx_if .ne 13 (by decide +kernel) (fun c2 => ?_) (fun c2 => ?_)
    · have c2 : (0 : Int) ≠ 0 := c2
      exfalso; omega
    · have c2 : (0 : Int) = 0 := by have h : ¬ ((0 : Int) ≠ 0) := c2; omega
      refine hx_blk (npc := 12) (L' := [(0, .inr (.inl 86)), (1, .inl x1)]) (st' := [.inl 0]) (m' := m) [((11, .iconst 0, 1, 0, 0, 0, 0), (0, 0, 0))] (by decide +kernel) rfl ?_
      exact hx_reti (by decide +kernel) (h2 c1)
end
section
/-! what stands still between tellings: persons, years there, dates, livers, skills, met, deeds, marks; kept ones, too -/
def hSt (b a : Nat) (m : gx_M) : Prop :=
  m b 0 = m a 1128 ∧ m b 1 = ((hmask (fun y => decide (m a (440 + y) = 1)) 40 : Nat) : Int) ∧ m b 2 = ((hmask (fun y => decide (m a (160 + y) = 1)) 40 : Nat) : Int) ∧
  (∀ j y, 2 ≤ j → j ≤ 6 → y < 40 → m (b + j) y = m a ((if j = 6 then 200 else 40 * (j - 2)) + y)) ∧
  ∀ y, y < 40 → (m a (440 + y) = 0 ∨ m a (440 + y) = 1) ∧ (m a (160 + y) = 0 ∨ m a (160 + y) = 1)
theorem hSt_mv {b a b' a' : Nat} {m m' : gx_M} (h : hSt b a m) (e0 : m' b' 0 = m' a' 1128) (e1 : m' b' 1 = m b 1) (e2 : m' b' 2 = m b 2) (e3 : ∀ j y, 2 ≤ j → j ≤ 6 → y < 40 → m' (b' + j) y = m (b + j) y) (e4 : ∀ k, k < 240 ∨ (440 ≤ k ∧ k < 480) → m' a' k = m a k) : hSt b' a' m' := by
  obtain ⟨h0, h1, h2, h3, h4⟩ := h
  refine ⟨e0, ?_, ?_, fun j y hj1 hj2 hy => ?_, fun y hy => ?_⟩
  · rw [e1, h1]
    refine congrArg (fun x : Nat => (x : Int)) (hmask_ext 40 (fun j hj => ?_))
    show decide (m a (440 + j) = 1) = decide (m' a' (440 + j) = 1)
    rw [e4 (440 + j) (by omega)]
  · rw [e2, h2]
    refine congrArg (fun x : Nat => (x : Int)) (hmask_ext 40 (fun j hj => ?_))
    show decide (m a (160 + j) = 1) = decide (m' a' (160 + j) = 1)
    rw [e4 (160 + j) (by omega)]
  · rw [e3 j y hj1 hj2 hy, h3 j y hj1 hj2 hy, e4 _ (by left; split <;> omega)]
  · rw [e4 (440 + y) (by omega), e4 (160 + y) (by omega)]
    exact h4 y hy
def hRS (m : gx_M) : Prop := hSt 5 87 m ∧ m 0 12 = m 86 47 ∧ (m 86 47 ≠ 0 → hSt 18 89 m)
def hPS : List (Nat × Nat × Nat) := [(5, 0, 3), (7, 0, 40), (8, 0, 40), (9, 0, 40), (10, 0, 40), (11, 0, 40), (18, 0, 3), (20, 0, 40), (21, 0, 40), (22, 0, 40), (23, 0, 40), (24, 0, 40), (0, 12, 13), (86, 47, 48), (87, 0, 240), (87, 440, 480), (87, 1128, 1129), (89, 0, 240), (89, 440, 480), (89, 1128, 1129)]
def hAg (P : List (Nat × Nat × Nat)) (m m' : gx_M) : Prop := ∀ q ∈ P, ∀ k, q.2.1 ≤ k → k < q.2.2 → m' q.1 k = m q.1 k
theorem hAg.tr {P : List (Nat × Nat × Nat)} {m m1 m2 : gx_M} (h : hAg P m m1) (h' : hAg P m1 m2) : hAg P m m2 := fun q hq k h1 h2 => (h' q hq k h1 h2).trans (h q hq k h1 h2)
theorem hAg.at {P : List (Nat × Nat × Nat)} {m m' : gx_M} (h : hAg P m m') (c lo hi : Nat) (hm' : (c, lo, hi) ∈ P) {k : Nat} (h1 : lo ≤ k) (h2 : k < hi) : m' c k = m c k := h (c, lo, hi) hm' k h1 h2
theorem hRS_c {m m' : gx_M} (h : hAg hPS m m') (hR : hRS m) : hRS m' := by
  obtain ⟨h1, h2, h3⟩ := hR
  have f : m' 86 47 = m 86 47 := h.at 86 47 48 (by decide) (by omega) (by omega)
  have hj : ∀ j, 2 ≤ j → j ≤ 6 → (5 + j, 0, 40) ∈ hPS ∧ (18 + j, 0, 40) ∈ hPS := fun j a b => by
    have : j = 2 ∨ j = 3 ∨ j = 4 ∨ j = 5 ∨ j = 6 := by omega
    rcases this with rfl | rfl | rfl | rfl | rfl <;> decide
  refine ⟨hSt_mv h1 ?_ (h.at 5 0 3 (by decide) (by omega) (by omega)) (h.at 5 0 3 (by decide) (by omega) (by omega)) (fun j y a b hy => h.at (5 + j) 0 40 (hj j a b).1 (by omega) hy) (fun k hk => ?_), ?_, fun hn => ?_⟩
  · rw [h.at 5 0 3 (by decide) (by omega) (by omega), h.at 87 1128 1129 (by decide) (by omega) (by omega)]
    exact h1.1
  · rcases hk with hk | ⟨ha, hb⟩
    · exact h.at 87 0 240 (by decide) (by omega) hk
    · exact h.at 87 440 480 (by decide) ha hb
  · rw [f, h.at 0 12 13 (by decide) (by omega) (by omega)]
    exact h2
  · have h3 := h3 (by rw [← f]; exact hn)
    refine hSt_mv h3 ?_ (h.at 18 0 3 (by decide) (by omega) (by omega)) (h.at 18 0 3 (by decide) (by omega) (by omega)) (fun j y a b hy => h.at (18 + j) 0 40 (hj j a b).2 (by omega) hy) (fun k hk => ?_)
    · rw [h.at 18 0 3 (by decide) (by omega) (by omega), h.at 89 1128 1129 (by decide) (by omega) (by omega)]
      exact h3.1
    · rcases hk with hk | ⟨ha, hb⟩
      · exact h.at 89 0 240 (by decide) (by omega) hk
      · exact h.at 89 440 480 (by decide) ha hb
/-! bits of the persons, by both -/
theorem hb01 (x k : Int) : gx_and (gx_shr x k) 1 = 0 ∨ gx_and (gx_shr x k) 1 = 1 := by
  have := gx_and_bd (gx_shr x k) 1 (by decide)
  omega
theorem hPers_eq {b a : Nat} {m : gx_M} {p : Int} (h : m b 0 = m a 1128) : cPers b m p ↔ aPers (m a) p := by
  unfold cPers aPers
  rw [h]
  have := hb01 (m a 1128) p
  constructor
  · exact fun ⟨h1, h2, h3⟩ => ⟨h1, h2, by omega⟩
  · exact fun ⟨h1, h2, h3⟩ => ⟨h1, h2, by omega⟩
/-! a person -/
theorem hw_person {xs : List Int32} {n : Nat} {m : gx_M} {x1 x2 : Int} (hR : hRS m) : hxn xs n yp_m11 0 [(0, .inr (.inl 0)), (1, .inl x1), (2, .inl x2)] [] m (fun r1 m1 => ∃ v, r1 = some (.inl v) ∧ hxn xs n yp_m161 0 [(0, .inr (.inl 86)), (1, .inl x1), (2, .inl x2)] [] m1 (fun r2 m2 => r2 = some (.inl v) ∧ hRS m2)) := by
  have hno : (¬ (0 ≤ x1 ∧ x1 ≤ 7) ∨ ¬ (0 ≤ x2 ∧ x2 ≤ 99999)) → ∃ v, (some (.inl 0) : Option hV) = some (.inl v) ∧ hxn xs n yp_m161 0 [(0, .inr (.inl 86)), (1, .inl x1), (2, .inl x2)] [] m (fun r2 m2 => r2 = some (.inl v) ∧ hRS m2) := fun hn =>
    ⟨0, rfl, hx_dn (hr161_0 (fun a b => absurd hn (by omega)) (fun _ _ => ⟨rfl, hR⟩) (fun _ => ⟨rfl, hR⟩))⟩
  refine hx_dn (hr11_0 (fun _ => hno (by omega)) (fun _ _ => hno (by omega)) (fun _ _ _ => hno (by omega)) (fun a b c d => ?_) (fun _ _ _ _ => hno (by omega)))
  refine ⟨1, rfl, hx_dn (hr161_0 (fun _ _ => ⟨rfl, ?_⟩) (fun _ hn => absurd hn (by omega)) (fun hn => absurd hn (by omega)))⟩
  obtain ⟨h1, h2, h3⟩ := hR
  have hidx : (gx_w (1120 + x1)).toNat = 1120 + x1.toNat := by rw [gx_w_id (by omega) (by omega)]; omega
  rw [hidx]
  obtain ⟨M, hM⟩ : ∃ M, M = gx_u (gx_u (gx_u (gx_u m 5 0 (gx_or (m 5 0) (gx_shl 1 x1))) 6 x1.toNat x2) 87 1128 (gx_or (gx_u (gx_u m 5 0 (gx_or (m 5 0) (gx_shl 1 x1))) 6 x1.toNat x2 87 1128) (gx_shl 1 x1))) 87 (1120 + x1.toNat) x2 := ⟨_, rfl⟩
  rw [← hM]
  have rd : ∀ c k, ¬ (c = 5 ∧ k = 0) → ¬ (c = 6) → ¬ (c = 87 ∧ 1120 ≤ k) → M c k = m c k := fun c k a1 a2 a3 => by
    rw [hM, gx_u_ne (by omega), gx_u_ne (by omega), gx_u_ne (by omega), gx_u_ne (by omega)]
  refine ⟨hSt_mv h1 ?_ (rd _ _ (by omega) (by omega) (by omega)) (rd _ _ (by omega) (by omega) (by omega)) (fun j y a1 a2 a3 => rd _ _ (by omega) (by omega) (by omega)) (fun k hk => rd _ _ (by omega) (by omega) (by omega)), ?_, fun hn => ?_⟩
  · rw [hM, gx_u_ne (by omega), gx_u_ne (by omega), gx_u_ne (by omega), gx_u_self, gx_u_ne (by omega), gx_u_self, gx_u_ne (by omega), gx_u_ne (by omega), h1.1]
  · rw [rd _ _ (by omega) (by omega) (by omega), rd _ _ (by omega) (by omega) (by omega)]
    exact h2
  · rw [rd _ _ (by omega) (by omega) (by omega)] at hn
    have h3 := h3 hn
    exact hSt_mv h3 (by rw [rd _ _ (by omega) (by omega) (by omega), rd _ _ (by omega) (by omega) (by omega)]; exact h3.1) (rd _ _ (by omega) (by omega) (by omega)) (rd _ _ (by omega) (by omega) (by omega)) (fun j y a1 a2 a3 => rd _ _ (by omega) (by omega) (by omega)) (fun k hk => rd _ _ (by omega) (by omega) (by omega))
/-! a year -/
theorem hyr_ref {m : gx_M} {Y : Nat} (hY : Y < 40) {v1 v2 v3 v4 v5 v6 v7 v8 v9 v10 v11 v12 v13 : Int} {M : gx_M} (hM : M = gx_u (gx_u (gx_u (gx_u (gx_u (gx_u (gx_u (gx_u (gx_u (gx_u (gx_u (gx_u (gx_u m 87 (gx_w (440 + (Y : Int))).toNat v1) 87 (gx_w (0 + (Y : Int))).toNat v2) 87 (gx_w (40 + (Y : Int))).toNat v3) 87 (gx_w (80 + (Y : Int))).toNat v4) 87 (gx_w (120 + (Y : Int))).toNat v5) 87 (gx_w (160 + (Y : Int))).toNat v6) 87 (gx_w (200 + (Y : Int))).toNat v7) 87 (gx_w (240 + (Y : Int))).toNat v8) 87 (gx_w (280 + (Y : Int))).toNat v9) 87 (gx_w (320 + (Y : Int))).toNat v10) 87 (gx_w (360 + (Y : Int))).toNat v11) 87 (gx_w (400 + (Y : Int))).toNat v12) 87 (gx_w (480 + (gx_w (16 * (Y : Int))))).toNat v13) :
    (M 87 (440 + Y) = v1 ∧ M 87 Y = v2 ∧ M 87 (40 + Y) = v3 ∧ M 87 (80 + Y) = v4 ∧ M 87 (120 + Y) = v5 ∧ M 87 (160 + Y) = v6 ∧ M 87 (200 + Y) = v7 ∧ M 87 (240 + Y) = v8 ∧ M 87 (280 + Y) = v9 ∧ M 87 (320 + Y) = v10 ∧ M 87 (360 + Y) = v11 ∧ M 87 (400 + Y) = v12 ∧ M 87 (480 + 16 * Y) = v13) ∧ (∀ c k, ¬ (c = 87 ∧ (k < 480 ∧ k % 40 = Y ∨ k = 480 + 16 * Y)) → M c k = m c k) := by
  have w : ∀ z : Nat, z ≤ 2000 → (gx_w ((z : Int) + (Y : Int))).toNat = z + Y := fun z hz => by rw [gx_w_id (by omega) (by omega)]; omega
  have w48 : (gx_w (480 + (gx_w (16 * (Y : Int))))).toNat = 480 + 16 * Y := by rw [gx_w_id (x := 16 * (Y : Int)) (by omega) (by omega), gx_w_id (by omega) (by omega)]; omega
  have w0 := w 0 (by omega); have w4 := w 40 (by omega); have w8 := w 80 (by omega); have w12 := w 120 (by omega); have w16 := w 160 (by omega); have w20 := w 200 (by omega); have w24 := w 240 (by omega); have w28 := w 280 (by omega); have w32 := w 320 (by omega); have w36 := w 360 (by omega); have w40 := w 400 (by omega); have w44 := w 440 (by omega)
  have c0 : ((0 : Nat) : Int) = 0 := rfl
  have c4 : ((40 : Nat) : Int) = 40 := rfl
  have c8 : ((80 : Nat) : Int) = 80 := rfl
  have c12 : ((120 : Nat) : Int) = 120 := rfl
  have c16 : ((160 : Nat) : Int) = 160 := rfl
  have c20 : ((200 : Nat) : Int) = 200 := rfl
  have c24 : ((240 : Nat) : Int) = 240 := rfl
  have c28 : ((280 : Nat) : Int) = 280 := rfl
  have c32 : ((320 : Nat) : Int) = 320 := rfl
  have c36 : ((360 : Nat) : Int) = 360 := rfl
  have c40 : ((400 : Nat) : Int) = 400 := rfl
  have c44 : ((440 : Nat) : Int) = 440 := rfl
  rw [c0] at w0; rw [c4] at w4; rw [c8] at w8; rw [c12] at w12; rw [c16] at w16; rw [c20] at w20; rw [c24] at w24; rw [c28] at w28; rw [c32] at w32; rw [c36] at w36; rw [c40] at w40; rw [c44] at w44
  rw [w0, w4, w8, w12, w16, w20, w24, w28, w32, w36, w40, w44, w48] at hM
  clear w w0 w4 w8 w12 w16 w20 w24 w28 w32 w36 w40 w44 w48
  refine ⟨⟨?_, ?_, ?_, ?_, ?_, ?_, ?_, ?_, ?_, ?_, ?_, ?_, ?_⟩, fun c k hn => ?_⟩
  · rw [hM, gx_u_ne (by omega), gx_u_ne (by omega), gx_u_ne (by omega), gx_u_ne (by omega), gx_u_ne (by omega), gx_u_ne (by omega), gx_u_ne (by omega), gx_u_ne (by omega), gx_u_ne (by omega), gx_u_ne (by omega), gx_u_ne (by omega), gx_u_ne (by omega), gx_u_self]
  · have e : (0 + Y) = Y := by omega
    rw [hM, gx_u_ne (by omega), gx_u_ne (by omega), gx_u_ne (by omega), gx_u_ne (by omega), gx_u_ne (by omega), gx_u_ne (by omega), gx_u_ne (by omega), gx_u_ne (by omega), gx_u_ne (by omega), gx_u_ne (by omega), gx_u_ne (by omega), e, gx_u_self]
  · rw [hM, gx_u_ne (by omega), gx_u_ne (by omega), gx_u_ne (by omega), gx_u_ne (by omega), gx_u_ne (by omega), gx_u_ne (by omega), gx_u_ne (by omega), gx_u_ne (by omega), gx_u_ne (by omega), gx_u_ne (by omega), gx_u_self]
  · rw [hM, gx_u_ne (by omega), gx_u_ne (by omega), gx_u_ne (by omega), gx_u_ne (by omega), gx_u_ne (by omega), gx_u_ne (by omega), gx_u_ne (by omega), gx_u_ne (by omega), gx_u_ne (by omega), gx_u_self]
  · rw [hM, gx_u_ne (by omega), gx_u_ne (by omega), gx_u_ne (by omega), gx_u_ne (by omega), gx_u_ne (by omega), gx_u_ne (by omega), gx_u_ne (by omega), gx_u_ne (by omega), gx_u_self]
  · rw [hM, gx_u_ne (by omega), gx_u_ne (by omega), gx_u_ne (by omega), gx_u_ne (by omega), gx_u_ne (by omega), gx_u_ne (by omega), gx_u_ne (by omega), gx_u_self]
  · rw [hM, gx_u_ne (by omega), gx_u_ne (by omega), gx_u_ne (by omega), gx_u_ne (by omega), gx_u_ne (by omega), gx_u_ne (by omega), gx_u_self]
  · rw [hM, gx_u_ne (by omega), gx_u_ne (by omega), gx_u_ne (by omega), gx_u_ne (by omega), gx_u_ne (by omega), gx_u_self]
  · rw [hM, gx_u_ne (by omega), gx_u_ne (by omega), gx_u_ne (by omega), gx_u_ne (by omega), gx_u_self]
  · rw [hM, gx_u_ne (by omega), gx_u_ne (by omega), gx_u_ne (by omega), gx_u_self]
  · rw [hM, gx_u_ne (by omega), gx_u_ne (by omega), gx_u_self]
  · rw [hM, gx_u_ne (by omega), gx_u_self]
  · rw [hM, gx_u_self]
  · rw [hM, gx_u_ne (by omega), gx_u_ne (by omega), gx_u_ne (by omega), gx_u_ne (by omega), gx_u_ne (by omega), gx_u_ne (by omega), gx_u_ne (by omega), gx_u_ne (by omega), gx_u_ne (by omega), gx_u_ne (by omega), gx_u_ne (by omega), gx_u_ne (by omega), gx_u_ne (by omega)]
def yrOK (s : Nat → Int) (x1 x2 x3 x4 x5 x7 : Int) : Prop := (0 ≤ x1 ∧ x1 ≤ 39) ∧ (0 ≤ x2 ∧ x2 ≤ 99) ∧ aPers s x3 ∧ (0 ≤ x4 ∧ x4 ≤ 4095) ∧ (0 ≤ x5 ∧ x5 ≤ 255) ∧ (¬ (gx_and (gx_shr x5 x3) 1 = 1)) ∧ (gx_and x5 (gx_xor (s 1128) (-1))) = 0 ∧ (0 ≤ x7 ∧ x7 ≤ 9)
def yrM (m : gx_M) (x1 x2 x3 x4 x5 x6 x7 : Int) : gx_M := gx_u (gx_u (gx_u (gx_u (gx_u (gx_u (gx_u (gx_u (gx_u (gx_u (gx_u (gx_u (gx_u m 87 (gx_w (440 + x1)).toNat 1) 87 (gx_w (0 + x1)).toNat x2) 87 (gx_w (40 + x1)).toNat x3) 87 (gx_w (80 + x1)).toNat x4) 87 (gx_w (120 + x1)).toNat x5) 87 (gx_w (160 + x1)).toNat x6) 87 (gx_w (200 + x1)).toNat x7) 87 (gx_w (240 + x1)).toNat x3) 87 (gx_w (280 + x1)).toNat (-2)) 87 (gx_w (320 + x1)).toNat 0) 87 (gx_w (360 + x1)).toNat 0) 87 (gx_w (400 + x1)).toNat 1) 87 (gx_w (480 + (gx_w (16 * x1)))).toNat x3
theorem hs163 {xs : List Int32} {n : Nat} {Q : hQ} {m : gx_M} {x1 x2 x3 x4 x5 x6 x7 : Int} (h1 : yrOK (m 87) x1 x2 x3 x4 x5 x7 → Q (some (.inl 1)) (yrM m x1 x2 x3 x4 x5 (if x6 = 0 then 0 else 1) x7)) (h0 : ¬ yrOK (m 87) x1 x2 x3 x4 x5 x7 → Q (some (.inl 0)) m) : hxn xs n yp_m163 0 [(0, .inr (.inl 86)), (1, .inl x1), (2, .inl x2), (3, .inl x3), (4, .inl x4), (5, .inl x5), (6, .inl x6), (7, .inl x7)] [] m Q := by
  refine hx_dn (hr163_0 (fun _ _ _ _ _ c => h0 (fun ok => ok.2.2.2.2.2.1 c)) (fun _ _ _ _ _ _ c => h0 (fun ok => c ok.2.2.2.2.2.2.1)) (fun a1 a2 a3 a4 a5 a6 a7 a8 a9 => ?_) (fun a1 a2 a3 a4 a5 a6 a7 a8 a9 => ?_) (fun _ _ _ _ _ _ _ c => h0 (fun ok => c ok.2.2.2.2.2.2.2)) (fun _ _ _ _ c => h0 (fun ok => c ok.2.2.2.2.1)) (fun _ _ _ c => h0 (fun ok => c ok.2.2.2.1)) (fun _ _ c => h0 (fun ok => c ok.2.2.1)) (fun _ c => h0 (fun ok => c ok.2.1)) (fun c => h0 (fun ok => c ok.1)))
  · have := h1 ⟨a1, a2, a3, a4, a5, a6, a7, a8⟩
    rw [if_pos a9] at this
    exact this
  · have := h1 ⟨a1, a2, a3, a4, a5, a6, a7, a8⟩
    rw [if_neg a9] at this
    exact this
/-- the memory behind the class's year -/
def yrC (m m1 : gx_M) (Y : Nat) (x2 x3 x4 x5 x6 x7 : Int) : Prop := hFr hFv (gx_u (gx_u (gx_u (gx_u (gx_u (gx_u (gx_u (gx_u m 7 Y x2) 9 Y x4) 10 Y x5) 11 Y x7) 5 1 (hlor (m 5 1) (hlshl 1 (Y : Int)))) 5 2 (if x6 = 0 then hland (m 5 2) (hlxor (hlshl 1 (Y : Int)) (-1)) else hlor (m 5 2) (hlshl 1 (Y : Int)))) 8 Y x3) 16 Y 0) m1
theorem hs12 {xs : List Int32} {n : Nat} {Q : hQ} {m : gx_M} {s : Nat → Int} (hs' : m 5 0 = s 1128) {x1 x2 x3 x4 x5 x6 x7 : Int} (h1 : ∀ (Y : Nat) (m1 : gx_M), x1 = Y → Y < 40 → yrOK s x1 x2 x3 x4 x5 x7 → yrC m m1 Y x2 x3 x4 x5 x6 x7 → Q (some (.inl 1)) m1) (h0 : ¬ yrOK s x1 x2 x3 x4 x5 x7 → Q (some (.inl 0)) m) : hxn xs n yp_m12 0 [(0, .inr (.inl 0)), (1, .inl x1), (2, .inl x2), (3, .inl x3), (4, .inl x4), (5, .inl x5), (6, .inl x6), (7, .inl x7)] [] m Q := by
  have hp : cPers 5 m x3 ↔ aPers s x3 := by
    unfold cPers aPers
    rw [hs']
    have := hb01 (s 1128) x3
    constructor
    · exact fun ⟨h1, h2, h3⟩ => ⟨h1, h2, by omega⟩
    · exact fun ⟨h1, h2, h3⟩ => ⟨h1, h2, by omega⟩
  have no : ∀ {P : Prop}, P → (yrOK s x1 x2 x3 x4 x5 x7 → ¬ P) → Q (some (.inl 0)) m := fun hP h => h0 (fun ok => h ok hP)
  refine hx_dn (hr12_0 (fun c => no c (fun ok => by have := ok.1; omega)) (fun _ c => no c (fun ok => by have := ok.1; omega)) (fun _ _ c => no c (fun ok => by have := ok.2.1; omega)) (fun _ _ _ c => no c (fun ok => by have := ok.2.1; omega)) (fun _ _ _ _ c => no c (fun ok => by have := ok.2.2.2.2.2.2.2; omega)) (fun _ _ _ _ _ _ c => no c (fun ok => by have := ok.2.2.2.1; omega)) (fun _ _ _ _ _ _ _ c => no c (fun ok => by have := ok.2.2.2.1; omega)) (fun a1 a2 a3 a4 a5 a6 a7 a8 a9 a10 a11 => ?_) (fun _ _ _ _ _ _ _ _ _ _ c => no c (fun ok => by
    have := ok.2.2.2.2.2.1
    have := hb01 x5 x3
    omega)) (fun _ _ _ _ _ _ _ _ _ c => no c (fun ok => by
    have h5 := ok.2.2.2.2.1
    have h7 := ok.2.2.2.2.2.2.1
    exact fun hn => hn ⟨h5.1, h5.2, by rw [hs']; exact h7⟩)) (fun _ _ _ _ _ _ _ _ c => no c (fun ok => fun hn => hn (hp.mpr ok.2.2.1))) (fun _ _ _ _ _ c => no c (fun ok => by have := ok.2.2.2.2.2.2.2; omega)))
  obtain ⟨Y, rfl⟩ : ∃ Y : Nat, x1 = Y := ⟨x1.toNat, by omega⟩
  have hY : Y < 40 := by omega
  have hok : yrOK s Y x2 x3 x4 x5 x7 := ⟨by omega, by omega, hp.mp a9, by omega, ⟨a10.1, a10.2.1⟩, by have := hb01 x5 x3; omega, by rw [← hs']; exact a10.2.2, by omega⟩
  have hend : ∀ m1, yrC m m1 Y x2 x3 x4 x5 x6 x7 → hxn xs n yp_m12 137 [] (hrs none ++ []) m1 Q := fun m1 hm1 => hx_dn (hr12_137 (h1 Y m1 rfl hY hok hm1))
  rw [Int.toNat_natCast]
  have rd : ∀ k, gx_u (gx_u (gx_u (gx_u m 7 Y x2) 9 Y x4) 10 Y x5) 11 Y x7 5 k = m 5 k := fun k => by rw [gx_u_ne (by omega), gx_u_ne (by omega), gx_u_ne (by omega), gx_u_ne (by omega)]
  refine hx_dn (hr15_0 (fun c => absurd c (by omega)) (fun _ _ c => ?_) (fun _ _ c => ?_) (fun _ c => absurd c (by omega)))
  · rw [Int.toNat_natCast, rd, rd]
    refine hF16v (m0 := _) hFr.rf (fun m1 g1 => ?_)
    show hxn xs n yp_m15 74 [] [] m1 _
    refine hx_dn (hr15_74 (hend m1 ?_))
    unfold yrC
    rw [if_pos c]
    exact g1
  · rw [Int.toNat_natCast, rd, rd]
    refine hF16v (m0 := _) hFr.rf (fun m1 g1 => ?_)
    show hxn xs n yp_m15 74 [] [] m1 _
    refine hx_dn (hr15_74 (hend m1 ?_))
    unfold yrC
    rw [if_neg c]
    exact g1
theorem hw_year {xs : List Int32} {n : Nat} {m : gx_M} {x1 x2 x3 x4 x5 x6 x7 : Int} (hR : hRS m) : hxn xs n yp_m12 0 [(0, .inr (.inl 0)), (1, .inl x1), (2, .inl x2), (3, .inl x3), (4, .inl x4), (5, .inl x5), (6, .inl x6), (7, .inl x7)] [] m (fun r1 m1 => ∃ v, r1 = some (.inl v) ∧ hxn xs n yp_m163 0 [(0, .inr (.inl 86)), (1, .inl x1), (2, .inl x2), (3, .inl x3), (4, .inl x4), (5, .inl x5), (6, .inl x6), (7, .inl x7)] [] m1 (fun r2 m2 => r2 = some (.inl v) ∧ hRS m2)) := by
  obtain ⟨h1, h2, h3⟩ := hR
  refine hs12 (s := m 87) h1.1 (fun Y m1 e hY hok hC => ?_) (fun hn => ⟨0, rfl, hs163 (fun ok => absurd ok hn) (fun _ => ⟨rfl, h1, h2, h3⟩)⟩)
  subst e
  obtain ⟨T, hT⟩ : ∃ T, T = gx_u (gx_u (gx_u (gx_u (gx_u (gx_u (gx_u (gx_u m 7 Y x2) 9 Y x4) 10 Y x5) 11 Y x7) 5 1 (hlor (m 5 1) (hlshl 1 (Y : Int)))) 5 2 (if x6 = 0 then hland (m 5 2) (hlxor (hlshl 1 (Y : Int)) (-1)) else hlor (m 5 2) (hlshl 1 (Y : Int)))) 8 Y x3) 16 Y 0 := ⟨_, rfl⟩
  have hC' : hFr hFv T m1 := by rw [hT]; exact hC
  have t1 : ∀ c k, c ∉ hFv → m1 c k = T c k := fun c k hc => congrFun (hC' c hc) k
  have Tne : ∀ c k, ¬ (c = 7 ∧ k = Y) → ¬ (c = 9 ∧ k = Y) → ¬ (c = 10 ∧ k = Y) → ¬ (c = 11 ∧ k = Y) → ¬ (c = 5 ∧ k = 1) → ¬ (c = 5 ∧ k = 2) → ¬ (c = 8 ∧ k = Y) → c ≠ 16 → T c k = m c k := fun c k a1 a2 a3 a4 a5 a6 a7 a8 => by
    rw [hT, gx_u_ne (by omega), gx_u_ne (by omega), gx_u_ne (by omega), gx_u_ne (by omega), gx_u_ne (by omega), gx_u_ne (by omega), gx_u_ne (by omega), gx_u_ne (by omega)]
  have e87 : ∀ k, m1 87 k = m 87 k := fun k => by rw [t1 87 k (by decide), Tne 87 k (by omega) (by omega) (by omega) (by omega) (by omega) (by omega) (by omega) (by omega)]
  have hok1 : yrOK (m1 87) Y x2 x3 x4 x5 x7 := by
    have : m1 87 = m 87 := funext e87
    rw [this]
    exact hok
  refine ⟨1, rfl, hs163 (fun _ => ⟨rfl, ?_⟩) (fun hn => absurd hok1 hn)⟩
  obtain ⟨M, hM⟩ : ∃ M, M = yrM m1 Y x2 x3 x4 x5 (if x6 = 0 then 0 else 1) x7 := ⟨_, rfl⟩
  rw [← hM]
  obtain ⟨⟨b1, b2, b3, b4, b5, b6, b7, -⟩, bn⟩ := hyr_ref hY hM
  have Mn : ∀ c k, c ≠ 87 → c ∉ hFv → M c k = T c k := fun c k hc hv => by rw [bn c k (by omega), t1 c k hv]
  have M87 : ∀ k, ¬ (k < 480 ∧ k % 40 = Y ∨ k = 480 + 16 * Y) → M 87 k = m 87 k := fun k hk => by rw [bn 87 k (by omega), e87]
  obtain ⟨c0, c1, c2, c3, c4⟩ := h1
  refine ⟨⟨?_, ?_, ?_, fun j y hj1 hj2 hy => ?_, fun y hy => ?_⟩, ?_, fun hn => ?_⟩
  · rw [Mn 5 0 (by decide) (by decide), Tne 5 0 (by omega) (by omega) (by omega) (by omega) (by omega) (by omega) (by omega) (by omega), M87 1128 (by omega)]
    exact c0
  · rw [Mn 5 1 (by decide) (by decide), hT, gx_u_ne (by omega), gx_u_ne (by omega), gx_u_ne (by omega), gx_u_self, c1, hmask_put hY]
    congr 1
    refine hmask_ext 40 (fun j hj => ?_)
    by_cases hjY : j = Y
    · subst hjY
      rw [b1]
      simp
    · rw [M87 (440 + j) (by omega), decide_eq_false hjY, Bool.or_false]
  · rw [Mn 5 2 (by decide) (by decide), hT, gx_u_ne (by omega), gx_u_ne (by omega), gx_u_self, c2]
    by_cases h6 : x6 = 0
    · rw [if_pos h6] at b6 ⊢
      rw [hmask_del hY]
      congr 1
      refine hmask_ext 40 (fun j hj => ?_)
      by_cases hjY : j = Y
      · subst hjY
        rw [b6]
        simp
      · rw [M87 (160 + j) (by omega), decide_eq_false hjY, Bool.not_false, Bool.and_true]
    · rw [if_neg h6] at b6 ⊢
      rw [hmask_put hY]
      congr 1
      refine hmask_ext 40 (fun j hj => ?_)
      by_cases hjY : j = Y
      · subst hjY
        rw [b6]
        simp
      · rw [M87 (160 + j) (by omega), decide_eq_false hjY, Bool.or_false]
  · have hj : j = 2 ∨ j = 3 ∨ j = 4 ∨ j = 5 ∨ j = 6 := by omega
    have c3' := c3 j y hj1 hj2 hy
    by_cases hyY : y = Y
    · subst hyY
      rcases hj with rfl | rfl | rfl | rfl | rfl
      · rw [Mn 7 y (by decide) (by decide), hT, gx_u_ne (by omega), gx_u_ne (by omega), gx_u_ne (by omega), gx_u_ne (by omega), gx_u_ne (by omega), gx_u_ne (by omega), gx_u_ne (by omega), gx_u_self]
        show x2 = M 87 (0 + y)
        rw [Nat.zero_add, b2]
      · rw [Mn 8 y (by decide) (by decide), hT, gx_u_ne (by omega), gx_u_self]
        exact b3.symm
      · rw [Mn 9 y (by decide) (by decide), hT, gx_u_ne (by omega), gx_u_ne (by omega), gx_u_ne (by omega), gx_u_ne (by omega), gx_u_ne (by omega), gx_u_ne (by omega), gx_u_self]
        exact b4.symm
      · rw [Mn 10 y (by decide) (by decide), hT, gx_u_ne (by omega), gx_u_ne (by omega), gx_u_ne (by omega), gx_u_ne (by omega), gx_u_ne (by omega), gx_u_self]
        exact b5.symm
      · rw [Mn 11 y (by decide) (by decide), hT, gx_u_ne (by omega), gx_u_ne (by omega), gx_u_ne (by omega), gx_u_ne (by omega), gx_u_self]
        exact b7.symm
    · have hc : 5 + j ≠ 87 := by omega
      have hv : 5 + j ∉ hFv := by
        simp only [hFv, List.mem_cons, List.not_mem_nil, or_false, not_or]
        omega
      rw [Mn (5 + j) y hc hv, Tne (5 + j) y (by omega) (by omega) (by omega) (by omega) (by omega) (by omega) (by omega) (by omega), M87 _ (by
        rcases hj with rfl | rfl | rfl | rfl | rfl
        · show ¬ (0 + y < 480 ∧ (0 + y) % 40 = Y ∨ 0 + y = 480 + 16 * Y); omega
        · show ¬ (40 + y < 480 ∧ (40 + y) % 40 = Y ∨ 40 + y = 480 + 16 * Y); omega
        · show ¬ (80 + y < 480 ∧ (80 + y) % 40 = Y ∨ 80 + y = 480 + 16 * Y); omega
        · show ¬ (120 + y < 480 ∧ (120 + y) % 40 = Y ∨ 120 + y = 480 + 16 * Y); omega
        · show ¬ (200 + y < 480 ∧ (200 + y) % 40 = Y ∨ 200 + y = 480 + 16 * Y); omega)]
      exact c3'
  · by_cases hyY : y = Y
    · subst hyY
      rw [b1, b6]
      refine ⟨.inr rfl, ?_⟩
      split
      · exact .inl rfl
      · exact .inr rfl
    · rw [M87 (440 + y) (by omega), M87 (160 + y) (by omega)]
      exact c4 y hy
  · rw [Mn 0 12 (by decide) (by decide), Mn 86 47 (by decide) (by decide), Tne 0 12 (by omega) (by omega) (by omega) (by omega) (by omega) (by omega) (by omega) (by omega), Tne 86 47 (by omega) (by omega) (by omega) (by omega) (by omega) (by omega) (by omega) (by omega)]
    exact h2
  · rw [Mn 86 47 (by decide) (by decide), Tne 86 47 (by omega) (by omega) (by omega) (by omega) (by omega) (by omega) (by omega) (by omega)] at hn
    have rest : ∀ c k, 18 ≤ c → c ≠ 87 → M c k = m c k := fun c k hc h87 => by
      have hv : c ∉ hFv := by
        simp only [hFv, List.mem_cons, List.not_mem_nil, or_false, not_or]
        omega
      rw [Mn c k h87 hv, Tne c k (by omega) (by omega) (by omega) (by omega) (by omega) (by omega) (by omega) (by omega)]
    exact hSt_mv (h3 hn) (by rw [rest 18 0 (by omega) (by omega), rest 89 1128 (by omega) (by omega)]; exact (h3 hn).1) (rest _ _ (by omega) (by omega)) (rest _ _ (by omega) (by omega)) (fun j y a1 a2 a3 => rest _ _ (by omega) (by omega)) (fun k hk => rest _ _ (by omega) (by omega))
/-! kept, put back -/
theorem hl270 {xs : List Int32} {n : Nat} {Q : hQ} {m : gx_M} (hT : ∀ y, y < 40 → m 87 (440 + y) = 0 ∨ m 87 (440 + y) = 1) (h : Q (some (.inl ((hcnt (fun y => decide (m 87 (440 + y) = 1)) 40 : Nat) : Int))) m) : ∀ d k : Nat, k + d = 40 → hxn xs n yp_m270 4 [(0, .inr (.inl 86)), (1, .inl ((hcnt (fun y => decide (m 87 (440 + y) = 1)) k : Nat) : Int)), (2, .inl (k : Int))] [] m Q := by
  intro d
  induction d with
  | zero =>
    intro k hk
    have e : k = 40 := by omega
    subst e
    have := hcnt_le (fun y => decide (m 87 (440 + y) = 1)) 40
    exact hx_dn (hr270_4 (by omega) (by omega) (fun _ => h) (fun c => absurd c (by omega)))
  | succ d ih =>
    intro k hk
    have hle := hcnt_le (fun y => decide (m 87 (440 + y) = 1)) k
    refine hx_dn (hr270_4 (by omega) (by omega) (fun c => absurd c (by omega)) (fun _ => ?_))
    have e1 : (440 + (k : Int)).toNat = 440 + k := by omega
    rw [e1]
    have e2 : gx_w (((hcnt (fun y => decide (m 87 (440 + y) = 1)) k : Nat) : Int) + m 87 (440 + k)) = ((hcnt (fun y => decide (m 87 (440 + y) = 1)) (k + 1) : Nat) : Int) := by
      rw [gx_w_id (by rcases hT k (by omega) with h | h <;> omega) (by rcases hT k (by omega) with h | h <;> omega)]
      show _ = ((hcnt (fun y => decide (m 87 (440 + y) = 1)) k + (if decide (m 87 (440 + k) = 1) = true then 1 else 0) : Nat) : Int)
      rcases hT k (by omega) with h | h <;> rw [h] <;> simp
    rw [e2]
    exact ih (k + 1) (by omega)
theorem hs270 {xs : List Int32} {n : Nat} {Q : hQ} {m : gx_M} (hT : ∀ y, y < 40 → m 87 (440 + y) = 0 ∨ m 87 (440 + y) = 1) (h : Q (some (.inl ((hcnt (fun y => decide (m 87 (440 + y) = 1)) 40 : Nat) : Int))) m) : hxn xs n yp_m270 0 [(0, .inr (.inl 86))] [] m Q :=
  hx_dn (hr270_0 (hl270 hT h 40 0 rfl))
theorem hw_keep {xs : List Int32} {n : Nat} {m : gx_M} (hR : hRS m) : hxn xs n yp_m154 0 [(0, .inr (.inl 0))] [] m (fun r1 m1 => ∃ v, r1 = some (.inl v) ∧ hxn xs n yp_m269 0 [(0, .inr (.inl 86))] [] m1 (fun r2 m2 => r2 = some (.inl v) ∧ hRS m2)) := by
  obtain ⟨h1, h2, h3⟩ := hR
  refine hx_dn (hr154_0 ?_)
  refine hs71_18_5 (fun m' hC => ?_)
  obtain ⟨k0, k1, k2, k3, k4, a1, a2, a3, a4, a5, a6, a7, a8, a9, a10, a11, a12, kn⟩ := hC
  show hxn xs n yp_m154 11 [(0, .inr (.inl 0))] [] m' _
  refine hx_dn (hr154_11 ?_)
  have e5 : ∀ k, m' 5 k = m 5 k := fun k => congrFun (kn 5 (by decide)) k
  have e87 : m' 87 = m 87 := kn 87 (by decide)
  rw [e5 1, h1.2.1]
  refine hs61 (hmask_lt _ 40) ?_
  rw [hpop_hmask]
  show hxn xs n yp_m154 26 [] [.inl _] _ _
  refine hx_dn (hr154_26 ⟨_, rfl, ?_⟩)
  obtain ⟨m1, hm1⟩ : ∃ m1, m1 = gx_u m' 0 12 1 := ⟨_, rfl⟩
  rw [← hm1]
  have f1 : ∀ c k, ¬ (c = 0 ∧ k = 12) → m1 c k = m' c k := fun c k hn => by rw [hm1, gx_u_ne hn]
  refine hx_dn (hr269_0 ?_)
  obtain ⟨M, hM⟩ : ∃ M, M = hcopy (gx_u m1 86 47 1) 87 0 89 0 1131 := ⟨_, rfl⟩
  rw [← hM]
  have g1 : ∀ c k, c ≠ 89 → ¬ (c = 86 ∧ k = 47) → ¬ (c = 0 ∧ k = 12) → M c k = m' c k := fun c k b1 b2 b3 => by rw [hM, hcopy_ne b1, gx_u_ne b2, f1 c k b3]
  have g87 : ∀ k, M 87 k = m 87 k := fun k => by rw [g1 87 k (by omega) (by omega) (by omega), congrFun e87 k]
  have g89 : ∀ k, k < 1131 → M 89 k = m 87 k := fun k hk => by rw [hM, hcopy_at hk, gx_u_ne (by omega), f1 87 k (by omega), congrFun e87 k]
  have hcc : hcnt (fun y => decide (M 87 (440 + y) = 1)) 40 = hcnt (fun y => decide (m 87 (440 + y) = 1)) 40 := hcnt_ext 40 (fun j hj => by rw [g87])
  refine hs270 (fun y hy => by rw [g87]; exact (h1.2.2.2.2 y hy).1) ?_
  rw [hcc]
  show hxn xs n yp_m269 20 [] [.inl _] _ _
  refine hx_dn (hr269_20 ⟨rfl, ?_⟩)
  refine ⟨hSt_mv h1 ?_ ?_ ?_ (fun j y b1 b2 b3 => ?_) (fun k hk => g87 k), ?_, fun _ => ?_⟩
  · rw [g1 5 0 (by omega) (by omega) (by omega), e5, g87]; exact h1.1
  · rw [g1 5 1 (by omega) (by omega) (by omega), e5]
  · rw [g1 5 2 (by omega) (by omega) (by omega), e5]
  · rw [g1 (5 + j) y (by omega) (by omega) (by omega)]
    have hj : 5 + j ∉ [18, 19, 20, 21, 22, 23, 24, 25, 26, 27, 28, 29, 30] := by
      simp only [List.mem_cons, List.not_mem_nil, or_false, not_or]
      omega
    exact congrFun (kn (5 + j) hj) y
  · rw [hM, hcopy_ne (by decide), gx_u_ne (by omega), hm1, gx_u_self, hcopy_ne (by decide), gx_u_self]
  · refine hSt_mv h1 ?_ ?_ ?_ (fun j y b1 b2 b3 => ?_) (fun k hk => g89 k (by omega))
    · rw [g1 18 0 (by omega) (by omega) (by omega), k0, g89 1128 (by omega)]; exact h1.1
    · rw [g1 18 1 (by omega) (by omega) (by omega), k1]
    · rw [g1 18 2 (by omega) (by omega) (by omega), k2]
    · rw [g1 (18 + j) y (by omega) (by omega) (by omega)]
      have hj : j = 2 ∨ j = 3 ∨ j = 4 ∨ j = 5 ∨ j = 6 := by omega
      rcases hj with rfl | rfl | rfl | rfl | rfl
      · exact a2 y b3
      · exact a3 y b3
      · exact a4 y b3
      · exact a5 y b3
      · exact a6 y b3
theorem hw_undo {xs : List Int32} {n : Nat} {m : gx_M} (hR : hRS m) : hxn xs n yp_m155 0 [(0, .inr (.inl 0))] [] m (fun r1 m1 => ∃ v, r1 = some (.inl v) ∧ hxn xs n yp_m271 0 [(0, .inr (.inl 86))] [] m1 (fun r2 m2 => r2 = some (.inl v) ∧ hRS m2)) := by
  obtain ⟨h1, h2, h3⟩ := hR
  refine hx_dn (hr155_0 (fun hk => ?_) (fun hk => ⟨0, rfl, hx_dn (hr271_0 (fun c => absurd (by rw [← h2]; exact hk) c) (fun _ => ⟨rfl, h1, h2, h3⟩))⟩))
  have hkr : m 86 47 ≠ 0 := by rw [← h2]; exact hk
  have h3' := h3 hkr
  refine hs71_5_18 (fun m' hC => ?_)
  obtain ⟨k0, k1, k2, k3, k4, a1, a2, a3, a4, a5, a6, a7, a8, a9, a10, a11, a12, kn⟩ := hC
  show hxn xs n yp_m155 20 [] [] m' _
  have hn5 : ∀ c, c ∉ [5, 6, 7, 8, 9, 10, 11, 12, 13, 14, 15, 16, 17] → ∀ k, m' c k = m c k := fun c hc k => congrFun (kn c hc) k
  refine hx_dn (hr155_20 ⟨1, rfl, hx_dn (hr271_0 (fun _ => ⟨rfl, ?_⟩) (fun c => absurd c (by rw [hn5 86 (by decide)]; exact hkr)))⟩)
  obtain ⟨M, hM⟩ : ∃ M, M = hcopy m' 89 0 87 0 1131 := ⟨_, rfl⟩
  rw [← hM]
  have g1 : ∀ c k, c ≠ 87 → M c k = m' c k := fun c k b1 => by rw [hM, hcopy_ne b1]
  have g87 : ∀ k, k < 1131 → M 87 k = m 89 k := fun k hk => by rw [hM, hcopy_at hk, hn5 89 (by decide)]
  refine ⟨hSt_mv h3' ?_ ?_ ?_ (fun j y b1 b2 b3 => ?_) (fun k hk => g87 k (by omega)), ?_, fun _ => ?_⟩
  · rw [g1 5 0 (by omega), k0, g87 1128 (by omega)]; exact h3'.1
  · rw [g1 5 1 (by omega), k1]
  · rw [g1 5 2 (by omega), k2]
  · rw [g1 (5 + j) y (by omega)]
    have hj : j = 2 ∨ j = 3 ∨ j = 4 ∨ j = 5 ∨ j = 6 := by omega
    rcases hj with rfl | rfl | rfl | rfl | rfl
    · exact a2 y b3
    · exact a3 y b3
    · exact a4 y b3
    · exact a5 y b3
    · exact a6 y b3
  · rw [g1 0 12 (by decide), g1 86 47 (by decide), hn5 0 (by decide), hn5 86 (by decide)]
    exact h2
  · have hz : ∀ c k, 18 ≤ c → c ≠ 87 → M c k = m c k := fun c k b1 b2 => by
      rw [g1 c k b2, hn5 c (by simp only [List.mem_cons, List.not_mem_nil, or_false, not_or]; omega)]
    exact hSt_mv h3' (by rw [hz 18 0 (by omega) (by omega), hz 89 1128 (by omega) (by omega)]; exact h3'.1) (hz _ _ (by omega) (by omega)) (hz _ _ (by omega) (by omega)) (fun j y b1 b2 b3 => hz _ _ (by omega) (by omega)) (fun k hk => hz _ _ (by omega) (by omega))
end
section
/-! a call of the class and the same call of the reference, one behind the other -/
def hInt (v : hV) : Prop := ∃ x, v = .inl x
def hLng (v : hV) : Prop := ∃ x, v = .inr (.inr x)
def hDisj (mods : bx_M) (P : List (Nat × Nat × Nat)) : Bool := P.all (fun q => mods.all (fun x => decide (x.1 ≠ q.1) || decide (x.2.2 ≤ q.2.1) || decide (q.2.2 ≤ x.2.1)))
theorem hDisj_ok {mods : bx_M} {P : List (Nat × Nat × Nat)} {m m' : gx_M} (h : gx_fw mods m m') (hd : hDisj mods P = true) : hAg P m m' := by
  intro q hq k h1 h2
  refine h q.1 k (fun x hx hc => ?_)
  have h3 := List.all_eq_true.mp (List.all_eq_true.mp hd q hq) x hx
  rw [Bool.or_eq_true, Bool.or_eq_true, decide_eq_true_eq, decide_eq_true_eq, decide_eq_true_eq] at h3
  rcases h3 with (h3 | h3) | h3
  · exact h3 hc.1
  · omega
  · omega
noncomputable def hCon (gX : gx_M → Prop) (xs : List Int32) (M : sx_M) (L : hLs) (mods : bx_M) (T : hV → Prop) : Prop := ∀ (n : Nat) (m : gx_M), hJ gX m → hxn xs n M 0 L [] m (fun r m' => (∃ v, r = some v ∧ T v) ∧ hJ gX m' ∧ gx_fw mods m m')
theorem hCon_i {gX : gx_M → Prop} {xs : List Int32} {mi dk : Nat} {pre : ax_L} {exits : List bx_E} {mods : bx_M} {lm : List Nat} {ctr : Option (Nat × Bool)} {M : sx_M} {L : hLs} (hc : hXc gX) (hK : bx_Kok yp_P xs bw_INV (gx_XW gX) (mi, 0, pre, [], exits, mods, lm, dk, ctr)) (hM : yp_P.2.2.2.1[mi]? = some M) (hst : bx_star mods = false) (hall : exits.all (fun e => match e.1 with
    | some (some a) => decide (a.1 = 0)
    | _ => false) = true) (hp : hpre pre L) : hCon gX xs M L mods hInt := by
  intro n m hj
  refine hx_K hc hK hM hst ?_ hp hj (fun r m' he j f => ⟨?_, j, f⟩)
  · refine List.all_eq_true.mpr (fun e hm => ?_)
    have := List.all_eq_true.mp hall e hm
    split at this
    · rename_i a ha
      rw [ha]
      dsimp only
      rw [this, Bool.true_or]
    · cases this
  · obtain ⟨e, hm, he⟩ := he
    have := List.all_eq_true.mp hall e hm
    split at this
    · rename_i a ha
      rw [ha] at he
      have ha0 := of_decide_eq_true this
      cases r with
      | none => exact he.elim
      | some v =>
        rcases v with x | c | x
        · exact ⟨_, rfl, x, rfl⟩
        · exact he.elim
        · have he : a.1 = 1 := he
          omega
    · cases this
theorem hCon_l {gX : gx_M → Prop} {xs : List Int32} {mi dk : Nat} {pre : ax_L} {exits : List bx_E} {mods : bx_M} {lm : List Nat} {ctr : Option (Nat × Bool)} {M : sx_M} {L : hLs} (hc : hXc gX) (hK : bx_Kok yp_P xs bw_INV (gx_XW gX) (mi, 0, pre, [], exits, mods, lm, dk, ctr)) (hM : yp_P.2.2.2.1[mi]? = some M) (hst : bx_star mods = false) (hall : exits.all (fun e => match e.1 with
    | some (some a) => decide (a.1 = 1)
    | _ => false) = true) (hp : hpre pre L) : hCon gX xs M L mods hLng := by
  intro n m hj
  refine hx_K hc hK hM hst ?_ hp hj (fun r m' he j f => ⟨?_, j, f⟩)
  · refine List.all_eq_true.mpr (fun e hm => ?_)
    have := List.all_eq_true.mp hall e hm
    split at this
    · rename_i a ha
      rw [ha]
      dsimp only
      rw [this, Bool.or_true]
    · cases this
  · obtain ⟨e, hm, he⟩ := he
    have := List.all_eq_true.mp hall e hm
    split at this
    · rename_i a ha
      rw [ha] at he
      have ha0 := of_decide_eq_true this
      cases r with
      | none => exact he.elim
      | some v =>
        rcases v with x | c | x
        · have he : a.1 = 0 ∧ _ := he
          omega
        · exact he.elim
        · exact ⟨_, rfl, x, rfl⟩
    · cases this
def hCi (T : hV → Prop) (a b : hV) : Prop := T a ∧ T b
def hCe (T : hV → Prop) (a b : hV) : Prop := T a ∧ b = a
theorem hCe.i {T : hV → Prop} {a b : hV} (h : hCe T a b) : hCi T a b := ⟨h.1, by rw [h.2]; exact h.1⟩
noncomputable def hWay (gX R : gx_M → Prop) (xs : List Int32) (M1 M2 : sx_M) (L1 L2 : hLs) (C : hV → hV → Prop) : Prop := ∀ (n : Nat) (m : gx_M), hJ gX m → R m → hxn xs n M1 0 L1 [] m (fun r1 m1 => ∃ v1, r1 = some v1 ∧ hxn xs n M2 0 L2 [] m1 (fun r2 m2 => ∃ v2, r2 = some v2 ∧ hJ gX m2 ∧ R m2 ∧ C v1 v2))
theorem hWay.mono {gX R : gx_M → Prop} {xs : List Int32} {M1 M2 : sx_M} {L1 L2 : hLs} {C C' : hV → hV → Prop} (h : hWay gX R xs M1 M2 L1 L2 C) (hc : ∀ a b, C a b → C' a b) : hWay gX R xs M1 M2 L1 L2 C' := fun n m j r =>
  hx_mono (h n m j r) (fun r1 m1 ⟨v1, e1, h1⟩ => ⟨v1, e1, hx_mono h1 (fun r2 m2 ⟨v2, e2, j2, R2, c⟩ => ⟨v2, e2, j2, R2, hc _ _ c⟩)⟩)
/-- two calls that leave alone what the relation rests on -/
theorem hway_fr {gX R : gx_M → Prop} {xs : List Int32} {M1 M2 : sx_M} {L1 L2 : hLs} {mods1 mods2 : bx_M} {T : hV → Prop} {P : List (Nat × Nat × Nat)} (hRc : ∀ m m', hAg P m m' → R m → R m') (c1 : hCon gX xs M1 L1 mods1 T) (c2 : hCon gX xs M2 L2 mods2 T) (d1 : hDisj mods1 P = true) (d2 : hDisj mods2 P = true) : hWay gX R xs M1 M2 L1 L2 (hCi T) := fun n m j r =>
  hx_mono (c1 n m j) (fun r1 m1 ⟨⟨v1, e1, t1⟩, j1, f1⟩ => ⟨v1, e1, hx_mono (c2 n m1 j1) (fun r2 m2 ⟨⟨v2, e2, t2⟩, j2, f2⟩ => ⟨v2, e2, j2, hRc _ _ (hDisj_ok f2 d2) (hRc _ _ (hDisj_ok f1 d1) r), t1, t2⟩)⟩)
/-- the second one puts the row 87 back -/
theorem hway_bk {gX R : gx_M → Prop} {xs : List Int32} {M1 M2 : sx_M} {L1 L2 : hLs} {mods1 mods2 : bx_M} {T : hV → Prop} {P : List (Nat × Nat × Nat)} (hRc : ∀ m m', hAg P m m' → R m → R m') (c1 : hCon gX xs M1 L1 mods1 T) (c2 : hCon gX xs M2 L2 mods2 T) (b2 : ∀ n m, hxn xs n M2 0 L2 [] m (fun _ m' => ∀ k, k < 1131 → m' 87 k = m 87 k)) (d1 : hDisj mods1 P = true) (d2 : hDisj mods2 (P.filter (fun q => !(decide (q.1 = 87)))) = true) (d3 : P.all (fun q => decide (q.2.2 ≤ 1131)) = true) : hWay gX R xs M1 M2 L1 L2 (hCi T) := fun n m j r =>
  hx_mono (c1 n m j) (fun r1 m1 ⟨⟨v1, e1, t1⟩, j1, f1⟩ => ⟨v1, e1, hx_and (c2 n m1 j1) (b2 n m1) (fun r2 m2 ⟨⟨v2, e2, t2⟩, j2, f2⟩ hb => ⟨v2, e2, j2, hRc m1 m2 (fun q hq k h1 h2 => by
    by_cases h87 : q.1 = 87
    · rw [h87]
      exact hb k (Nat.lt_of_lt_of_le h2 (of_decide_eq_true (List.all_eq_true.mp d3 q hq)))
    · exact hDisj_ok f2 d2 q (List.mem_filter.mpr ⟨hq, by rw [decide_eq_false h87]; rfl⟩) k h1 h2) (hRc _ _ (hDisj_ok f1 d1) r), t1, t2⟩)⟩)
/-- two calls with what was shown of them -/
theorem hway_sp {gX R : gx_M → Prop} {xs : List Int32} {M1 M2 : sx_M} {L1 L2 : hLs} {mods1 mods2 : bx_M} {T T1 T2 : hV → Prop} (c1 : hCon gX xs M1 L1 mods1 T1) (c2 : hCon gX xs M2 L2 mods2 T2) (sp : ∀ n m, hJ gX m → R m → hxn xs n M1 0 L1 [] m (fun r1 m1 => ∃ v, (r1 = some v ∧ T v) ∧ hxn xs n M2 0 L2 [] m1 (fun r2 m2 => r2 = some v ∧ R m2))) : hWay gX R xs M1 M2 L1 L2 (hCe T) := fun n m j r =>
  hx_and (sp n m j r) (c1 n m j) (fun r1 m1 ⟨v, ⟨e1, t⟩, h1⟩ ⟨_, j1, _⟩ => ⟨v, e1, hx_and h1 (c2 n m1 j1) (fun r2 m2 ⟨e2, r2'⟩ ⟨_, j2, _⟩ => ⟨v, e2, j2, r2', t, rfl⟩)⟩)
end
