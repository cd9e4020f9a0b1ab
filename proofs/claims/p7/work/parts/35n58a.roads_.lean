section
/-! days as the class has them go by: roads -/
def cPwd (b c : Nat) (m : gx_M) (y : Int) : Prop := cYear b m y ∧ m c y.toNat ≠ -2
/-- isPawned from 0 on -/
theorem hs79_5 {xs : List Int32} {n : Nat} {Q : hQ} {m : gx_M} {x1 : Int}
    (h1 : cPwd 5 13 m x1 → Q (some (.inl 1)) m) (h0 : ¬ (cPwd 5 13 m x1) → Q (some (.inl 0)) m) : hxn xs n yp_m79 0 [(0, .inr (.inl 5)), (1, .inl x1)] [] m Q := by
  refine hx_dn ?_
  refine hx_blks (npc := 2) (L' := [(0, .inr (.inl 5)), (1, .inl x1)]) (st' := [.inl x1, .inr (.inl 5)]) (m' := m) ((0, .aload_n 0, 1, 0, 0, 0, 0), (0, 0, 0)) [((1, .iload_n 1, 1, 0, 0, 0, 0), (0, 0, 0))] (by decide +kernel) rfl ?_
  refine hx_call (E := (2, .invokevirtual 71, 3, 17, 0, 2188, 0)) (M' := yp_m17) [.inr (.inl 5), .inl x1] [] rfl (by decide +kernel) rfl ⟨rfl, rfl⟩ rfl rfl (hs17_5 (fun c1 => ?_) (fun c1 => ?_))
  · have c1 : cYear 5 m x1 := c1
    show hxn xs n yp_m79 5 [(0, .inr (.inl 5)), (1, .inl x1)] [.inl 1] m Q
    refine hx_if .eq 23 (by decide +kernel) (fun c2 => ?_) (fun c2 => ?_)
    · have c2 : (1 : Int) = 0 := c2
      exfalso; omega
    · have c2 : (1 : Int) ≠ 0 := c2
      refine hx_blk (npc := 16) (L' := [(0, .inr (.inl 5)), (1, .inl x1)]) (st' := [.inl (-2), .inl (m 13 (x1).toNat)]) (m' := m) [((8, .aload_n 0, 1, 0, 0, 0, 0), (0, 0, 0)), ((9, .getfield 37, 3, 2, 12, 1119, 0), (1, 5, 13)), ((12, .iload_n 1, 1, 0, 0, 0, 0), (0, 0, 0)), ((13, .iaload, 1, 0, 0, 0, 0), (0, 13, 0)), ((14, .bipush (-2), 2, 0, 0, 0, 0), (0, 0, 0))] (by decide +kernel) rfl ?_
      refine hx_cmp .eq 23 (by decide +kernel) (fun c2 => ?_) (fun c2 => ?_)
      · have c2 : (m 13 (x1).toNat) = (-2) := c2
        refine hx_blk (npc := 24) (L' := [(0, .inr (.inl 5)), (1, .inl x1)]) (st' := [.inl 0]) (m' := m) [((23, .iconst 0, 1, 0, 0, 0, 0), (0, 0, 0))] (by decide +kernel) rfl ?_
        exact hx_reti (by decide +kernel) (h0 (by unfold cPwd; intro q; first | exact absurd q.1 (by assumption) | exact q.2 (by omega)))
      · have c2 : (m 13 (x1).toNat) ≠ (-2) := c2
        refine hx_blk (npc := 24) (L' := [(0, .inr (.inl 5)), (1, .inl x1)]) (st' := [.inl 1]) (m' := m) [((19, .iconst 1, 1, 0, 0, 0, 0), (0, 0, 0)), ((20, .goto 4, 3, 0, 0, 0, 0), (0, 0, 0))] (by decide +kernel) rfl ?_
        exact hx_reti (by decide +kernel) (h1 (by unfold cPwd; exact ⟨by assumption, by omega⟩))
  · have c1 : ¬ (cYear 5 m x1) := c1
    show hxn xs n yp_m79 5 [(0, .inr (.inl 5)), (1, .inl x1)] [.inl 0] m Q
    refine hx_if .eq 23 (by decide +kernel) (fun c2 => ?_) (fun c2 => ?_)
    · have c2 : (0 : Int) = 0 := c2
      refine hx_blk (npc := 24) (L' := [(0, .inr (.inl 5)), (1, .inl x1)]) (st' := [.inl 0]) (m' := m) [((23, .iconst 0, 1, 0, 0, 0, 0), (0, 0, 0))] (by decide +kernel) rfl ?_
      exact hx_reti (by decide +kernel) (h0 (by unfold cPwd; intro q; first | exact absurd q.1 (by assumption) | exact q.2 (by omega)))
    · have c2 : (0 : Int) ≠ 0 := c2
      exfalso; omega

/-- isPawned from 0 on -/
theorem hs79_31 {xs : List Int32} {n : Nat} {Q : hQ} {m : gx_M} {x1 : Int}
    (h1 : cPwd 31 39 m x1 → Q (some (.inl 1)) m) (h0 : ¬ (cPwd 31 39 m x1) → Q (some (.inl 0)) m) : hxn xs n yp_m79 0 [(0, .inr (.inl 31)), (1, .inl x1)] [] m Q := by
  refine hx_dn ?_
  refine hx_blks (npc := 2) (L' := [(0, .inr (.inl 31)), (1, .inl x1)]) (st' := [.inl x1, .inr (.inl 31)]) (m' := m) ((0, .aload_n 0, 1, 0, 0, 0, 0), (0, 0, 0)) [((1, .iload_n 1, 1, 0, 0, 0, 0), (0, 0, 0))] (by decide +kernel) rfl ?_
  refine hx_call (E := (2, .invokevirtual 71, 3, 17, 0, 2188, 0)) (M' := yp_m17) [.inr (.inl 31), .inl x1] [] rfl (by decide +kernel) rfl ⟨rfl, rfl⟩ rfl rfl (hs17_31 (fun c1 => ?_) (fun c1 => ?_))
  · have c1 : cYear 31 m x1 := c1
    show hxn xs n yp_m79 5 [(0, .inr (.inl 31)), (1, .inl x1)] [.inl 1] m Q
    refine hx_if .eq 23 (by decide +kernel) (fun c2 => ?_) (fun c2 => ?_)
    · have c2 : (1 : Int) = 0 := c2
      exfalso; omega
    · have c2 : (1 : Int) ≠ 0 := c2
      refine hx_blk (npc := 16) (L' := [(0, .inr (.inl 31)), (1, .inl x1)]) (st' := [.inl (-2), .inl (m 39 (x1).toNat)]) (m' := m) [((8, .aload_n 0, 1, 0, 0, 0, 0), (0, 0, 0)), ((9, .getfield 37, 3, 2, 12, 1119, 0), (1, 31, 39)), ((12, .iload_n 1, 1, 0, 0, 0, 0), (0, 0, 0)), ((13, .iaload, 1, 0, 0, 0, 0), (0, 39, 0)), ((14, .bipush (-2), 2, 0, 0, 0, 0), (0, 0, 0))] (by decide +kernel) rfl ?_
      refine hx_cmp .eq 23 (by decide +kernel) (fun c2 => ?_) (fun c2 => ?_)
      · have c2 : (m 39 (x1).toNat) = (-2) := c2
        refine hx_blk (npc := 24) (L' := [(0, .inr (.inl 31)), (1, .inl x1)]) (st' := [.inl 0]) (m' := m) [((23, .iconst 0, 1, 0, 0, 0, 0), (0, 0, 0))] (by decide +kernel) rfl ?_
        exact hx_reti (by decide +kernel) (h0 (by unfold cPwd; intro q; first | exact absurd q.1 (by assumption) | exact q.2 (by omega)))
      · have c2 : (m 39 (x1).toNat) ≠ (-2) := c2
        refine hx_blk (npc := 24) (L' := [(0, .inr (.inl 31)), (1, .inl x1)]) (st' := [.inl 1]) (m' := m) [((19, .iconst 1, 1, 0, 0, 0, 0), (0, 0, 0)), ((20, .goto 4, 3, 0, 0, 0, 0), (0, 0, 0))] (by decide +kernel) rfl ?_
        exact hx_reti (by decide +kernel) (h1 (by unfold cPwd; exact ⟨by assumption, by omega⟩))
  · have c1 : ¬ (cYear 31 m x1) := c1
    show hxn xs n yp_m79 5 [(0, .inr (.inl 31)), (1, .inl x1)] [.inl 0] m Q
    refine hx_if .eq 23 (by decide +kernel) (fun c2 => ?_) (fun c2 => ?_)
    · have c2 : (0 : Int) = 0 := c2
      refine hx_blk (npc := 24) (L' := [(0, .inr (.inl 31)), (1, .inl x1)]) (st' := [.inl 0]) (m' := m) [((23, .iconst 0, 1, 0, 0, 0, 0), (0, 0, 0))] (by decide +kernel) rfl ?_
      exact hx_reti (by decide +kernel) (h0 (by unfold cPwd; intro q; first | exact absurd q.1 (by assumption) | exact q.2 (by omega)))
    · have c2 : (0 : Int) ≠ 0 := c2
      exfalso; omega

/-- growPawns from 0 on -/
theorem hr135_0 {xs : List Int32} {n : Nat} {Q : hQ} {m : gx_M}
    (h1 : hxn xs n yp_m135 5 [(1, .inr (.inl 5)), (2, .inr (.inl 44)), (3, .inl 0), (4, .inl 0)] [] m Q) : hxn xs (n + 1) yp_m135 0 [(1, .inr (.inl 5)), (2, .inr (.inl 44))] [] m Q := by
  refine hx_blks (npc := 5) (L' := [(1, .inr (.inl 5)), (2, .inr (.inl 44)), (3, .inl 0), (4, .inl 0)]) (st' := []) (m' := m) ((0, .iconst 0, 1, 0, 0, 0, 0), (0, 0, 0)) [((1, .istore_n 3, 1, 0, 0, 0, 0), (0, 0, 0)), ((2, .iconst 0, 1, 0, 0, 0, 0), (0, 0, 0)), ((3, .istore 4, 2, 0, 0, 0, 0), (0, 0, 0))] (by decide +kernel) rfl ?_
  exact hx_pick [1, 2, 3, 4] h1

/-- growPawns from 5 on -/
theorem hr135_5 {xs : List Int32} {n : Nat} {Q : hQ} {m : gx_M} {x3 x4 : Int}
    (h1 : (40 ≤ x4) → Q (some (.inl x3)) m)
    (h2 : (x4 < 40) → (cPwd 5 13 m x4) → hxn xs n yp_m82 0 [(0, .inr (.inl 44)), (1, .inr (.inl 5)), (2, .inl 105), (3, .inl x4), (4, .inl (m 12 (x4).toNat)), (5, .inl (m 14 (x4).toNat))] [] m (fun r m' => hxn xs n yp_m135 51 [(1, .inr (.inl 5)), (2, .inr (.inl 44)), (3, .inl x3), (4, .inl x4), (5, .inl (m 14 (x4).toNat))] (hrs r ++ []) m' Q))
    (h3 : (x4 < 40) → (¬ (cPwd 5 13 m x4)) → hxn xs n yp_m135 5 [(1, .inr (.inl 5)), (2, .inr (.inl 44)), (3, .inl x3), (4, .inl (gx_w (x4 + 1)))] [] m Q) : hxn xs (n + 1) yp_m135 5 [(1, .inr (.inl 5)), (2, .inr (.inl 44)), (3, .inl x3), (4, .inl x4)] [] m Q := by
  refine hx_blks (npc := 9) (L' := [(1, .inr (.inl 5)), (2, .inr (.inl 44)), (3, .inl x3), (4, .inl x4)]) (st' := [.inl 40, .inl x4]) (m' := m) ((5, .iload 4, 2, 0, 0, 0, 0), (0, 0, 0)) [((7, .bipush 40, 2, 0, 0, 0, 0), (0, 0, 0))] (by decide +kernel) rfl ?_
  refine hx_cmp .ge 116 (by decide +kernel) (fun c1 => ?_) (fun c1 => ?_)
  · have c1 : 40 ≤ x4 := c1
    refine hx_blk (npc := 117) (L' := [(1, .inr (.inl 5)), (2, .inr (.inl 44)), (3, .inl x3), (4, .inl x4)]) (st' := [.inl x3]) (m' := m) [((116, .iload_n 3, 1, 0, 0, 0, 0), (0, 0, 0))] (by decide +kernel) rfl ?_
    exact hx_reti (by decide +kernel) (h1 c1)
  · have c1 : x4 < 40 := by have h : ¬ (40 ≤ x4) := c1; omega
    refine hx_blk (npc := 15) (L' := [(1, .inr (.inl 5)), (2, .inr (.inl 44)), (3, .inl x3), (4, .inl x4)]) (st' := [.inl x4, .inr (.inl 5)]) (m' := m) [((12, .aload_n 1, 1, 0, 0, 0, 0), (0, 0, 0)), ((13, .iload 4, 2, 0, 0, 0, 0), (0, 0, 0))] (by decide +kernel) rfl ?_
    refine hx_call (E := (15, .invokevirtual 25, 3, 79, 0, 4237, 0)) (M' := yp_m79) [.inr (.inl 5), .inl x4] [] rfl (by decide +kernel) rfl ⟨rfl, rfl⟩ rfl rfl (hs79_5 (fun c2 => ?_) (fun c2 => ?_))
    · have c2 : cPwd 5 13 m x4 := c2
      show hxn xs n yp_m135 18 [(1, .inr (.inl 5)), (2, .inr (.inl 44)), (3, .inl x3), (4, .inl x4)] [.inl 1] m Q
      refine hx_if .ne 24 (by decide +kernel) (fun c3 => ?_) (fun c3 => ?_)
      · have c3 : (1 : Int) ≠ 0 := c3
        refine hx_blk (npc := 48) (L' := [(1, .inr (.inl 5)), (2, .inr (.inl 44)), (3, .inl x3), (4, .inl x4), (5, .inl (m 14 (x4).toNat))]) (st' := [.inl (m 14 (x4).toNat), .inl (m 12 (x4).toNat), .inl x4, .inl 105, .inr (.inl 5), .inr (.inl 44)]) (m' := m) [((24, .aload_n 1, 1, 0, 0, 0, 0), (0, 0, 0)), ((25, .getfield 29, 3, 2, 13, 1125, 0), (1, 5, 14)), ((28, .iload 4, 2, 0, 0, 0, 0), (0, 0, 0)), ((30, .iaload, 1, 0, 0, 0, 0), (0, 14, 0)), ((31, .istore 5, 2, 0, 0, 0, 0), (0, 0, 0)), ((33, .aload_n 2, 1, 0, 0, 0, 0), (0, 0, 0)), ((34, .aload_n 1, 1, 0, 0, 0, 0), (0, 0, 0)), ((35, .bipush 105, 2, 0, 0, 0, 0), (0, 0, 0)), ((37, .iload 4, 2, 0, 0, 0, 0), (0, 0, 0)), ((39, .aload_n 1, 1, 0, 0, 0, 0), (0, 0, 0)), ((40, .getfield 33, 3, 2, 11, 1113, 0), (1, 5, 12)), ((43, .iload 4, 2, 0, 0, 0, 0), (0, 0, 0)), ((45, .iaload, 1, 0, 0, 0, 0), (0, 12, 0)), ((46, .iload 5, 2, 0, 0, 0, 0), (0, 0, 0))] (by decide +kernel) rfl ?_
        exact hx_call (E := (48, .invokevirtual 36, 3, 82, 0, 4238, 0)) (M' := yp_m82) [.inr (.inl 44), .inr (.inl 5), .inl 105, .inl x4, .inl (m 12 (x4).toNat), .inl (m 14 (x4).toNat)] [] rfl (by decide +kernel) rfl ⟨rfl, rfl⟩ rfl rfl (hx_mono (h2 c1 c2) (fun r m' h' => hx_pick [1, 2, 3, 4, 5] h'))
      · have c3 : (1 : Int) = 0 := by have h : ¬ ((1 : Int) ≠ 0) := c3; omega
        exfalso; omega
    · have c2 : ¬ (cPwd 5 13 m x4) := c2
      show hxn xs n yp_m135 18 [(1, .inr (.inl 5)), (2, .inr (.inl 44)), (3, .inl x3), (4, .inl x4)] [.inl 0] m Q
      refine hx_if .ne 24 (by decide +kernel) (fun c3 => ?_) (fun c3 => ?_)
      · have c3 : (0 : Int) ≠ 0 := c3
        exfalso; omega
      · have c3 : (0 : Int) = 0 := by have h : ¬ ((0 : Int) ≠ 0) := c3; omega
        refine hx_blk (npc := 5) (L' := [(1, .inr (.inl 5)), (2, .inr (.inl 44)), (3, .inl x3), (4, .inl (gx_w (x4 + 1)))]) (st' := []) (m' := m) [((21, .goto 89, 3, 0, 0, 0, 0), (0, 0, 0)), ((110, .iinc 4 1, 3, 0, 0, 0, 0), (0, 0, 0)), ((113, .goto (-108), 3, 0, 0, 0, 0), (0, 0, 0))] (by decide +kernel) rfl ?_
        exact hx_pick [1, 2, 3, 4] (h3 c1 c2)

/-- growPawns from 51 on -/
theorem hr135_51 {xs : List Int32} {n : Nat} {Q : hQ} {m : gx_M} {x3 x4 x5 s0 : Int}
    (h1 : hxn xs n yp_m135 75 [(1, .inr (.inl 5)), (2, .inr (.inl 44)), (3, .inl x3), (4, .inl x4), (5, .inl x5)] [] (gx_u m 15 (x4).toNat (if (gx_w ((m 15 (x4).toNat) + s0)) < 99999 then (gx_w ((m 15 (x4).toNat) + s0)) else 99999)) Q) : hxn xs (n + 1) yp_m135 51 [(1, .inr (.inl 5)), (2, .inr (.inl 44)), (3, .inl x3), (4, .inl x4), (5, .inl x5)] [.inl s0] m Q := by
  refine hx_blks (npc := 75) (L' := [(1, .inr (.inl 5)), (2, .inr (.inl 44)), (3, .inl x3), (4, .inl x4), (5, .inl x5), (6, .inl s0)]) (st' := []) (m' := (gx_u m 15 (x4).toNat (if (gx_w ((m 15 (x4).toNat) + s0)) < 99999 then (gx_w ((m 15 (x4).toNat) + s0)) else 99999))) ((51, .istore 6, 2, 0, 0, 0, 0), (0, 0, 0)) [((53, .aload_n 1, 1, 0, 0, 0, 0), (0, 0, 0)), ((54, .getfield 42, 3, 2, 14, 1128, 0), (1, 5, 15)), ((57, .iload 4, 2, 0, 0, 0, 0), (0, 0, 0)), ((59, .ldc 45, 2, 0, 0, 4239, 99999), (0, 0, 0)), ((61, .aload_n 1, 1, 0, 0, 0, 0), (0, 0, 0)), ((62, .getfield 42, 3, 2, 14, 1128, 0), (1, 5, 15)), ((65, .iload 4, 2, 0, 0, 0, 0), (0, 0, 0)), ((67, .iaload, 1, 0, 0, 0, 0), (0, 15, 0)), ((68, .iload 6, 2, 0, 0, 0, 0), (0, 0, 0)), ((70, .iadd, 1, 0, 0, 0, 0), (0, 0, 0)), ((71, .invokestatic 46, 3, 1003, 2221, 5000, 1013002222), (0, 0, 0)), ((74, .iastore, 1, 0, 0, 0, 0), (0, 15, 0))] (by decide +kernel) rfl ?_
  exact hx_pick [1, 2, 3, 4, 5] h1

/-- growPawns from 75 on -/
theorem hr135_75 {xs : List Int32} {n : Nat} {Q : hQ} {m : gx_M} {x3 x4 x5 : Int}
    (h1 : (x5 ≤ 0) → hxn xs n yp_m135 5 [(1, .inr (.inl 5)), (2, .inr (.inl 44)), (3, .inl x3), (4, .inl (gx_w (x4 + 1)))] [] m Q)
    (h2 : (0 < x5) → ((m 15 (x4).toNat) < (gx_w (2 * x5))) → hxn xs n yp_m135 5 [(1, .inr (.inl 5)), (2, .inr (.inl 44)), (3, .inl x3), (4, .inl (gx_w (x4 + 1)))] [] m Q)
    (h3 : (0 < x5) → ((gx_w (2 * x5)) ≤ (m 15 (x4).toNat)) → hxn xs n yp_m16 0 [(0, .inr (.inl 5)), (1, .inl x4), (2, .inl (m 13 (x4).toNat))] [] m (fun r m' => hxn xs n yp_m135 107 [(1, .inr (.inl 5)), (2, .inr (.inl 44)), (3, .inl x3), (4, .inl x4)] (hrs r ++ []) m' Q)) : hxn xs (n + 1) yp_m135 75 [(1, .inr (.inl 5)), (2, .inr (.inl 44)), (3, .inl x3), (4, .inl x4), (5, .inl x5)] [] m Q := by
  refine hx_blks (npc := 77) (L' := [(1, .inr (.inl 5)), (2, .inr (.inl 44)), (3, .inl x3), (4, .inl x4), (5, .inl x5)]) (st' := [.inl x5]) (m' := m) ((75, .iload 5, 2, 0, 0, 0, 0), (0, 0, 0)) [] (by decide +kernel) rfl ?_
  refine hx_if .le 110 (by decide +kernel) (fun c1 => ?_) (fun c1 => ?_)
  · have c1 : x5 ≤ 0 := c1
    refine hx_blk (npc := 5) (L' := [(1, .inr (.inl 5)), (2, .inr (.inl 44)), (3, .inl x3), (4, .inl (gx_w (x4 + 1))), (5, .inl x5)]) (st' := []) (m' := m) [((110, .iinc 4 1, 3, 0, 0, 0, 0), (0, 0, 0)), ((113, .goto (-108), 3, 0, 0, 0, 0), (0, 0, 0))] (by decide +kernel) rfl ?_
    exact hx_pick [1, 2, 3, 4] (h1 c1)
  · have c1 : 0 < x5 := by have h : ¬ (x5 ≤ 0) := c1; omega
    refine hx_blk (npc := 91) (L' := [(1, .inr (.inl 5)), (2, .inr (.inl 44)), (3, .inl x3), (4, .inl x4), (5, .inl x5)]) (st' := [.inl (gx_w (2 * x5)), .inl (m 15 (x4).toNat)]) (m' := m) [((80, .aload_n 1, 1, 0, 0, 0, 0), (0, 0, 0)), ((81, .getfield 42, 3, 2, 14, 1128, 0), (1, 5, 15)), ((84, .iload 4, 2, 0, 0, 0, 0), (0, 0, 0)), ((86, .iaload, 1, 0, 0, 0, 0), (0, 15, 0)), ((87, .iconst 2, 1, 0, 0, 0, 0), (0, 0, 0)), ((88, .iload 5, 2, 0, 0, 0, 0), (0, 0, 0)), ((90, .imul, 1, 0, 0, 0, 0), (0, 0, 0))] (by decide +kernel) rfl ?_
    refine hx_cmp .lt 110 (by decide +kernel) (fun c2 => ?_) (fun c2 => ?_)
    · have c2 : (m 15 (x4).toNat) < (gx_w (2 * x5)) := c2
      refine hx_blk (npc := 5) (L' := [(1, .inr (.inl 5)), (2, .inr (.inl 44)), (3, .inl x3), (4, .inl (gx_w (x4 + 1))), (5, .inl x5)]) (st' := []) (m' := m) [((110, .iinc 4 1, 3, 0, 0, 0, 0), (0, 0, 0)), ((113, .goto (-108), 3, 0, 0, 0, 0), (0, 0, 0))] (by decide +kernel) rfl ?_
      exact hx_pick [1, 2, 3, 4] (h2 c1 c2)
    · have c2 : (gx_w (2 * x5)) ≤ (m 15 (x4).toNat) := by have h : ¬ ((m 15 (x4).toNat) < (gx_w (2 * x5))) := c2; omega
      refine hx_blk (npc := 104) (L' := [(1, .inr (.inl 5)), (2, .inr (.inl 44)), (3, .inl x3), (4, .inl x4), (5, .inl x5)]) (st' := [.inl (m 13 (x4).toNat), .inl x4, .inr (.inl 5)]) (m' := m) [((94, .aload_n 1, 1, 0, 0, 0, 0), (0, 0, 0)), ((95, .iload 4, 2, 0, 0, 0, 0), (0, 0, 0)), ((97, .aload_n 1, 1, 0, 0, 0, 0), (0, 0, 0)), ((98, .getfield 52, 3, 2, 12, 1120, 0), (1, 5, 13)), ((101, .iload 4, 2, 0, 0, 0, 0), (0, 0, 0)), ((103, .iaload, 1, 0, 0, 0, 0), (0, 13, 0))] (by decide +kernel) rfl ?_
      exact hx_call (E := (104, .invokevirtual 55, 3, 16, 0, 5001, 0)) (M' := yp_m16) [.inr (.inl 5), .inl x4, .inl (m 13 (x4).toNat)] [] rfl (by decide +kernel) rfl ⟨rfl, rfl⟩ rfl rfl (hx_mono (h3 c1 c2) (fun r m' h' => hx_pick [1, 2, 3, 4] h'))

/-- growPawns from 107 on -/
theorem hr135_107 {xs : List Int32} {n : Nat} {Q : hQ} {m : gx_M} {x3 x4 : Int}
    (h1 : hxn xs n yp_m135 5 [(1, .inr (.inl 5)), (2, .inr (.inl 44)), (3, .inl (gx_w (x3 + 1))), (4, .inl (gx_w (x4 + 1)))] [] m Q) : hxn xs (n + 1) yp_m135 107 [(1, .inr (.inl 5)), (2, .inr (.inl 44)), (3, .inl x3), (4, .inl x4)] [] m Q := by
  refine hx_blks (npc := 5) (L' := [(1, .inr (.inl 5)), (2, .inr (.inl 44)), (3, .inl (gx_w (x3 + 1))), (4, .inl (gx_w (x4 + 1)))]) (st' := []) (m' := m) ((107, .iinc 3 1, 3, 0, 0, 0, 0), (0, 0, 0)) [((110, .iinc 4 1, 3, 0, 0, 0, 0), (0, 0, 0)), ((113, .goto (-108), 3, 0, 0, 0, 0), (0, 0, 0))] (by decide +kernel) rfl ?_
  exact hx_pick [1, 2, 3, 4] h1

/-- drawFortunes from 0 on -/
theorem hr136_0 {xs : List Int32} {n : Nat} {Q : hQ} {m : gx_M}
    (h1 : hxn xs n yp_m136 2 [(1, .inr (.inl 5)), (2, .inr (.inl 44)), (3, .inl 0)] [] m Q) : hxn xs (n + 1) yp_m136 0 [(1, .inr (.inl 5)), (2, .inr (.inl 44))] [] m Q := by
  refine hx_blks (npc := 2) (L' := [(1, .inr (.inl 5)), (2, .inr (.inl 44)), (3, .inl 0)]) (st' := []) (m' := m) ((0, .iconst 0, 1, 0, 0, 0, 0), (0, 0, 0)) [((1, .istore_n 3, 1, 0, 0, 0, 0), (0, 0, 0))] (by decide +kernel) rfl ?_
  exact hx_pick [1, 2, 3] h1

/-- drawFortunes from 2 on -/
theorem hr136_2 {xs : List Int32} {n : Nat} {Q : hQ} {m : gx_M} {x3 : Int}
    (h1 : (8 ≤ x3) → Q none m)
    (h2 : (x3 < 8) → (cPers 5 m x3) → hxn xs n yp_m82 0 [(0, .inr (.inl 44)), (1, .inr (.inl 5)), (2, .inl 102), (3, .inl (-1)), (4, .inl x3), (5, .inl 0)] [] (gx_u m 5 4 (gx_and (gx_w ((gx_w (25173 * (m 5 4))) + 13849)) 65535)) (fun r m' => hxn xs n yp_m136 55 [(1, .inr (.inl 5)), (2, .inr (.inl 44)), (3, .inl x3)] (hrs r ++ [.inl (Int.tmod (gx_and (gx_w ((gx_w (25173 * (m 5 4))) + 13849)) 65535) 10)]) m' Q))
    (h3 : (x3 < 8) → (¬ (cPers 5 m x3)) → hxn xs n yp_m136 2 [(1, .inr (.inl 5)), (2, .inr (.inl 44)), (3, .inl (gx_w (x3 + 1)))] [] m Q) : hxn xs (n + 1) yp_m136 2 [(1, .inr (.inl 5)), (2, .inr (.inl 44)), (3, .inl x3)] [] m Q := by
  refine hx_blks (npc := 5) (L' := [(1, .inr (.inl 5)), (2, .inr (.inl 44)), (3, .inl x3)]) (st' := [.inl 8, .inl x3]) (m' := m) ((2, .iload_n 3, 1, 0, 0, 0, 0), (0, 0, 0)) [((3, .bipush 8, 2, 0, 0, 0, 0), (0, 0, 0))] (by decide +kernel) rfl ?_
  refine hx_cmp .ge 79 (by decide +kernel) (fun c1 => ?_) (fun c1 => ?_)
  · have c1 : 8 ≤ x3 := c1
    exact hx_ret0 (by decide +kernel) (h1 c1)
  · have c1 : x3 < 8 := by have h : ¬ (8 ≤ x3) := c1; omega
    refine hx_blk (npc := 10) (L' := [(1, .inr (.inl 5)), (2, .inr (.inl 44)), (3, .inl x3)]) (st' := [.inl x3, .inr (.inl 5)]) (m' := m) [((8, .aload_n 1, 1, 0, 0, 0, 0), (0, 0, 0)), ((9, .iload_n 3, 1, 0, 0, 0, 0), (0, 0, 0))] (by decide +kernel) rfl ?_
    refine hx_call (E := (10, .invokevirtual 59, 3, 13, 0, 5006, 0)) (M' := yp_m13) [.inr (.inl 5), .inl x3] [] rfl (by decide +kernel) rfl ⟨rfl, rfl⟩ rfl rfl (hs13_5 (fun c2 => ?_) (fun c2 => ?_))
    · have c2 : cPers 5 m x3 := c2
      show hxn xs n yp_m136 13 [(1, .inr (.inl 5)), (2, .inr (.inl 44)), (3, .inl x3)] [.inl 1] m Q
      refine hx_if .ne 19 (by decide +kernel) (fun c3 => ?_) (fun c3 => ?_)
      · have c3 : (1 : Int) ≠ 0 := c3
        have f1 := gx_and_bd (gx_w ((gx_w (25173 * (m 5 4))) + 13849)) 65535 (by decide)
        refine hx_blk (npc := 52) (L' := [(1, .inr (.inl 5)), (2, .inr (.inl 44)), (3, .inl x3)]) (st' := [.inl 0, .inl x3, .inl (-1), .inl 102, .inr (.inl 5), .inr (.inl 44), .inl (Int.tmod (gx_and (gx_w ((gx_w (25173 * (m 5 4))) + 13849)) 65535) 10)]) (m' := (gx_u m 5 4 (gx_and (gx_w ((gx_w (25173 * (m 5 4))) + 13849)) 65535))) [((19, .aload_n 1, 1, 0, 0, 0, 0), (0, 0, 0)), ((20, .sipush 25173, 3, 0, 0, 0, 0), (0, 0, 0)), ((23, .aload_n 1, 1, 0, 0, 0, 0), (0, 0, 0)), ((24, .getfield 62, 3, 2, 4, 1087, 0), (0, 5, 0)), ((27, .imul, 1, 0, 0, 0, 0), (0, 0, 0)), ((28, .sipush 13849, 3, 0, 0, 0, 0), (0, 0, 0)), ((31, .iadd, 1, 0, 0, 0, 0), (0, 0, 0)), ((32, .ldc 65, 2, 0, 0, 5007, 65535), (0, 0, 0)), ((34, .iand, 1, 0, 0, 0, 0), (0, 0, 0)), ((35, .putfield 62, 3, 2, 4, 1087, 0), (0, 5, 0)), ((38, .aload_n 1, 1, 0, 0, 0, 0), (0, 0, 0)), ((39, .getfield 62, 3, 2, 4, 1087, 0), (0, 5, 0)), ((42, .bipush 10, 2, 0, 0, 0, 0), (0, 0, 0)), ((44, .irem, 1, 0, 0, 0, 0), (0, 0, 0)), ((45, .aload_n 2, 1, 0, 0, 0, 0), (0, 0, 0)), ((46, .aload_n 1, 1, 0, 0, 0, 0), (0, 0, 0)), ((47, .bipush 102, 2, 0, 0, 0, 0), (0, 0, 0)), ((49, .iconst (-1), 1, 0, 0, 0, 0), (0, 0, 0)), ((50, .iload_n 3, 1, 0, 0, 0, 0), (0, 0, 0)), ((51, .iconst 0, 1, 0, 0, 0, 0), (0, 0, 0))] (by decide +kernel) rfl ?_
        exact hx_call (E := (52, .invokevirtual 36, 3, 82, 0, 4238, 0)) (M' := yp_m82) [.inr (.inl 44), .inr (.inl 5), .inl 102, .inl (-1), .inl x3, .inl 0] [.inl (Int.tmod (gx_and (gx_w ((gx_w (25173 * (m 5 4))) + 13849)) 65535) 10)] rfl (by decide +kernel) rfl ⟨rfl, rfl⟩ rfl rfl (hx_mono (h2 c1 c2) (fun r m' h' => hx_pick [1, 2, 3] h'))
      · have c3 : (1 : Int) = 0 := by have h : ¬ ((1 : Int) ≠ 0) := c3; omega
        exfalso; omega
    · have c2 : ¬ (cPers 5 m x3) := c2
      show hxn xs n yp_m136 13 [(1, .inr (.inl 5)), (2, .inr (.inl 44)), (3, .inl x3)] [.inl 0] m Q
      refine hx_if .ne 19 (by decide +kernel) (fun c3 => ?_) (fun c3 => ?_)
      · have c3 : (0 : Int) ≠ 0 := c3
        exfalso; omega
      · have c3 : (0 : Int) = 0 := by have h : ¬ ((0 : Int) ≠ 0) := c3; omega
        refine hx_blk (npc := 2) (L' := [(1, .inr (.inl 5)), (2, .inr (.inl 44)), (3, .inl (gx_w (x3 + 1)))]) (st' := []) (m' := m) [((16, .goto 57, 3, 0, 0, 0, 0), (0, 0, 0)), ((73, .iinc 3 1, 3, 0, 0, 0, 0), (0, 0, 0)), ((76, .goto (-74), 3, 0, 0, 0, 0), (0, 0, 0))] (by decide +kernel) rfl ?_
        exact hx_pick [1, 2, 3] (h3 c1 c2)

/-- drawFortunes from 55 on -/
theorem hr136_55 {xs : List Int32} {n : Nat} {Q : hQ} {m : gx_M} {x3 s0 s1 : Int}
    (h1 : (s1 ≤ s0) → hxn xs n yp_m136 2 [(1, .inr (.inl 5)), (2, .inr (.inl 44)), (3, .inl (gx_w (x3 + 1)))] [] m Q)
    (h2 : (s0 < s1) → hxn xs n yp_m82 0 [(0, .inr (.inl 44)), (1, .inr (.inl 5)), (2, .inl 103), (3, .inl (-1)), (4, .inl x3), (5, .inl 0)] [] m (fun r m' => hxn xs n yp_m136 70 [(1, .inr (.inl 5)), (2, .inr (.inl 44)), (3, .inl x3)] (hrs r ++ [.inl x3, .inr (.inl 5)]) m' Q)) : hxn xs (n + 1) yp_m136 55 [(1, .inr (.inl 5)), (2, .inr (.inl 44)), (3, .inl x3)] [.inl s1, .inl s0] m Q := by
  refine hx_cmps .ge 73 (by decide +kernel) (fun c1 => ?_) (fun c1 => ?_)
  · have c1 : s1 ≤ s0 := c1
    refine hx_blk (npc := 2) (L' := [(1, .inr (.inl 5)), (2, .inr (.inl 44)), (3, .inl (gx_w (x3 + 1)))]) (st' := []) (m' := m) [((73, .iinc 3 1, 3, 0, 0, 0, 0), (0, 0, 0)), ((76, .goto (-74), 3, 0, 0, 0, 0), (0, 0, 0))] (by decide +kernel) rfl ?_
    exact hx_pick [1, 2, 3] (h1 c1)
  · have c1 : s0 < s1 := by have h : ¬ (s1 ≤ s0) := c1; omega
    refine hx_blk (npc := 67) (L' := [(1, .inr (.inl 5)), (2, .inr (.inl 44)), (3, .inl x3)]) (st' := [.inl 0, .inl x3, .inl (-1), .inl 103, .inr (.inl 5), .inr (.inl 44), .inl x3, .inr (.inl 5)]) (m' := m) [((58, .aload_n 1, 1, 0, 0, 0, 0), (0, 0, 0)), ((59, .iload_n 3, 1, 0, 0, 0, 0), (0, 0, 0)), ((60, .aload_n 2, 1, 0, 0, 0, 0), (0, 0, 0)), ((61, .aload_n 1, 1, 0, 0, 0, 0), (0, 0, 0)), ((62, .bipush 103, 2, 0, 0, 0, 0), (0, 0, 0)), ((64, .iconst (-1), 1, 0, 0, 0, 0), (0, 0, 0)), ((65, .iload_n 3, 1, 0, 0, 0, 0), (0, 0, 0)), ((66, .iconst 0, 1, 0, 0, 0, 0), (0, 0, 0))] (by decide +kernel) rfl ?_
    exact hx_call (E := (67, .invokevirtual 36, 3, 82, 0, 4238, 0)) (M' := yp_m82) [.inr (.inl 44), .inr (.inl 5), .inl 103, .inl (-1), .inl x3, .inl 0] [.inl x3, .inr (.inl 5)] rfl (by decide +kernel) rfl ⟨rfl, rfl⟩ rfl rfl (hx_mono (h2 c1) (fun r m' h' => hx_pick [1, 2, 3] h'))

/-- drawFortunes from 70 on -/
theorem hr136_70 {xs : List Int32} {n : Nat} {Q : hQ} {m : gx_M} {x3 s1 s2 : Int}
    (h1 : hxn xs n yp_m69 0 [(0, .inr (.inl 5)), (1, .inl s1), (2, .inl s2)] [] m (fun r m' => hxn xs n yp_m136 73 [(1, .inr (.inl 5)), (2, .inr (.inl 44)), (3, .inl x3)] (hrs r ++ []) m' Q)) : hxn xs (n + 1) yp_m136 70 [(1, .inr (.inl 5)), (2, .inr (.inl 44)), (3, .inl x3)] [.inl s2, .inl s1, .inr (.inl 5)] m Q := by
  exact hx_calls (E := (70, .invokevirtual 66, 3, 69, 0, 5008, 0)) (M' := yp_m69) [.inr (.inl 5), .inl s1, .inl s2] [] rfl (by decide +kernel) rfl ⟨rfl, rfl⟩ rfl rfl (hx_mono h1 (fun r m' h' => hx_pick [1, 2, 3] h'))

/-- drawFortunes from 73 on -/
theorem hr136_73 {xs : List Int32} {n : Nat} {Q : hQ} {m : gx_M} {x3 : Int}
    (h1 : hxn xs n yp_m136 2 [(1, .inr (.inl 5)), (2, .inr (.inl 44)), (3, .inl (gx_w (x3 + 1)))] [] m Q) : hxn xs (n + 1) yp_m136 73 [(1, .inr (.inl 5)), (2, .inr (.inl 44)), (3, .inl x3)] [] m Q := by
  refine hx_blks (npc := 2) (L' := [(1, .inr (.inl 5)), (2, .inr (.inl 44)), (3, .inl (gx_w (x3 + 1)))]) (st' := []) (m' := m) ((73, .iinc 3 1, 3, 0, 0, 0, 0), (0, 0, 0)) [((76, .goto (-74), 3, 0, 0, 0, 0), (0, 0, 0))] (by decide +kernel) rfl ?_
  exact hx_pick [1, 2, 3] h1

/-- pass from 0 on -/
theorem hr134_0 {xs : List Int32} {n : Nat} {Q : hQ} {m : gx_M} {x3 : Int}
    (h1 : hxn xs n yp_m134 6 [(0, .inr (.inl 69)), (1, .inr (.inl 5)), (2, .inr (.inl 44)), (3, .inl x3), (4, .inl 0), (5, .inl 0)] [] m Q) : hxn xs (n + 1) yp_m134 0 [(0, .inr (.inl 69)), (1, .inr (.inl 5)), (2, .inr (.inl 44)), (3, .inl x3)] [] m Q := by
  refine hx_blks (npc := 6) (L' := [(0, .inr (.inl 69)), (1, .inr (.inl 5)), (2, .inr (.inl 44)), (3, .inl x3), (4, .inl 0), (5, .inl 0)]) (st' := []) (m' := m) ((0, .iconst 0, 1, 0, 0, 0, 0), (0, 0, 0)) [((1, .istore 4, 2, 0, 0, 0, 0), (0, 0, 0)), ((3, .iconst 0, 1, 0, 0, 0, 0), (0, 0, 0)), ((4, .istore 5, 2, 0, 0, 0, 0), (0, 0, 0))] (by decide +kernel) rfl ?_
  exact hx_pick [0, 1, 2, 3, 4, 5] h1

/-- pass from 6 on -/
theorem hr134_6 {xs : List Int32} {n : Nat} {Q : hQ} {m : gx_M} {x3 x4 x5 : Int}
    (h1 : (x3 ≤ x5) → Q (some (.inl x4)) m)
    (h2 : (x5 < x3) → hxn xs n yp_m135 0 [(0, .inr (.inl 69)), (1, .inr (.inl 5)), (2, .inr (.inl 44))] [] m (fun r m' => hxn xs n yp_m134 20 [(0, .inr (.inl 69)), (1, .inr (.inl 5)), (2, .inr (.inl 44)), (3, .inl x3), (5, .inl x5)] (hrs r ++ [.inl x4]) m' Q)) : hxn xs (n + 1) yp_m134 6 [(0, .inr (.inl 69)), (1, .inr (.inl 5)), (2, .inr (.inl 44)), (3, .inl x3), (4, .inl x4), (5, .inl x5)] [] m Q := by
  refine hx_blks (npc := 9) (L' := [(0, .inr (.inl 69)), (1, .inr (.inl 5)), (2, .inr (.inl 44)), (3, .inl x3), (4, .inl x4), (5, .inl x5)]) (st' := [.inl x3, .inl x5]) (m' := m) ((6, .iload 5, 2, 0, 0, 0, 0), (0, 0, 0)) [((8, .iload_n 3, 1, 0, 0, 0, 0), (0, 0, 0))] (by decide +kernel) rfl ?_
  refine hx_cmp .ge 45 (by decide +kernel) (fun c1 => ?_) (fun c1 => ?_)
  · have c1 : x3 ≤ x5 := c1
    refine hx_blk (npc := 47) (L' := [(0, .inr (.inl 69)), (1, .inr (.inl 5)), (2, .inr (.inl 44)), (3, .inl x3), (4, .inl x4), (5, .inl x5)]) (st' := [.inl x4]) (m' := m) [((45, .iload 4, 2, 0, 0, 0, 0), (0, 0, 0))] (by decide +kernel) rfl ?_
    exact hx_reti (by decide +kernel) (h1 c1)
  · have c1 : x5 < x3 := by have h : ¬ (x3 ≤ x5) := c1; omega
    refine hx_blk (npc := 17) (L' := [(0, .inr (.inl 69)), (1, .inr (.inl 5)), (2, .inr (.inl 44)), (3, .inl x3), (4, .inl x4), (5, .inl x5)]) (st' := [.inr (.inl 44), .inr (.inl 5), .inr (.inl 69), .inl x4]) (m' := m) [((12, .iload 4, 2, 0, 0, 0, 0), (0, 0, 0)), ((14, .aload_n 0, 1, 0, 0, 0, 0), (0, 0, 0)), ((15, .aload_n 1, 1, 0, 0, 0, 0), (0, 0, 0)), ((16, .aload_n 2, 1, 0, 0, 0, 0), (0, 0, 0))] (by decide +kernel) rfl ?_
    exact hx_call (E := (17, .invokevirtual 9, 3, 135, 0, 4233, 0)) (M' := yp_m135) [.inr (.inl 69), .inr (.inl 5), .inr (.inl 44)] [.inl x4] rfl (by decide +kernel) rfl ⟨rfl, rfl⟩ rfl rfl (hx_mono (h2 c1) (fun r m' h' => hx_pick [0, 1, 2, 3, 5] h'))

/-- pass from 20 on -/
theorem hr134_20 {xs : List Int32} {n : Nat} {Q : hQ} {m : gx_M} {x3 x5 s0 s1 : Int}
    (h1 : hxn xs n yp_m136 0 [(0, .inr (.inl 69)), (1, .inr (.inl 5)), (2, .inr (.inl 44))] [] m (fun r m' => hxn xs n yp_m134 29 [(0, .inr (.inl 69)), (1, .inr (.inl 5)), (2, .inr (.inl 44)), (3, .inl x3), (4, .inl (gx_w (s0 + s1))), (5, .inl x5)] (hrs r ++ []) m' Q)) : hxn xs (n + 1) yp_m134 20 [(0, .inr (.inl 69)), (1, .inr (.inl 5)), (2, .inr (.inl 44)), (3, .inl x3), (5, .inl x5)] [.inl s1, .inl s0] m Q := by
  refine hx_blks (npc := 26) (L' := [(0, .inr (.inl 69)), (1, .inr (.inl 5)), (2, .inr (.inl 44)), (3, .inl x3), (5, .inl x5), (4, .inl (gx_w (s0 + s1)))]) (st' := [.inr (.inl 44), .inr (.inl 5), .inr (.inl 69)]) (m' := m) ((20, .iadd, 1, 0, 0, 0, 0), (0, 0, 0)) [((21, .istore 4, 2, 0, 0, 0, 0), (0, 0, 0)), ((23, .aload_n 0, 1, 0, 0, 0, 0), (0, 0, 0)), ((24, .aload_n 1, 1, 0, 0, 0, 0), (0, 0, 0)), ((25, .aload_n 2, 1, 0, 0, 0, 0), (0, 0, 0))] (by decide +kernel) rfl ?_
  exact hx_call (E := (26, .invokevirtual 15, 3, 136, 0, 5002, 0)) (M' := yp_m136) [.inr (.inl 69), .inr (.inl 5), .inr (.inl 44)] [] rfl (by decide +kernel) rfl ⟨rfl, rfl⟩ rfl rfl (hx_mono h1 (fun r m' h' => hx_pick [0, 1, 2, 3, 4, 5] h'))

/-- pass from 29 on -/
theorem hr134_29 {xs : List Int32} {n : Nat} {Q : hQ} {m : gx_M} {x3 x4 x5 : Int}
    (h1 : hxn xs n yp_m134 6 [(0, .inr (.inl 69)), (1, .inr (.inl 5)), (2, .inr (.inl 44)), (3, .inl x3), (4, .inl x4), (5, .inl (gx_w (x5 + 1)))] [] (gx_u m 5 3 (gx_w ((m 5 3) + 1))) Q) : hxn xs (n + 1) yp_m134 29 [(0, .inr (.inl 69)), (1, .inr (.inl 5)), (2, .inr (.inl 44)), (3, .inl x3), (4, .inl x4), (5, .inl x5)] [] m Q := by
  refine hx_blks (npc := 6) (L' := [(0, .inr (.inl 69)), (1, .inr (.inl 5)), (2, .inr (.inl 44)), (3, .inl x3), (4, .inl x4), (5, .inl (gx_w (x5 + 1)))]) (st' := []) (m' := (gx_u m 5 3 (gx_w ((m 5 3) + 1)))) ((29, .aload_n 1, 1, 0, 0, 0, 0), (0, 0, 0)) [((30, .dup, 1, 0, 0, 0, 0), (0, 0, 0)), ((31, .getfield 19, 3, 2, 3, 1083, 0), (0, 5, 0)), ((34, .iconst 1, 1, 0, 0, 0, 0), (0, 0, 0)), ((35, .iadd, 1, 0, 0, 0, 0), (0, 0, 0)), ((36, .putfield 19, 3, 2, 3, 1083, 0), (0, 5, 0)), ((39, .iinc 5 1, 3, 0, 0, 0, 0), (0, 0, 0)), ((42, .goto (-36), 3, 0, 0, 0, 0), (0, 0, 0))] (by decide +kernel) rfl ?_
  exact hx_pick [0, 1, 2, 3, 4, 5] h1

/-- growPawns from 0 on -/
theorem hr31_135_0 {xs : List Int32} {n : Nat} {Q : hQ} {m : gx_M}
    (h1 : hxn xs n yp_m135 5 [(1, .inr (.inl 31)), (2, .inr (.inl 44)), (3, .inl 0), (4, .inl 0)] [] m Q) : hxn xs (n + 1) yp_m135 0 [(1, .inr (.inl 31)), (2, .inr (.inl 44))] [] m Q := by
  refine hx_blks (npc := 5) (L' := [(1, .inr (.inl 31)), (2, .inr (.inl 44)), (3, .inl 0), (4, .inl 0)]) (st' := []) (m' := m) ((0, .iconst 0, 1, 0, 0, 0, 0), (0, 0, 0)) [((1, .istore_n 3, 1, 0, 0, 0, 0), (0, 0, 0)), ((2, .iconst 0, 1, 0, 0, 0, 0), (0, 0, 0)), ((3, .istore 4, 2, 0, 0, 0, 0), (0, 0, 0))] (by decide +kernel) rfl ?_
  exact hx_pick [1, 2, 3, 4] h1

/-- growPawns from 5 on -/
theorem hr31_135_5 {xs : List Int32} {n : Nat} {Q : hQ} {m : gx_M} {x3 x4 : Int}
    (h1 : (40 ≤ x4) → Q (some (.inl x3)) m)
    (h2 : (x4 < 40) → (cPwd 31 39 m x4) → hxn xs n yp_m82 0 [(0, .inr (.inl 44)), (1, .inr (.inl 31)), (2, .inl 105), (3, .inl x4), (4, .inl (m 38 (x4).toNat)), (5, .inl (m 40 (x4).toNat))] [] m (fun r m' => hxn xs n yp_m135 51 [(1, .inr (.inl 31)), (2, .inr (.inl 44)), (3, .inl x3), (4, .inl x4), (5, .inl (m 40 (x4).toNat))] (hrs r ++ []) m' Q))
    (h3 : (x4 < 40) → (¬ (cPwd 31 39 m x4)) → hxn xs n yp_m135 5 [(1, .inr (.inl 31)), (2, .inr (.inl 44)), (3, .inl x3), (4, .inl (gx_w (x4 + 1)))] [] m Q) : hxn xs (n + 1) yp_m135 5 [(1, .inr (.inl 31)), (2, .inr (.inl 44)), (3, .inl x3), (4, .inl x4)] [] m Q := by
  refine hx_blks (npc := 9) (L' := [(1, .inr (.inl 31)), (2, .inr (.inl 44)), (3, .inl x3), (4, .inl x4)]) (st' := [.inl 40, .inl x4]) (m' := m) ((5, .iload 4, 2, 0, 0, 0, 0), (0, 0, 0)) [((7, .bipush 40, 2, 0, 0, 0, 0), (0, 0, 0))] (by decide +kernel) rfl ?_
  refine hx_cmp .ge 116 (by decide +kernel) (fun c1 => ?_) (fun c1 => ?_)
  · have c1 : 40 ≤ x4 := c1
    refine hx_blk (npc := 117) (L' := [(1, .inr (.inl 31)), (2, .inr (.inl 44)), (3, .inl x3), (4, .inl x4)]) (st' := [.inl x3]) (m' := m) [((116, .iload_n 3, 1, 0, 0, 0, 0), (0, 0, 0))] (by decide +kernel) rfl ?_
    exact hx_reti (by decide +kernel) (h1 c1)
  · have c1 : x4 < 40 := by have h : ¬ (40 ≤ x4) := c1; omega
    refine hx_blk (npc := 15) (L' := [(1, .inr (.inl 31)), (2, .inr (.inl 44)), (3, .inl x3), (4, .inl x4)]) (st' := [.inl x4, .inr (.inl 31)]) (m' := m) [((12, .aload_n 1, 1, 0, 0, 0, 0), (0, 0, 0)), ((13, .iload 4, 2, 0, 0, 0, 0), (0, 0, 0))] (by decide +kernel) rfl ?_
    refine hx_call (E := (15, .invokevirtual 25, 3, 79, 0, 4237, 0)) (M' := yp_m79) [.inr (.inl 31), .inl x4] [] rfl (by decide +kernel) rfl ⟨rfl, rfl⟩ rfl rfl (hs79_31 (fun c2 => ?_) (fun c2 => ?_))
    · have c2 : cPwd 31 39 m x4 := c2
      show hxn xs n yp_m135 18 [(1, .inr (.inl 31)), (2, .inr (.inl 44)), (3, .inl x3), (4, .inl x4)] [.inl 1] m Q
      refine hx_if .ne 24 (by decide +kernel) (fun c3 => ?_) (fun c3 => ?_)
      · have c3 : (1 : Int) ≠ 0 := c3
        refine hx_blk (npc := 48) (L' := [(1, .inr (.inl 31)), (2, .inr (.inl 44)), (3, .inl x3), (4, .inl x4), (5, .inl (m 40 (x4).toNat))]) (st' := [.inl (m 40 (x4).toNat), .inl (m 38 (x4).toNat), .inl x4, .inl 105, .inr (.inl 31), .inr (.inl 44)]) (m' := m) [((24, .aload_n 1, 1, 0, 0, 0, 0), (0, 0, 0)), ((25, .getfield 29, 3, 2, 13, 1125, 0), (1, 31, 40)), ((28, .iload 4, 2, 0, 0, 0, 0), (0, 0, 0)), ((30, .iaload, 1, 0, 0, 0, 0), (0, 40, 0)), ((31, .istore 5, 2, 0, 0, 0, 0), (0, 0, 0)), ((33, .aload_n 2, 1, 0, 0, 0, 0), (0, 0, 0)), ((34, .aload_n 1, 1, 0, 0, 0, 0), (0, 0, 0)), ((35, .bipush 105, 2, 0, 0, 0, 0), (0, 0, 0)), ((37, .iload 4, 2, 0, 0, 0, 0), (0, 0, 0)), ((39, .aload_n 1, 1, 0, 0, 0, 0), (0, 0, 0)), ((40, .getfield 33, 3, 2, 11, 1113, 0), (1, 31, 38)), ((43, .iload 4, 2, 0, 0, 0, 0), (0, 0, 0)), ((45, .iaload, 1, 0, 0, 0, 0), (0, 38, 0)), ((46, .iload 5, 2, 0, 0, 0, 0), (0, 0, 0))] (by decide +kernel) rfl ?_
        exact hx_call (E := (48, .invokevirtual 36, 3, 82, 0, 4238, 0)) (M' := yp_m82) [.inr (.inl 44), .inr (.inl 31), .inl 105, .inl x4, .inl (m 38 (x4).toNat), .inl (m 40 (x4).toNat)] [] rfl (by decide +kernel) rfl ⟨rfl, rfl⟩ rfl rfl (hx_mono (h2 c1 c2) (fun r m' h' => hx_pick [1, 2, 3, 4, 5] h'))
      · have c3 : (1 : Int) = 0 := by have h : ¬ ((1 : Int) ≠ 0) := c3; omega
        exfalso; omega
    · have c2 : ¬ (cPwd 31 39 m x4) := c2
      show hxn xs n yp_m135 18 [(1, .inr (.inl 31)), (2, .inr (.inl 44)), (3, .inl x3), (4, .inl x4)] [.inl 0] m Q
      refine hx_if .ne 24 (by decide +kernel) (fun c3 => ?_) (fun c3 => ?_)
      · have c3 : (0 : Int) ≠ 0 := c3
        exfalso; omega
      · have c3 : (0 : Int) = 0 := by have h : ¬ ((0 : Int) ≠ 0) := c3; omega
        refine hx_blk (npc := 5) (L' := [(1, .inr (.inl 31)), (2, .inr (.inl 44)), (3, .inl x3), (4, .inl (gx_w (x4 + 1)))]) (st' := []) (m' := m) [((21, .goto 89, 3, 0, 0, 0, 0), (0, 0, 0)), ((110, .iinc 4 1, 3, 0, 0, 0, 0), (0, 0, 0)), ((113, .goto (-108), 3, 0, 0, 0, 0), (0, 0, 0))] (by decide +kernel) rfl ?_
        exact hx_pick [1, 2, 3, 4] (h3 c1 c2)

/-- growPawns from 51 on -/
theorem hr31_135_51 {xs : List Int32} {n : Nat} {Q : hQ} {m : gx_M} {x3 x4 x5 s0 : Int}
    (h1 : hxn xs n yp_m135 75 [(1, .inr (.inl 31)), (2, .inr (.inl 44)), (3, .inl x3), (4, .inl x4), (5, .inl x5)] [] (gx_u m 41 (x4).toNat (if (gx_w ((m 41 (x4).toNat) + s0)) < 99999 then (gx_w ((m 41 (x4).toNat) + s0)) else 99999)) Q) : hxn xs (n + 1) yp_m135 51 [(1, .inr (.inl 31)), (2, .inr (.inl 44)), (3, .inl x3), (4, .inl x4), (5, .inl x5)] [.inl s0] m Q := by
  refine hx_blks (npc := 75) (L' := [(1, .inr (.inl 31)), (2, .inr (.inl 44)), (3, .inl x3), (4, .inl x4), (5, .inl x5), (6, .inl s0)]) (st' := []) (m' := (gx_u m 41 (x4).toNat (if (gx_w ((m 41 (x4).toNat) + s0)) < 99999 then (gx_w ((m 41 (x4).toNat) + s0)) else 99999))) ((51, .istore 6, 2, 0, 0, 0, 0), (0, 0, 0)) [((53, .aload_n 1, 1, 0, 0, 0, 0), (0, 0, 0)), ((54, .getfield 42, 3, 2, 14, 1128, 0), (1, 31, 41)), ((57, .iload 4, 2, 0, 0, 0, 0), (0, 0, 0)), ((59, .ldc 45, 2, 0, 0, 4239, 99999), (0, 0, 0)), ((61, .aload_n 1, 1, 0, 0, 0, 0), (0, 0, 0)), ((62, .getfield 42, 3, 2, 14, 1128, 0), (1, 31, 41)), ((65, .iload 4, 2, 0, 0, 0, 0), (0, 0, 0)), ((67, .iaload, 1, 0, 0, 0, 0), (0, 41, 0)), ((68, .iload 6, 2, 0, 0, 0, 0), (0, 0, 0)), ((70, .iadd, 1, 0, 0, 0, 0), (0, 0, 0)), ((71, .invokestatic 46, 3, 1003, 2221, 5000, 1013002222), (0, 0, 0)), ((74, .iastore, 1, 0, 0, 0, 0), (0, 41, 0))] (by decide +kernel) rfl ?_
  exact hx_pick [1, 2, 3, 4, 5] h1

/-- growPawns from 75 on -/
theorem hr31_135_75 {xs : List Int32} {n : Nat} {Q : hQ} {m : gx_M} {x3 x4 x5 : Int}
    (h1 : (x5 ≤ 0) → hxn xs n yp_m135 5 [(1, .inr (.inl 31)), (2, .inr (.inl 44)), (3, .inl x3), (4, .inl (gx_w (x4 + 1)))] [] m Q)
    (h2 : (0 < x5) → ((m 41 (x4).toNat) < (gx_w (2 * x5))) → hxn xs n yp_m135 5 [(1, .inr (.inl 31)), (2, .inr (.inl 44)), (3, .inl x3), (4, .inl (gx_w (x4 + 1)))] [] m Q)
    (h3 : (0 < x5) → ((gx_w (2 * x5)) ≤ (m 41 (x4).toNat)) → hxn xs n yp_m16 0 [(0, .inr (.inl 31)), (1, .inl x4), (2, .inl (m 39 (x4).toNat))] [] m (fun r m' => hxn xs n yp_m135 107 [(1, .inr (.inl 31)), (2, .inr (.inl 44)), (3, .inl x3), (4, .inl x4)] (hrs r ++ []) m' Q)) : hxn xs (n + 1) yp_m135 75 [(1, .inr (.inl 31)), (2, .inr (.inl 44)), (3, .inl x3), (4, .inl x4), (5, .inl x5)] [] m Q := by
  refine hx_blks (npc := 77) (L' := [(1, .inr (.inl 31)), (2, .inr (.inl 44)), (3, .inl x3), (4, .inl x4), (5, .inl x5)]) (st' := [.inl x5]) (m' := m) ((75, .iload 5, 2, 0, 0, 0, 0), (0, 0, 0)) [] (by decide +kernel) rfl ?_
  refine hx_if .le 110 (by decide +kernel) (fun c1 => ?_) (fun c1 => ?_)
  · have c1 : x5 ≤ 0 := c1
    refine hx_blk (npc := 5) (L' := [(1, .inr (.inl 31)), (2, .inr (.inl 44)), (3, .inl x3), (4, .inl (gx_w (x4 + 1))), (5, .inl x5)]) (st' := []) (m' := m) [((110, .iinc 4 1, 3, 0, 0, 0, 0), (0, 0, 0)), ((113, .goto (-108), 3, 0, 0, 0, 0), (0, 0, 0))] (by decide +kernel) rfl ?_
    exact hx_pick [1, 2, 3, 4] (h1 c1)
  · have c1 : 0 < x5 := by have h : ¬ (x5 ≤ 0) := c1; omega
    refine hx_blk (npc := 91) (L' := [(1, .inr (.inl 31)), (2, .inr (.inl 44)), (3, .inl x3), (4, .inl x4), (5, .inl x5)]) (st' := [.inl (gx_w (2 * x5)), .inl (m 41 (x4).toNat)]) (m' := m) [((80, .aload_n 1, 1, 0, 0, 0, 0), (0, 0, 0)), ((81, .getfield 42, 3, 2, 14, 1128, 0), (1, 31, 41)), ((84, .iload 4, 2, 0, 0, 0, 0), (0, 0, 0)), ((86, .iaload, 1, 0, 0, 0, 0), (0, 41, 0)), ((87, .iconst 2, 1, 0, 0, 0, 0), (0, 0, 0)), ((88, .iload 5, 2, 0, 0, 0, 0), (0, 0, 0)), ((90, .imul, 1, 0, 0, 0, 0), (0, 0, 0))] (by decide +kernel) rfl ?_
    refine hx_cmp .lt 110 (by decide +kernel) (fun c2 => ?_) (fun c2 => ?_)
    · have c2 : (m 41 (x4).toNat) < (gx_w (2 * x5)) := c2
      refine hx_blk (npc := 5) (L' := [(1, .inr (.inl 31)), (2, .inr (.inl 44)), (3, .inl x3), (4, .inl (gx_w (x4 + 1))), (5, .inl x5)]) (st' := []) (m' := m) [((110, .iinc 4 1, 3, 0, 0, 0, 0), (0, 0, 0)), ((113, .goto (-108), 3, 0, 0, 0, 0), (0, 0, 0))] (by decide +kernel) rfl ?_
      exact hx_pick [1, 2, 3, 4] (h2 c1 c2)
    · have c2 : (gx_w (2 * x5)) ≤ (m 41 (x4).toNat) := by have h : ¬ ((m 41 (x4).toNat) < (gx_w (2 * x5))) := c2; omega
      refine hx_blk (npc := 104) (L' := [(1, .inr (.inl 31)), (2, .inr (.inl 44)), (3, .inl x3), (4, .inl x4), (5, .inl x5)]) (st' := [.inl (m 39 (x4).toNat), .inl x4, .inr (.inl 31)]) (m' := m) [((94, .aload_n 1, 1, 0, 0, 0, 0), (0, 0, 0)), ((95, .iload 4, 2, 0, 0, 0, 0), (0, 0, 0)), ((97, .aload_n 1, 1, 0, 0, 0, 0), (0, 0, 0)), ((98, .getfield 52, 3, 2, 12, 1120, 0), (1, 31, 39)), ((101, .iload 4, 2, 0, 0, 0, 0), (0, 0, 0)), ((103, .iaload, 1, 0, 0, 0, 0), (0, 39, 0))] (by decide +kernel) rfl ?_
      exact hx_call (E := (104, .invokevirtual 55, 3, 16, 0, 5001, 0)) (M' := yp_m16) [.inr (.inl 31), .inl x4, .inl (m 39 (x4).toNat)] [] rfl (by decide +kernel) rfl ⟨rfl, rfl⟩ rfl rfl (hx_mono (h3 c1 c2) (fun r m' h' => hx_pick [1, 2, 3, 4] h'))

/-- growPawns from 107 on -/
theorem hr31_135_107 {xs : List Int32} {n : Nat} {Q : hQ} {m : gx_M} {x3 x4 : Int}
    (h1 : hxn xs n yp_m135 5 [(1, .inr (.inl 31)), (2, .inr (.inl 44)), (3, .inl (gx_w (x3 + 1))), (4, .inl (gx_w (x4 + 1)))] [] m Q) : hxn xs (n + 1) yp_m135 107 [(1, .inr (.inl 31)), (2, .inr (.inl 44)), (3, .inl x3), (4, .inl x4)] [] m Q := by
  refine hx_blks (npc := 5) (L' := [(1, .inr (.inl 31)), (2, .inr (.inl 44)), (3, .inl (gx_w (x3 + 1))), (4, .inl (gx_w (x4 + 1)))]) (st' := []) (m' := m) ((107, .iinc 3 1, 3, 0, 0, 0, 0), (0, 0, 0)) [((110, .iinc 4 1, 3, 0, 0, 0, 0), (0, 0, 0)), ((113, .goto (-108), 3, 0, 0, 0, 0), (0, 0, 0))] (by decide +kernel) rfl ?_
  exact hx_pick [1, 2, 3, 4] h1

/-- drawFortunes from 0 on -/
theorem hr31_136_0 {xs : List Int32} {n : Nat} {Q : hQ} {m : gx_M}
    (h1 : hxn xs n yp_m136 2 [(1, .inr (.inl 31)), (2, .inr (.inl 44)), (3, .inl 0)] [] m Q) : hxn xs (n + 1) yp_m136 0 [(1, .inr (.inl 31)), (2, .inr (.inl 44))] [] m Q := by
  refine hx_blks (npc := 2) (L' := [(1, .inr (.inl 31)), (2, .inr (.inl 44)), (3, .inl 0)]) (st' := []) (m' := m) ((0, .iconst 0, 1, 0, 0, 0, 0), (0, 0, 0)) [((1, .istore_n 3, 1, 0, 0, 0, 0), (0, 0, 0))] (by decide +kernel) rfl ?_
  exact hx_pick [1, 2, 3] h1

/-- drawFortunes from 2 on -/
theorem hr31_136_2 {xs : List Int32} {n : Nat} {Q : hQ} {m : gx_M} {x3 : Int}
    (h1 : (8 ≤ x3) → Q none m)
    (h2 : (x3 < 8) → (cPers 31 m x3) → hxn xs n yp_m82 0 [(0, .inr (.inl 44)), (1, .inr (.inl 31)), (2, .inl 102), (3, .inl (-1)), (4, .inl x3), (5, .inl 0)] [] (gx_u m 31 4 (gx_and (gx_w ((gx_w (25173 * (m 31 4))) + 13849)) 65535)) (fun r m' => hxn xs n yp_m136 55 [(1, .inr (.inl 31)), (2, .inr (.inl 44)), (3, .inl x3)] (hrs r ++ [.inl (Int.tmod (gx_and (gx_w ((gx_w (25173 * (m 31 4))) + 13849)) 65535) 10)]) m' Q))
    (h3 : (x3 < 8) → (¬ (cPers 31 m x3)) → hxn xs n yp_m136 2 [(1, .inr (.inl 31)), (2, .inr (.inl 44)), (3, .inl (gx_w (x3 + 1)))] [] m Q) : hxn xs (n + 1) yp_m136 2 [(1, .inr (.inl 31)), (2, .inr (.inl 44)), (3, .inl x3)] [] m Q := by
  refine hx_blks (npc := 5) (L' := [(1, .inr (.inl 31)), (2, .inr (.inl 44)), (3, .inl x3)]) (st' := [.inl 8, .inl x3]) (m' := m) ((2, .iload_n 3, 1, 0, 0, 0, 0), (0, 0, 0)) [((3, .bipush 8, 2, 0, 0, 0, 0), (0, 0, 0))] (by decide +kernel) rfl ?_
  refine hx_cmp .ge 79 (by decide +kernel) (fun c1 => ?_) (fun c1 => ?_)
  · have c1 : 8 ≤ x3 := c1
    exact hx_ret0 (by decide +kernel) (h1 c1)
  · have c1 : x3 < 8 := by have h : ¬ (8 ≤ x3) := c1; omega
    refine hx_blk (npc := 10) (L' := [(1, .inr (.inl 31)), (2, .inr (.inl 44)), (3, .inl x3)]) (st' := [.inl x3, .inr (.inl 31)]) (m' := m) [((8, .aload_n 1, 1, 0, 0, 0, 0), (0, 0, 0)), ((9, .iload_n 3, 1, 0, 0, 0, 0), (0, 0, 0))] (by decide +kernel) rfl ?_
    refine hx_call (E := (10, .invokevirtual 59, 3, 13, 0, 5006, 0)) (M' := yp_m13) [.inr (.inl 31), .inl x3] [] rfl (by decide +kernel) rfl ⟨rfl, rfl⟩ rfl rfl (hs13_31 (fun c2 => ?_) (fun c2 => ?_))
    · have c2 : cPers 31 m x3 := c2
      show hxn xs n yp_m136 13 [(1, .inr (.inl 31)), (2, .inr (.inl 44)), (3, .inl x3)] [.inl 1] m Q
      refine hx_if .ne 19 (by decide +kernel) (fun c3 => ?_) (fun c3 => ?_)
      · have c3 : (1 : Int) ≠ 0 := c3
        have f1 := gx_and_bd (gx_w ((gx_w (25173 * (m 31 4))) + 13849)) 65535 (by decide)
        refine hx_blk (npc := 52) (L' := [(1, .inr (.inl 31)), (2, .inr (.inl 44)), (3, .inl x3)]) (st' := [.inl 0, .inl x3, .inl (-1), .inl 102, .inr (.inl 31), .inr (.inl 44), .inl (Int.tmod (gx_and (gx_w ((gx_w (25173 * (m 31 4))) + 13849)) 65535) 10)]) (m' := (gx_u m 31 4 (gx_and (gx_w ((gx_w (25173 * (m 31 4))) + 13849)) 65535))) [((19, .aload_n 1, 1, 0, 0, 0, 0), (0, 0, 0)), ((20, .sipush 25173, 3, 0, 0, 0, 0), (0, 0, 0)), ((23, .aload_n 1, 1, 0, 0, 0, 0), (0, 0, 0)), ((24, .getfield 62, 3, 2, 4, 1087, 0), (0, 31, 0)), ((27, .imul, 1, 0, 0, 0, 0), (0, 0, 0)), ((28, .sipush 13849, 3, 0, 0, 0, 0), (0, 0, 0)), ((31, .iadd, 1, 0, 0, 0, 0), (0, 0, 0)), ((32, .ldc 65, 2, 0, 0, 5007, 65535), (0, 0, 0)), ((34, .iand, 1, 0, 0, 0, 0), (0, 0, 0)), ((35, .putfield 62, 3, 2, 4, 1087, 0), (0, 31, 0)), ((38, .aload_n 1, 1, 0, 0, 0, 0), (0, 0, 0)), ((39, .getfield 62, 3, 2, 4, 1087, 0), (0, 31, 0)), ((42, .bipush 10, 2, 0, 0, 0, 0), (0, 0, 0)), ((44, .irem, 1, 0, 0, 0, 0), (0, 0, 0)), ((45, .aload_n 2, 1, 0, 0, 0, 0), (0, 0, 0)), ((46, .aload_n 1, 1, 0, 0, 0, 0), (0, 0, 0)), ((47, .bipush 102, 2, 0, 0, 0, 0), (0, 0, 0)), ((49, .iconst (-1), 1, 0, 0, 0, 0), (0, 0, 0)), ((50, .iload_n 3, 1, 0, 0, 0, 0), (0, 0, 0)), ((51, .iconst 0, 1, 0, 0, 0, 0), (0, 0, 0))] (by decide +kernel) rfl ?_
        exact hx_call (E := (52, .invokevirtual 36, 3, 82, 0, 4238, 0)) (M' := yp_m82) [.inr (.inl 44), .inr (.inl 31), .inl 102, .inl (-1), .inl x3, .inl 0] [.inl (Int.tmod (gx_and (gx_w ((gx_w (25173 * (m 31 4))) + 13849)) 65535) 10)] rfl (by decide +kernel) rfl ⟨rfl, rfl⟩ rfl rfl (hx_mono (h2 c1 c2) (fun r m' h' => hx_pick [1, 2, 3] h'))
      · have c3 : (1 : Int) = 0 := by have h : ¬ ((1 : Int) ≠ 0) := c3; omega
        exfalso; omega
    · have c2 : ¬ (cPers 31 m x3) := c2
      show hxn xs n yp_m136 13 [(1, .inr (.inl 31)), (2, .inr (.inl 44)), (3, .inl x3)] [.inl 0] m Q
      refine hx_if .ne 19 (by decide +kernel) (fun c3 => ?_) (fun c3 => ?_)
      · have c3 : (0 : Int) ≠ 0 := c3
        exfalso; omega
      · have c3 : (0 : Int) = 0 := by have h : ¬ ((0 : Int) ≠ 0) := c3; omega
        refine hx_blk (npc := 2) (L' := [(1, .inr (.inl 31)), (2, .inr (.inl 44)), (3, .inl (gx_w (x3 + 1)))]) (st' := []) (m' := m) [((16, .goto 57, 3, 0, 0, 0, 0), (0, 0, 0)), ((73, .iinc 3 1, 3, 0, 0, 0, 0), (0, 0, 0)), ((76, .goto (-74), 3, 0, 0, 0, 0), (0, 0, 0))] (by decide +kernel) rfl ?_
        exact hx_pick [1, 2, 3] (h3 c1 c2)

/-- drawFortunes from 55 on -/
theorem hr31_136_55 {xs : List Int32} {n : Nat} {Q : hQ} {m : gx_M} {x3 s0 s1 : Int}
    (h1 : (s1 ≤ s0) → hxn xs n yp_m136 2 [(1, .inr (.inl 31)), (2, .inr (.inl 44)), (3, .inl (gx_w (x3 + 1)))] [] m Q)
    (h2 : (s0 < s1) → hxn xs n yp_m82 0 [(0, .inr (.inl 44)), (1, .inr (.inl 31)), (2, .inl 103), (3, .inl (-1)), (4, .inl x3), (5, .inl 0)] [] m (fun r m' => hxn xs n yp_m136 70 [(1, .inr (.inl 31)), (2, .inr (.inl 44)), (3, .inl x3)] (hrs r ++ [.inl x3, .inr (.inl 31)]) m' Q)) : hxn xs (n + 1) yp_m136 55 [(1, .inr (.inl 31)), (2, .inr (.inl 44)), (3, .inl x3)] [.inl s1, .inl s0] m Q := by
  refine hx_cmps .ge 73 (by decide +kernel) (fun c1 => ?_) (fun c1 => ?_)
  · have c1 : s1 ≤ s0 := c1
    refine hx_blk (npc := 2) (L' := [(1, .inr (.inl 31)), (2, .inr (.inl 44)), (3, .inl (gx_w (x3 + 1)))]) (st' := []) (m' := m) [((73, .iinc 3 1, 3, 0, 0, 0, 0), (0, 0, 0)), ((76, .goto (-74), 3, 0, 0, 0, 0), (0, 0, 0))] (by decide +kernel) rfl ?_
    exact hx_pick [1, 2, 3] (h1 c1)
  · have c1 : s0 < s1 := by have h : ¬ (s1 ≤ s0) := c1; omega
    refine hx_blk (npc := 67) (L' := [(1, .inr (.inl 31)), (2, .inr (.inl 44)), (3, .inl x3)]) (st' := [.inl 0, .inl x3, .inl (-1), .inl 103, .inr (.inl 31), .inr (.inl 44), .inl x3, .inr (.inl 31)]) (m' := m) [((58, .aload_n 1, 1, 0, 0, 0, 0), (0, 0, 0)), ((59, .iload_n 3, 1, 0, 0, 0, 0), (0, 0, 0)), ((60, .aload_n 2, 1, 0, 0, 0, 0), (0, 0, 0)), ((61, .aload_n 1, 1, 0, 0, 0, 0), (0, 0, 0)), ((62, .bipush 103, 2, 0, 0, 0, 0), (0, 0, 0)), ((64, .iconst (-1), 1, 0, 0, 0, 0), (0, 0, 0)), ((65, .iload_n 3, 1, 0, 0, 0, 0), (0, 0, 0)), ((66, .iconst 0, 1, 0, 0, 0, 0), (0, 0, 0))] (by decide +kernel) rfl ?_
    exact hx_call (E := (67, .invokevirtual 36, 3, 82, 0, 4238, 0)) (M' := yp_m82) [.inr (.inl 44), .inr (.inl 31), .inl 103, .inl (-1), .inl x3, .inl 0] [.inl x3, .inr (.inl 31)] rfl (by decide +kernel) rfl ⟨rfl, rfl⟩ rfl rfl (hx_mono (h2 c1) (fun r m' h' => hx_pick [1, 2, 3] h'))

/-- drawFortunes from 70 on -/
theorem hr31_136_70 {xs : List Int32} {n : Nat} {Q : hQ} {m : gx_M} {x3 s1 s2 : Int}
    (h1 : hxn xs n yp_m69 0 [(0, .inr (.inl 31)), (1, .inl s1), (2, .inl s2)] [] m (fun r m' => hxn xs n yp_m136 73 [(1, .inr (.inl 31)), (2, .inr (.inl 44)), (3, .inl x3)] (hrs r ++ []) m' Q)) : hxn xs (n + 1) yp_m136 70 [(1, .inr (.inl 31)), (2, .inr (.inl 44)), (3, .inl x3)] [.inl s2, .inl s1, .inr (.inl 31)] m Q := by
  exact hx_calls (E := (70, .invokevirtual 66, 3, 69, 0, 5008, 0)) (M' := yp_m69) [.inr (.inl 31), .inl s1, .inl s2] [] rfl (by decide +kernel) rfl ⟨rfl, rfl⟩ rfl rfl (hx_mono h1 (fun r m' h' => hx_pick [1, 2, 3] h'))

/-- drawFortunes from 73 on -/
theorem hr31_136_73 {xs : List Int32} {n : Nat} {Q : hQ} {m : gx_M} {x3 : Int}
    (h1 : hxn xs n yp_m136 2 [(1, .inr (.inl 31)), (2, .inr (.inl 44)), (3, .inl (gx_w (x3 + 1)))] [] m Q) : hxn xs (n + 1) yp_m136 73 [(1, .inr (.inl 31)), (2, .inr (.inl 44)), (3, .inl x3)] [] m Q := by
  refine hx_blks (npc := 2) (L' := [(1, .inr (.inl 31)), (2, .inr (.inl 44)), (3, .inl (gx_w (x3 + 1)))]) (st' := []) (m' := m) ((73, .iinc 3 1, 3, 0, 0, 0, 0), (0, 0, 0)) [((76, .goto (-74), 3, 0, 0, 0, 0), (0, 0, 0))] (by decide +kernel) rfl ?_
  exact hx_pick [1, 2, 3] h1

/-- pass from 0 on -/
theorem hr31_134_0 {xs : List Int32} {n : Nat} {Q : hQ} {m : gx_M} {x3 : Int}
    (h1 : hxn xs n yp_m134 6 [(0, .inr (.inl 69)), (1, .inr (.inl 31)), (2, .inr (.inl 44)), (3, .inl x3), (4, .inl 0), (5, .inl 0)] [] m Q) : hxn xs (n + 1) yp_m134 0 [(0, .inr (.inl 69)), (1, .inr (.inl 31)), (2, .inr (.inl 44)), (3, .inl x3)] [] m Q := by
  refine hx_blks (npc := 6) (L' := [(0, .inr (.inl 69)), (1, .inr (.inl 31)), (2, .inr (.inl 44)), (3, .inl x3), (4, .inl 0), (5, .inl 0)]) (st' := []) (m' := m) ((0, .iconst 0, 1, 0, 0, 0, 0), (0, 0, 0)) [((1, .istore 4, 2, 0, 0, 0, 0), (0, 0, 0)), ((3, .iconst 0, 1, 0, 0, 0, 0), (0, 0, 0)), ((4, .istore 5, 2, 0, 0, 0, 0), (0, 0, 0))] (by decide +kernel) rfl ?_
  exact hx_pick [0, 1, 2, 3, 4, 5] h1

/-- pass from 6 on -/
theorem hr31_134_6 {xs : List Int32} {n : Nat} {Q : hQ} {m : gx_M} {x3 x4 x5 : Int}
    (h1 : (x3 ≤ x5) → Q (some (.inl x4)) m)
    (h2 : (x5 < x3) → hxn xs n yp_m135 0 [(0, .inr (.inl 69)), (1, .inr (.inl 31)), (2, .inr (.inl 44))] [] m (fun r m' => hxn xs n yp_m134 20 [(0, .inr (.inl 69)), (1, .inr (.inl 31)), (2, .inr (.inl 44)), (3, .inl x3), (5, .inl x5)] (hrs r ++ [.inl x4]) m' Q)) : hxn xs (n + 1) yp_m134 6 [(0, .inr (.inl 69)), (1, .inr (.inl 31)), (2, .inr (.inl 44)), (3, .inl x3), (4, .inl x4), (5, .inl x5)] [] m Q := by
  refine hx_blks (npc := 9) (L' := [(0, .inr (.inl 69)), (1, .inr (.inl 31)), (2, .inr (.inl 44)), (3, .inl x3), (4, .inl x4), (5, .inl x5)]) (st' := [.inl x3, .inl x5]) (m' := m) ((6, .iload 5, 2, 0, 0, 0, 0), (0, 0, 0)) [((8, .iload_n 3, 1, 0, 0, 0, 0), (0, 0, 0))] (by decide +kernel) rfl ?_
  refine hx_cmp .ge 45 (by decide +kernel) (fun c1 => ?_) (fun c1 => ?_)
  · have c1 : x3 ≤ x5 := c1
    refine hx_blk (npc := 47) (L' := [(0, .inr (.inl 69)), (1, .inr (.inl 31)), (2, .inr (.inl 44)), (3, .inl x3), (4, .inl x4), (5, .inl x5)]) (st' := [.inl x4]) (m' := m) [((45, .iload 4, 2, 0, 0, 0, 0), (0, 0, 0))] (by decide +kernel) rfl ?_
    exact hx_reti (by decide +kernel) (h1 c1)
  · have c1 : x5 < x3 := by have h : ¬ (x3 ≤ x5) := c1; omega
    refine hx_blk (npc := 17) (L' := [(0, .inr (.inl 69)), (1, .inr (.inl 31)), (2, .inr (.inl 44)), (3, .inl x3), (4, .inl x4), (5, .inl x5)]) (st' := [.inr (.inl 44), .inr (.inl 31), .inr (.inl 69), .inl x4]) (m' := m) [((12, .iload 4, 2, 0, 0, 0, 0), (0, 0, 0)), ((14, .aload_n 0, 1, 0, 0, 0, 0), (0, 0, 0)), ((15, .aload_n 1, 1, 0, 0, 0, 0), (0, 0, 0)), ((16, .aload_n 2, 1, 0, 0, 0, 0), (0, 0, 0))] (by decide +kernel) rfl ?_
    exact hx_call (E := (17, .invokevirtual 9, 3, 135, 0, 4233, 0)) (M' := yp_m135) [.inr (.inl 69), .inr (.inl 31), .inr (.inl 44)] [.inl x4] rfl (by decide +kernel) rfl ⟨rfl, rfl⟩ rfl rfl (hx_mono (h2 c1) (fun r m' h' => hx_pick [0, 1, 2, 3, 5] h'))

/-- pass from 20 on -/
theorem hr31_134_20 {xs : List Int32} {n : Nat} {Q : hQ} {m : gx_M} {x3 x5 s0 s1 : Int}
    (h1 : hxn xs n yp_m136 0 [(0, .inr (.inl 69)), (1, .inr (.inl 31)), (2, .inr (.inl 44))] [] m (fun r m' => hxn xs n yp_m134 29 [(0, .inr (.inl 69)), (1, .inr (.inl 31)), (2, .inr (.inl 44)), (3, .inl x3), (4, .inl (gx_w (s0 + s1))), (5, .inl x5)] (hrs r ++ []) m' Q)) : hxn xs (n + 1) yp_m134 20 [(0, .inr (.inl 69)), (1, .inr (.inl 31)), (2, .inr (.inl 44)), (3, .inl x3), (5, .inl x5)] [.inl s1, .inl s0] m Q := by
  refine hx_blks (npc := 26) (L' := [(0, .inr (.inl 69)), (1, .inr (.inl 31)), (2, .inr (.inl 44)), (3, .inl x3), (5, .inl x5), (4, .inl (gx_w (s0 + s1)))]) (st' := [.inr (.inl 44), .inr (.inl 31), .inr (.inl 69)]) (m' := m) ((20, .iadd, 1, 0, 0, 0, 0), (0, 0, 0)) [((21, .istore 4, 2, 0, 0, 0, 0), (0, 0, 0)), ((23, .aload_n 0, 1, 0, 0, 0, 0), (0, 0, 0)), ((24, .aload_n 1, 1, 0, 0, 0, 0), (0, 0, 0)), ((25, .aload_n 2, 1, 0, 0, 0, 0), (0, 0, 0))] (by decide +kernel) rfl ?_
  exact hx_call (E := (26, .invokevirtual 15, 3, 136, 0, 5002, 0)) (M' := yp_m136) [.inr (.inl 69), .inr (.inl 31), .inr (.inl 44)] [] rfl (by decide +kernel) rfl ⟨rfl, rfl⟩ rfl rfl (hx_mono h1 (fun r m' h' => hx_pick [0, 1, 2, 3, 4, 5] h'))

/-- pass from 29 on -/
theorem hr31_134_29 {xs : List Int32} {n : Nat} {Q : hQ} {m : gx_M} {x3 x4 x5 : Int}
    (h1 : hxn xs n yp_m134 6 [(0, .inr (.inl 69)), (1, .inr (.inl 31)), (2, .inr (.inl 44)), (3, .inl x3), (4, .inl x4), (5, .inl (gx_w (x5 + 1)))] [] (gx_u m 31 3 (gx_w ((m 31 3) + 1))) Q) : hxn xs (n + 1) yp_m134 29 [(0, .inr (.inl 69)), (1, .inr (.inl 31)), (2, .inr (.inl 44)), (3, .inl x3), (4, .inl x4), (5, .inl x5)] [] m Q := by
  refine hx_blks (npc := 6) (L' := [(0, .inr (.inl 69)), (1, .inr (.inl 31)), (2, .inr (.inl 44)), (3, .inl x3), (4, .inl x4), (5, .inl (gx_w (x5 + 1)))]) (st' := []) (m' := (gx_u m 31 3 (gx_w ((m 31 3) + 1)))) ((29, .aload_n 1, 1, 0, 0, 0, 0), (0, 0, 0)) [((30, .dup, 1, 0, 0, 0, 0), (0, 0, 0)), ((31, .getfield 19, 3, 2, 3, 1083, 0), (0, 31, 0)), ((34, .iconst 1, 1, 0, 0, 0, 0), (0, 0, 0)), ((35, .iadd, 1, 0, 0, 0, 0), (0, 0, 0)), ((36, .putfield 19, 3, 2, 3, 1083, 0), (0, 31, 0)), ((39, .iinc 5 1, 3, 0, 0, 0, 0), (0, 0, 0)), ((42, .goto (-36), 3, 0, 0, 0, 0), (0, 0, 0))] (by decide +kernel) rfl ?_
  exact hx_pick [0, 1, 2, 3, 4, 5] h1

/-- days from 0 on -/
theorem hr133_0 {xs : List Int32} {n : Nat} {Q : hQ} {m : gx_M} {x1 : Int}
    (h1 : (x1 < 1) → Q (some (.inl (-1))) m)
    (h2 : (1 ≤ x1) → (x1 ≤ 100) → hxn xs n yp_m134 0 [(0, .inr (.inl 69)), (1, .inr (.inl 5)), (2, .inr (.inl 44)), (3, .inl x1)] [] m (fun r m' => hxn xs n yp_m133 29 [(0, .inr (.inl 0))] (hrs r ++ []) m' Q))
    (h3 : (1 ≤ x1) → (100 < x1) → Q (some (.inl (-1))) m) : hxn xs (n + 1) yp_m133 0 [(0, .inr (.inl 0)), (1, .inl x1)] [] m Q := by
  refine hx_blks (npc := 2) (L' := [(0, .inr (.inl 0)), (1, .inl x1)]) (st' := [.inl 1, .inl x1]) (m' := m) ((0, .iload_n 1, 1, 0, 0, 0, 0), (0, 0, 0)) [((1, .iconst 1, 1, 0, 0, 0, 0), (0, 0, 0))] (by decide +kernel) rfl ?_
  refine hx_cmp .lt 11 (by decide +kernel) (fun c1 => ?_) (fun c1 => ?_)
  · have c1 : x1 < 1 := c1
    refine hx_blk (npc := 12) (L' := [(0, .inr (.inl 0)), (1, .inl x1)]) (st' := [.inl (-1)]) (m' := m) [((11, .iconst (-1), 1, 0, 0, 0, 0), (0, 0, 0))] (by decide +kernel) rfl ?_
    exact hx_reti (by decide +kernel) (h1 c1)
  · have c1 : 1 ≤ x1 := by have h : ¬ (x1 < 1) := c1; omega
    refine hx_blk (npc := 8) (L' := [(0, .inr (.inl 0)), (1, .inl x1)]) (st' := [.inl 100, .inl x1]) (m' := m) [((5, .iload_n 1, 1, 0, 0, 0, 0), (0, 0, 0)), ((6, .bipush 100, 2, 0, 0, 0, 0), (0, 0, 0))] (by decide +kernel) rfl ?_
    refine hx_cmp .le 13 (by decide +kernel) (fun c2 => ?_) (fun c2 => ?_)
    · have c2 : x1 ≤ 100 := c2
      refine hx_blk (npc := 26) (L' := [(0, .inr (.inl 0)), (1, .inl x1)]) (st' := [.inl x1, .inr (.inl 44), .inr (.inl 5), .inr (.inl 69)]) (m' := m) [((13, .aload_n 0, 1, 0, 0, 0, 0), (0, 0, 0)), ((14, .getfield 60, 3, 9, 8, 2127, 0), (1, 0, 69)), ((17, .aload_n 0, 1, 0, 0, 0, 0), (0, 0, 0)), ((18, .getfield 26, 3, 9, 2, 2121, 0), (1, 0, 5)), ((21, .aload_n 0, 1, 0, 0, 0, 0), (0, 0, 0)), ((22, .getfield 39, 3, 9, 5, 2124, 0), (1, 0, 44)), ((25, .iload_n 1, 1, 0, 0, 0, 0), (0, 0, 0))] (by decide +kernel) rfl ?_
      exact hx_call (E := (26, .invokevirtual 295, 3, 134, 0, 4229, 0)) (M' := yp_m134) [.inr (.inl 69), .inr (.inl 5), .inr (.inl 44), .inl x1] [] rfl (by decide +kernel) rfl ⟨rfl, rfl⟩ rfl rfl (hx_mono (h2 c1 c2) (fun r m' h' => hx_pick [0] h'))
    · have c2 : 100 < x1 := by have h : ¬ (x1 ≤ 100) := c2; omega
      refine hx_blk (npc := 12) (L' := [(0, .inr (.inl 0)), (1, .inl x1)]) (st' := [.inl (-1)]) (m' := m) [((11, .iconst (-1), 1, 0, 0, 0, 0), (0, 0, 0))] (by decide +kernel) rfl ?_
      exact hx_reti (by decide +kernel) (h3 c1 c2)

/-- days from 29 on -/
theorem hr133_29 {xs : List Int32} {n : Nat} {Q : hQ} {m : gx_M} {s0 : Int}
    (h1 : Q (some (.inl s0)) (gx_u m 0 13 (gx_w ((m 0 13) + s0)))) : hxn xs (n + 1) yp_m133 29 [(0, .inr (.inl 0))] [.inl s0] m Q := by
  refine hx_blks (npc := 41) (L' := [(0, .inr (.inl 0)), (2, .inl s0)]) (st' := [.inl s0]) (m' := (gx_u m 0 13 (gx_w ((m 0 13) + s0)))) ((29, .istore_n 2, 1, 0, 0, 0, 0), (0, 0, 0)) [((30, .aload_n 0, 1, 0, 0, 0, 0), (0, 0, 0)), ((31, .dup, 1, 0, 0, 0, 0), (0, 0, 0)), ((32, .getfield 299, 3, 9, 13, 2132, 0), (0, 0, 0)), ((35, .iload_n 2, 1, 0, 0, 0, 0), (0, 0, 0)), ((36, .iadd, 1, 0, 0, 0, 0), (0, 0, 0)), ((37, .putfield 299, 3, 9, 13, 2132, 0), (0, 0, 0)), ((40, .iload_n 2, 1, 0, 0, 0, 0), (0, 0, 0))] (by decide +kernel) rfl ?_
  exact hx_reti (by decide +kernel) h1
end
section
/-! days as the reference has them go by: roads -/
def aPw (s : Nat → Int) (y : Int) : Prop := 0 ≤ s (gx_w (280 + y)).toNat
/-- isPawned from 0 on -/
theorem hs200 {xs : List Int32} {n : Nat} {Q : hQ} {m : gx_M} {x1 : Int}
    (h1 : aPw (m 87) x1 → Q (some (.inl 1)) m) (h0 : ¬ (aPw (m 87) x1) → Q (some (.inl 0)) m) : hxn xs n yp_m200 0 [(0, .inr (.inl 86)), (1, .inl x1)] [] m Q := by
  refine hx_dn ?_
  refine hx_blks (npc := 10) (L' := [(0, .inr (.inl 86)), (1, .inl x1)]) (st' := [.inl (m 87 (gx_w (280 + x1)).toNat)]) (m' := m) ((0, .aload_n 0, 1, 0, 0, 0, 0), (0, 0, 0)) [((1, .getfield 7, 3, 10, 0, 5113, 0), (1, 86, 87)), ((4, .sipush 280, 3, 0, 0, 0, 0), (0, 0, 0)), ((7, .iload_n 1, 1, 0, 0, 0, 0), (0, 0, 0)), ((8, .iadd, 1, 0, 0, 0, 0), (0, 0, 0)), ((9, .iaload, 1, 0, 0, 0, 0), (0, 87, 0))] (by decide +kernel) rfl ?_
  refine hx_if .lt 17 (by decide +kernel) (fun c1 => ?_) (fun c1 => ?_)
  · have c1 : (m 87 (gx_w (280 + x1)).toNat) < 0 := c1
    refine hx_blk (npc := 18) (L' := [(0, .inr (.inl 86)), (1, .inl x1)]) (st' := [.inl 0]) (m' := m) [((17, .iconst 0, 1, 0, 0, 0, 0), (0, 0, 0))] (by decide +kernel) rfl ?_
    exact hx_reti (by decide +kernel) (h0 (by unfold aPw; omega))
  · have c1 : 0 ≤ (m 87 (gx_w (280 + x1)).toNat) := by have h : ¬ ((m 87 (gx_w (280 + x1)).toNat) < 0) := c1; omega
    refine hx_blk (npc := 18) (L' := [(0, .inr (.inl 86)), (1, .inl x1)]) (st' := [.inl 1]) (m' := m) [((13, .iconst 1, 1, 0, 0, 0, 0), (0, 0, 0)), ((14, .goto 4, 3, 0, 0, 0, 0), (0, 0, 0))] (by decide +kernel) rfl ?_
    exact hx_reti (by decide +kernel) (h1 (by unfold aPw; omega))

/-- pawnGrows from 0 on -/
theorem hr260_0 {xs : List Int32} {n : Nat} {Q : hQ} {m : gx_M} {x1 : Int}
    (h1 : hxn xs n yp_m202 0 [(0, .inr (.inl 86)), (1, .inl x1), (2, .inl (m 87 (gx_w (240 + x1)).toNat)), (3, .inl (m 87 (gx_w (320 + x1)).toNat))] [] m (fun r m' => hxn xs n yp_m260 25 [(0, .inr (.inl 86)), (1, .inl x1)] (hrs r ++ []) m' Q)) : hxn xs (n + 1) yp_m260 0 [(0, .inr (.inl 86)), (1, .inl x1)] [] m Q := by
  refine hx_blks (npc := 22) (L' := [(0, .inr (.inl 86)), (1, .inl x1)]) (st' := [.inl (m 87 (gx_w (320 + x1)).toNat), .inl (m 87 (gx_w (240 + x1)).toNat), .inl x1, .inr (.inl 86)]) (m' := m) ((0, .aload_n 0, 1, 0, 0, 0, 0), (0, 0, 0)) [((1, .iload_n 1, 1, 0, 0, 0, 0), (0, 0, 0)), ((2, .aload_n 0, 1, 0, 0, 0, 0), (0, 0, 0)), ((3, .getfield 7, 3, 10, 0, 5113, 0), (1, 86, 87)), ((6, .sipush 240, 3, 0, 0, 0, 0), (0, 0, 0)), ((9, .iload_n 1, 1, 0, 0, 0, 0), (0, 0, 0)), ((10, .iadd, 1, 0, 0, 0, 0), (0, 0, 0)), ((11, .iaload, 1, 0, 0, 0, 0), (0, 87, 0)), ((12, .aload_n 0, 1, 0, 0, 0, 0), (0, 0, 0)), ((13, .getfield 7, 3, 10, 0, 5113, 0), (1, 86, 87)), ((16, .sipush 320, 3, 0, 0, 0, 0), (0, 0, 0)), ((19, .iload_n 1, 1, 0, 0, 0, 0), (0, 0, 0)), ((20, .iadd, 1, 0, 0, 0, 0), (0, 0, 0)), ((21, .iaload, 1, 0, 0, 0, 0), (0, 87, 0))] (by decide +kernel) rfl ?_
  exact hx_call (E := (22, .invokevirtual 247, 3, 202, 0, 6179, 0)) (M' := yp_m202) [.inr (.inl 86), .inl x1, .inl (m 87 (gx_w (240 + x1)).toNat), .inl (m 87 (gx_w (320 + x1)).toNat)] [] rfl (by decide +kernel) rfl ⟨rfl, rfl⟩ rfl rfl (hx_mono h1 (fun r m' h' => hx_pick [0, 1] h'))

/-- pawnGrows from 25 on -/
theorem hr260_25 {xs : List Int32} {n : Nat} {Q : hQ} {m : gx_M} {x1 : Int}
    (h1 : hxn xs n yp_m225 0 [(0, .inr (.inl 86)), (1, .inl 105), (2, .inl 99)] [] m (fun r m' => hxn xs n yp_m260 54 [(0, .inr (.inl 86)), (1, .inl x1)] (hrs r ++ [.inl (m 87 (gx_w (360 + x1)).toNat), .inl 99999, .inl (gx_w (360 + x1)), .inr (.inl 87)]) m' Q)) : hxn xs (n + 1) yp_m260 25 [(0, .inr (.inl 86)), (1, .inl x1)] [] m Q := by
  refine hx_blks (npc := 51) (L' := [(0, .inr (.inl 86)), (1, .inl x1)]) (st' := [.inl 99, .inl 105, .inr (.inl 86), .inl (m 87 (gx_w (360 + x1)).toNat), .inl 99999, .inl (gx_w (360 + x1)), .inr (.inl 87)]) (m' := m) ((25, .aload_n 0, 1, 0, 0, 0, 0), (0, 0, 0)) [((26, .getfield 7, 3, 10, 0, 5113, 0), (1, 86, 87)), ((29, .sipush 360, 3, 0, 0, 0, 0), (0, 0, 0)), ((32, .iload_n 1, 1, 0, 0, 0, 0), (0, 0, 0)), ((33, .iadd, 1, 0, 0, 0, 0), (0, 0, 0)), ((34, .ldc 112, 2, 0, 0, 6026, 99999), (0, 0, 0)), ((36, .aload_n 0, 1, 0, 0, 0, 0), (0, 0, 0)), ((37, .getfield 7, 3, 10, 0, 5113, 0), (1, 86, 87)), ((40, .sipush 360, 3, 0, 0, 0, 0), (0, 0, 0)), ((43, .iload_n 1, 1, 0, 0, 0, 0), (0, 0, 0)), ((44, .iadd, 1, 0, 0, 0, 0), (0, 0, 0)), ((45, .iaload, 1, 0, 0, 0, 0), (0, 87, 0)), ((46, .aload_n 0, 1, 0, 0, 0, 0), (0, 0, 0)), ((47, .bipush 105, 2, 0, 0, 0, 0), (0, 0, 0)), ((49, .bipush 99, 2, 0, 0, 0, 0), (0, 0, 0))] (by decide +kernel) rfl ?_
  exact hx_call (E := (51, .invokevirtual 251, 3, 225, 0, 7028, 0)) (M' := yp_m225) [.inr (.inl 86), .inl 105, .inl 99] [.inl (m 87 (gx_w (360 + x1)).toNat), .inl 99999, .inl (gx_w (360 + x1)), .inr (.inl 87)] rfl (by decide +kernel) rfl ⟨rfl, rfl⟩ rfl rfl (hx_mono h1 (fun r m' h' => hx_pick [0, 1] h'))

/-- pawnGrows from 54 on -/
theorem hr260_54 {xs : List Int32} {n : Nat} {Q : hQ} {m : gx_M} {x1 s1 s2 s3 s4 : Int}
    (h1 : hxn xs n yp_m199 0 [(0, .inl s2), (1, .inl (gx_w (s3 + s4)))] [] m (fun r m' => hxn xs n yp_m260 58 [(0, .inr (.inl 86)), (1, .inl x1)] (hrs r ++ [.inl s1, .inr (.inl 87)]) m' Q)) : hxn xs (n + 1) yp_m260 54 [(0, .inr (.inl 86)), (1, .inl x1)] [.inl s4, .inl s3, .inl s2, .inl s1, .inr (.inl 87)] m Q := by
  refine hx_blks (npc := 55) (L' := [(0, .inr (.inl 86)), (1, .inl x1)]) (st' := [.inl (gx_w (s3 + s4)), .inl s2, .inl s1, .inr (.inl 87)]) (m' := m) ((54, .iadd, 1, 0, 0, 0, 0), (0, 0, 0)) [] (by decide +kernel) rfl ?_
  exact hx_call (E := (55, .invokestatic 120, 3, 199, 0, 6168, 0)) (M' := yp_m199) [.inl s2, .inl (gx_w (s3 + s4))] [.inl s1, .inr (.inl 87)] rfl (by decide +kernel) rfl ⟨rfl, rfl⟩ rfl rfl (hx_mono h1 (fun r m' h' => hx_pick [0, 1] h'))

/-- pawnGrows from 58 on -/
theorem hr260_58 {xs : List Int32} {n : Nat} {Q : hQ} {m : gx_M} {x1 s1 s2 : Int}
    (h1 : (((gx_u m 87 (s1).toNat s2) 87 (gx_w (320 + x1)).toNat) = 0) → Q none (gx_u m 87 (s1).toNat s2))
    (h2 : (((gx_u m 87 (s1).toNat s2) 87 (gx_w (320 + x1)).toNat) ≠ 0) → ((gx_w (2 * ((gx_u m 87 (s1).toNat s2) 87 (gx_w (320 + x1)).toNat))) ≤ ((gx_u m 87 (s1).toNat s2) 87 (gx_w (360 + x1)).toNat)) → hxn xs n yp_m210 0 [(0, .inr (.inl 86)), (1, .inl x1), (2, .inl ((gx_u m 87 (s1).toNat s2) 87 (gx_w (280 + x1)).toNat))] [] (gx_u m 87 (s1).toNat s2) (fun r m' => hxn xs n yp_m260 113 [(0, .inr (.inl 86))] (hrs r ++ []) m' Q))
    (h3 : (((gx_u m 87 (s1).toNat s2) 87 (gx_w (320 + x1)).toNat) ≠ 0) → (((gx_u m 87 (s1).toNat s2) 87 (gx_w (360 + x1)).toNat) < (gx_w (2 * ((gx_u m 87 (s1).toNat s2) 87 (gx_w (320 + x1)).toNat)))) → Q none (gx_u m 87 (s1).toNat s2)) : hxn xs (n + 1) yp_m260 58 [(0, .inr (.inl 86)), (1, .inl x1)] [.inl s2, .inl s1, .inr (.inl 87)] m Q := by
  refine hx_blks (npc := 69) (L' := [(0, .inr (.inl 86)), (1, .inl x1)]) (st' := [.inl ((gx_u m 87 (s1).toNat s2) 87 (gx_w (320 + x1)).toNat)]) (m' := (gx_u m 87 (s1).toNat s2)) ((58, .iastore, 1, 0, 0, 0, 0), (0, 87, 0)) [((59, .aload_n 0, 1, 0, 0, 0, 0), (0, 0, 0)), ((60, .getfield 7, 3, 10, 0, 5113, 0), (1, 86, 87)), ((63, .sipush 320, 3, 0, 0, 0, 0), (0, 0, 0)), ((66, .iload_n 1, 1, 0, 0, 0, 0), (0, 0, 0)), ((67, .iadd, 1, 0, 0, 0, 0), (0, 0, 0)), ((68, .iaload, 1, 0, 0, 0, 0), (0, 87, 0))] (by decide +kernel) rfl ?_
  refine hx_if .eq 97 (by decide +kernel) (fun c1 => ?_) (fun c1 => ?_)
  · have c1 : ((gx_u m 87 (s1).toNat s2) 87 (gx_w (320 + x1)).toNat) = 0 := c1
    exact hx_ret0 (by decide +kernel) (h1 c1)
  · have c1 : ((gx_u m 87 (s1).toNat s2) 87 (gx_w (320 + x1)).toNat) ≠ 0 := c1
    refine hx_blk (npc := 94) (L' := [(0, .inr (.inl 86)), (1, .inl x1)]) (st' := [.inl (gx_w (2 * ((gx_u m 87 (s1).toNat s2) 87 (gx_w (320 + x1)).toNat))), .inl ((gx_u m 87 (s1).toNat s2) 87 (gx_w (360 + x1)).toNat)]) (m' := (gx_u m 87 (s1).toNat s2)) [((72, .aload_n 0, 1, 0, 0, 0, 0), (0, 0, 0)), ((73, .getfield 7, 3, 10, 0, 5113, 0), (1, 86, 87)), ((76, .sipush 360, 3, 0, 0, 0, 0), (0, 0, 0)), ((79, .iload_n 1, 1, 0, 0, 0, 0), (0, 0, 0)), ((80, .iadd, 1, 0, 0, 0, 0), (0, 0, 0)), ((81, .iaload, 1, 0, 0, 0, 0), (0, 87, 0)), ((82, .iconst 2, 1, 0, 0, 0, 0), (0, 0, 0)), ((83, .aload_n 0, 1, 0, 0, 0, 0), (0, 0, 0)), ((84, .getfield 7, 3, 10, 0, 5113, 0), (1, 86, 87)), ((87, .sipush 320, 3, 0, 0, 0, 0), (0, 0, 0)), ((90, .iload_n 1, 1, 0, 0, 0, 0), (0, 0, 0)), ((91, .iadd, 1, 0, 0, 0, 0), (0, 0, 0)), ((92, .iaload, 1, 0, 0, 0, 0), (0, 87, 0)), ((93, .imul, 1, 0, 0, 0, 0), (0, 0, 0))] (by decide +kernel) rfl ?_
    refine hx_cmp .ge 98 (by decide +kernel) (fun c2 => ?_) (fun c2 => ?_)
    · have c2 : (gx_w (2 * ((gx_u m 87 (s1).toNat s2) 87 (gx_w (320 + x1)).toNat))) ≤ ((gx_u m 87 (s1).toNat s2) 87 (gx_w (360 + x1)).toNat) := c2
      refine hx_blk (npc := 110) (L' := [(0, .inr (.inl 86)), (1, .inl x1)]) (st' := [.inl ((gx_u m 87 (s1).toNat s2) 87 (gx_w (280 + x1)).toNat), .inl x1, .inr (.inl 86)]) (m' := (gx_u m 87 (s1).toNat s2)) [((98, .aload_n 0, 1, 0, 0, 0, 0), (0, 0, 0)), ((99, .iload_n 1, 1, 0, 0, 0, 0), (0, 0, 0)), ((100, .aload_n 0, 1, 0, 0, 0, 0), (0, 0, 0)), ((101, .getfield 7, 3, 10, 0, 5113, 0), (1, 86, 87)), ((104, .sipush 280, 3, 0, 0, 0, 0), (0, 0, 0)), ((107, .iload_n 1, 1, 0, 0, 0, 0), (0, 0, 0)), ((108, .iadd, 1, 0, 0, 0, 0), (0, 0, 0)), ((109, .iaload, 1, 0, 0, 0, 0), (0, 87, 0))] (by decide +kernel) rfl ?_
      exact hx_call (E := (110, .invokevirtual 281, 3, 210, 0, 6209, 0)) (M' := yp_m210) [.inr (.inl 86), .inl x1, .inl ((gx_u m 87 (s1).toNat s2) 87 (gx_w (280 + x1)).toNat)] [] rfl (by decide +kernel) rfl ⟨rfl, rfl⟩ rfl rfl (hx_mono (h2 c1 c2) (fun r m' h' => hx_pick [0] h'))
    · have c2 : ((gx_u m 87 (s1).toNat s2) 87 (gx_w (360 + x1)).toNat) < (gx_w (2 * ((gx_u m 87 (s1).toNat s2) 87 (gx_w (320 + x1)).toNat))) := by have h : ¬ ((gx_w (2 * ((gx_u m 87 (s1).toNat s2) 87 (gx_w (320 + x1)).toNat))) ≤ ((gx_u m 87 (s1).toNat s2) 87 (gx_w (360 + x1)).toNat)) := c2; omega
      exact hx_ret0 (by decide +kernel) (h3 c1 c2)

/-- pawnGrows from 113 on -/
theorem hr260_113 {xs : List Int32} {n : Nat} {Q : hQ} {m : gx_M}
    (h1 : Q none (gx_u m 86 45 (gx_w ((m 86 45) + 1)))) : hxn xs (n + 1) yp_m260 113 [(0, .inr (.inl 86))] [] m Q := by
  refine hx_blks (npc := 123) (L' := [(0, .inr (.inl 86))]) (st' := []) (m' := (gx_u m 86 45 (gx_w ((m 86 45) + 1)))) ((113, .aload_n 0, 1, 0, 0, 0, 0), (0, 0, 0)) [((114, .aload_n 0, 1, 0, 0, 0, 0), (0, 0, 0)), ((115, .getfield 390, 3, 10, 45, 5158, 0), (0, 86, 0)), ((118, .iconst 1, 1, 0, 0, 0, 0), (0, 0, 0)), ((119, .iadd, 1, 0, 0, 0, 0), (0, 0, 0)), ((120, .putfield 390, 3, 10, 45, 5158, 0), (0, 86, 0))] (by decide +kernel) rfl ?_
  exact hx_ret0 (by decide +kernel) h1

/-- dayGoes from 0 on -/
theorem hr259_0 {xs : List Int32} {n : Nat} {Q : hQ} {m : gx_M}
    (h1 : hxn xs n yp_m259 2 [(0, .inr (.inl 86)), (1, .inl 0)] [] m Q) : hxn xs (n + 1) yp_m259 0 [(0, .inr (.inl 86))] [] m Q := by
  refine hx_blks (npc := 2) (L' := [(0, .inr (.inl 86)), (1, .inl 0)]) (st' := []) (m' := m) ((0, .iconst 0, 1, 0, 0, 0, 0), (0, 0, 0)) [((1, .istore_n 1, 1, 0, 0, 0, 0), (0, 0, 0))] (by decide +kernel) rfl ?_
  exact hx_pick [0, 1] h1

/-- dayGoes from 2 on -/
theorem hr259_2 {xs : List Int32} {n : Nat} {Q : hQ} {m : gx_M} {x1 : Int}
    (h1 : (40 ≤ x1) → hxn xs n yp_m259 37 [(0, .inr (.inl 86)), (1, .inl 0)] [] m Q)
    (h2 : (x1 < 40) → (aYr (m 87) x1) → (aPw (m 87) x1) → hxn xs n yp_m260 0 [(0, .inr (.inl 86)), (1, .inl x1)] [] m (fun r m' => hxn xs n yp_m259 29 [(0, .inr (.inl 86)), (1, .inl x1)] (hrs r ++ []) m' Q))
    (h3 : (x1 < 40) → (aYr (m 87) x1) → (¬ (aPw (m 87) x1)) → hxn xs n yp_m259 2 [(0, .inr (.inl 86)), (1, .inl (gx_w (x1 + 1)))] [] m Q)
    (h4 : (x1 < 40) → (¬ (aYr (m 87) x1)) → hxn xs n yp_m259 2 [(0, .inr (.inl 86)), (1, .inl (gx_w (x1 + 1)))] [] m Q) : hxn xs (n + 1) yp_m259 2 [(0, .inr (.inl 86)), (1, .inl x1)] [] m Q := by
  refine hx_blks (npc := 5) (L' := [(0, .inr (.inl 86)), (1, .inl x1)]) (st' := [.inl 40, .inl x1]) (m' := m) ((2, .iload_n 1, 1, 0, 0, 0, 0), (0, 0, 0)) [((3, .bipush 40, 2, 0, 0, 0, 0), (0, 0, 0))] (by decide +kernel) rfl ?_
  refine hx_cmp .ge 35 (by decide +kernel) (fun c1 => ?_) (fun c1 => ?_)
  · have c1 : 40 ≤ x1 := c1
    refine hx_blk (npc := 37) (L' := [(0, .inr (.inl 86)), (1, .inl 0)]) (st' := []) (m' := m) [((35, .iconst 0, 1, 0, 0, 0, 0), (0, 0, 0)), ((36, .istore_n 1, 1, 0, 0, 0, 0), (0, 0, 0))] (by decide +kernel) rfl ?_
    exact hx_pick [0, 1] (h1 c1)
  · have c1 : x1 < 40 := by have h : ¬ (40 ≤ x1) := c1; omega
    refine hx_blk (npc := 10) (L' := [(0, .inr (.inl 86)), (1, .inl x1)]) (st' := [.inl x1, .inr (.inl 86)]) (m' := m) [((8, .aload_n 0, 1, 0, 0, 0, 0), (0, 0, 0)), ((9, .iload_n 1, 1, 0, 0, 0, 0), (0, 0, 0))] (by decide +kernel) rfl ?_
    refine hx_call (E := (10, .invokevirtual 269, 3, 196, 0, 6156, 0)) (M' := yp_m196) [.inr (.inl 86), .inl x1] [] rfl (by decide +kernel) rfl ⟨rfl, rfl⟩ rfl rfl (hs196 (fun c2 => ?_) (fun c2 => ?_))
    · have c2 : aYr (m 87) x1 := c2
      show hxn xs n yp_m259 13 [(0, .inr (.inl 86)), (1, .inl x1)] [.inl 1] m Q
      refine hx_if .eq 29 (by decide +kernel) (fun c3 => ?_) (fun c3 => ?_)
      · have c3 : (1 : Int) = 0 := c3
        exfalso; omega
      · have c3 : (1 : Int) ≠ 0 := c3
        refine hx_blk (npc := 18) (L' := [(0, .inr (.inl 86)), (1, .inl x1)]) (st' := [.inl x1, .inr (.inl 86)]) (m' := m) [((16, .aload_n 0, 1, 0, 0, 0, 0), (0, 0, 0)), ((17, .iload_n 1, 1, 0, 0, 0, 0), (0, 0, 0))] (by decide +kernel) rfl ?_
        refine hx_call (E := (18, .invokevirtual 275, 3, 200, 0, 6171, 0)) (M' := yp_m200) [.inr (.inl 86), .inl x1] [] rfl (by decide +kernel) rfl ⟨rfl, rfl⟩ rfl rfl (hs200 (fun c3 => ?_) (fun c3 => ?_))
        · have c3 : aPw (m 87) x1 := c3
          show hxn xs n yp_m259 21 [(0, .inr (.inl 86)), (1, .inl x1)] [.inl 1] m Q
          refine hx_if .eq 29 (by decide +kernel) (fun c4 => ?_) (fun c4 => ?_)
          · have c4 : (1 : Int) = 0 := c4
            exfalso; omega
          · have c4 : (1 : Int) ≠ 0 := c4
            refine hx_blk (npc := 26) (L' := [(0, .inr (.inl 86)), (1, .inl x1)]) (st' := [.inl x1, .inr (.inl 86)]) (m' := m) [((24, .aload_n 0, 1, 0, 0, 0, 0), (0, 0, 0)), ((25, .iload_n 1, 1, 0, 0, 0, 0), (0, 0, 0))] (by decide +kernel) rfl ?_
            exact hx_call (E := (26, .invokevirtual 393, 3, 260, 0, 7168, 0)) (M' := yp_m260) [.inr (.inl 86), .inl x1] [] rfl (by decide +kernel) rfl ⟨rfl, rfl⟩ rfl rfl (hx_mono (h2 c1 c2 c3) (fun r m' h' => hx_pick [0, 1] h'))
        · have c3 : ¬ (aPw (m 87) x1) := c3
          show hxn xs n yp_m259 21 [(0, .inr (.inl 86)), (1, .inl x1)] [.inl 0] m Q
          refine hx_if .eq 29 (by decide +kernel) (fun c4 => ?_) (fun c4 => ?_)
          · have c4 : (0 : Int) = 0 := c4
            refine hx_blk (npc := 2) (L' := [(0, .inr (.inl 86)), (1, .inl (gx_w (x1 + 1)))]) (st' := []) (m' := m) [((29, .iinc 1 1, 3, 0, 0, 0, 0), (0, 0, 0)), ((32, .goto (-30), 3, 0, 0, 0, 0), (0, 0, 0))] (by decide +kernel) rfl ?_
            exact hx_pick [0, 1] (h3 c1 c2 c3)
          · have c4 : (0 : Int) ≠ 0 := c4
            exfalso; omega
    · have c2 : ¬ (aYr (m 87) x1) := c2
      show hxn xs n yp_m259 13 [(0, .inr (.inl 86)), (1, .inl x1)] [.inl 0] m Q
      refine hx_if .eq 29 (by decide +kernel) (fun c3 => ?_) (fun c3 => ?_)
      · have c3 : (0 : Int) = 0 := c3
        refine hx_blk (npc := 2) (L' := [(0, .inr (.inl 86)), (1, .inl (gx_w (x1 + 1)))]) (st' := []) (m' := m) [((29, .iinc 1 1, 3, 0, 0, 0, 0), (0, 0, 0)), ((32, .goto (-30), 3, 0, 0, 0, 0), (0, 0, 0))] (by decide +kernel) rfl ?_
        exact hx_pick [0, 1] (h4 c1 c2)
      · have c3 : (0 : Int) ≠ 0 := c3
        exfalso; omega

/-- dayGoes from 29 on -/
theorem hr259_29 {xs : List Int32} {n : Nat} {Q : hQ} {m : gx_M} {x1 : Int}
    (h1 : hxn xs n yp_m259 2 [(0, .inr (.inl 86)), (1, .inl (gx_w (x1 + 1)))] [] m Q) : hxn xs (n + 1) yp_m259 29 [(0, .inr (.inl 86)), (1, .inl x1)] [] m Q := by
  refine hx_blks (npc := 2) (L' := [(0, .inr (.inl 86)), (1, .inl (gx_w (x1 + 1)))]) (st' := []) (m' := m) ((29, .iinc 1 1, 3, 0, 0, 0, 0), (0, 0, 0)) [((32, .goto (-30), 3, 0, 0, 0, 0), (0, 0, 0))] (by decide +kernel) rfl ?_
  exact hx_pick [0, 1] h1

/-- dayGoes from 37 on -/
theorem hr259_37 {xs : List Int32} {n : Nat} {Q : hQ} {m : gx_M} {x1 : Int}
    (h1 : (8 ≤ x1) → Q none (gx_u m 87 1129 (gx_w ((m 87 1129) + 1))))
    (h2 : (x1 < 8) → (aPers (m 87) x1) → hxn xs n yp_m203 0 [(0, .inr (.inl 86)), (1, .inl x1)] [] (gx_u m 87 1130 (Int.tmod (gx_w ((gx_w (25173 * (m 87 1130))) + 13849)) 65536)) (fun r m' => hxn xs n yp_m259 87 [(0, .inr (.inl 86)), (1, .inl x1)] (hrs r ++ []) m' Q))
    (h3 : (x1 < 8) → (¬ (aPers (m 87) x1)) → hxn xs n yp_m259 37 [(0, .inr (.inl 86)), (1, .inl (gx_w (x1 + 1)))] [] m Q) : hxn xs (n + 1) yp_m259 37 [(0, .inr (.inl 86)), (1, .inl x1)] [] m Q := by
  refine hx_blks (npc := 40) (L' := [(0, .inr (.inl 86)), (1, .inl x1)]) (st' := [.inl 8, .inl x1]) (m' := m) ((37, .iload_n 1, 1, 0, 0, 0, 0), (0, 0, 0)) [((38, .bipush 8, 2, 0, 0, 0, 0), (0, 0, 0))] (by decide +kernel) rfl ?_
  refine hx_cmp .ge 139 (by decide +kernel) (fun c1 => ?_) (fun c1 => ?_)
  · have c1 : 8 ≤ x1 := c1
    refine hx_blk (npc := 157) (L' := [(0, .inr (.inl 86)), (1, .inl x1)]) (st' := []) (m' := (gx_u m 87 1129 (gx_w ((m 87 1129) + 1)))) [((139, .aload_n 0, 1, 0, 0, 0, 0), (0, 0, 0)), ((140, .getfield 7, 3, 10, 0, 5113, 0), (1, 86, 87)), ((143, .sipush 1129, 3, 0, 0, 0, 0), (0, 0, 0)), ((146, .aload_n 0, 1, 0, 0, 0, 0), (0, 0, 0)), ((147, .getfield 7, 3, 10, 0, 5113, 0), (1, 86, 87)), ((150, .sipush 1129, 3, 0, 0, 0, 0), (0, 0, 0)), ((153, .iaload, 1, 0, 0, 0, 0), (0, 87, 0)), ((154, .iconst 1, 1, 0, 0, 0, 0), (0, 0, 0)), ((155, .iadd, 1, 0, 0, 0, 0), (0, 0, 0)), ((156, .iastore, 1, 0, 0, 0, 0), (0, 87, 0))] (by decide +kernel) rfl ?_
    exact hx_ret0 (by decide +kernel) (h1 c1)
  · have c1 : x1 < 8 := by have h : ¬ (8 ≤ x1) := c1; omega
    refine hx_blk (npc := 45) (L' := [(0, .inr (.inl 86)), (1, .inl x1)]) (st' := [.inl x1, .inr (.inl 86)]) (m' := m) [((43, .aload_n 0, 1, 0, 0, 0, 0), (0, 0, 0)), ((44, .iload_n 1, 1, 0, 0, 0, 0), (0, 0, 0))] (by decide +kernel) rfl ?_
    refine hx_call (E := (45, .invokevirtual 113, 3, 164, 0, 6031, 0)) (M' := yp_m164) [.inr (.inl 86), .inl x1] [] rfl (by decide +kernel) rfl ⟨rfl, rfl⟩ rfl rfl (hs164 (fun c2 => ?_) (fun c2 => ?_))
    · have c2 : aPers (m 87) x1 := c2
      show hxn xs n yp_m259 48 [(0, .inr (.inl 86)), (1, .inl x1)] [.inl 1] m Q
      refine hx_if .ne 54 (by decide +kernel) (fun c3 => ?_) (fun c3 => ?_)
      · have c3 : (1 : Int) ≠ 0 := c3
        refine hx_blk (npc := 84) (L' := [(0, .inr (.inl 86)), (1, .inl x1)]) (st' := [.inl x1, .inr (.inl 86)]) (m' := (gx_u m 87 1130 (Int.tmod (gx_w ((gx_w (25173 * (m 87 1130))) + 13849)) 65536))) [((54, .aload_n 0, 1, 0, 0, 0, 0), (0, 0, 0)), ((55, .getfield 7, 3, 10, 0, 5113, 0), (1, 86, 87)), ((58, .sipush 1130, 3, 0, 0, 0, 0), (0, 0, 0)), ((61, .sipush 25173, 3, 0, 0, 0, 0), (0, 0, 0)), ((64, .aload_n 0, 1, 0, 0, 0, 0), (0, 0, 0)), ((65, .getfield 7, 3, 10, 0, 5113, 0), (1, 86, 87)), ((68, .sipush 1130, 3, 0, 0, 0, 0), (0, 0, 0)), ((71, .iaload, 1, 0, 0, 0, 0), (0, 87, 0)), ((72, .imul, 1, 0, 0, 0, 0), (0, 0, 0)), ((73, .sipush 13849, 3, 0, 0, 0, 0), (0, 0, 0)), ((76, .iadd, 1, 0, 0, 0, 0), (0, 0, 0)), ((77, .ldc_w 396, 3, 0, 0, 7172, 65536), (0, 0, 0)), ((80, .irem, 1, 0, 0, 0, 0), (0, 0, 0)), ((81, .iastore, 1, 0, 0, 0, 0), (0, 87, 0)), ((82, .aload_n 0, 1, 0, 0, 0, 0), (0, 0, 0)), ((83, .iload_n 1, 1, 0, 0, 0, 0), (0, 0, 0))] (by decide +kernel) rfl ?_
        exact hx_call (E := (84, .invokevirtual 238, 3, 203, 0, 6183, 0)) (M' := yp_m203) [.inr (.inl 86), .inl x1] [] rfl (by decide +kernel) rfl ⟨rfl, rfl⟩ rfl rfl (hx_mono (h2 c1 c2) (fun r m' h' => hx_pick [0, 1] h'))
      · have c3 : (1 : Int) = 0 := by have h : ¬ ((1 : Int) ≠ 0) := c3; omega
        exfalso; omega
    · have c2 : ¬ (aPers (m 87) x1) := c2
      show hxn xs n yp_m259 48 [(0, .inr (.inl 86)), (1, .inl x1)] [.inl 0] m Q
      refine hx_if .ne 54 (by decide +kernel) (fun c3 => ?_) (fun c3 => ?_)
      · have c3 : (0 : Int) ≠ 0 := c3
        exfalso; omega
      · have c3 : (0 : Int) = 0 := by have h : ¬ ((0 : Int) ≠ 0) := c3; omega
        refine hx_blk (npc := 37) (L' := [(0, .inr (.inl 86)), (1, .inl (gx_w (x1 + 1)))]) (st' := []) (m' := m) [((51, .goto 82, 3, 0, 0, 0, 0), (0, 0, 0)), ((133, .iinc 1 1, 3, 0, 0, 0, 0), (0, 0, 0)), ((136, .goto (-99), 3, 0, 0, 0, 0), (0, 0, 0))] (by decide +kernel) rfl ?_
        exact hx_pick [0, 1] (h3 c1 c2)

/-- dayGoes from 87 on -/
theorem hr259_87 {xs : List Int32} {n : Nat} {Q : hQ} {m : gx_M} {x1 : Int}
    (h1 : hxn xs n yp_m225 0 [(0, .inr (.inl 86)), (1, .inl 102), (2, .inl 10)] [] m (fun r m' => hxn xs n yp_m259 106 [(0, .inr (.inl 86)), (1, .inl x1)] (hrs r ++ [.inl (Int.tmod (m 87 1130) 10)]) m' Q)) : hxn xs (n + 1) yp_m259 87 [(0, .inr (.inl 86)), (1, .inl x1)] [] m Q := by
  refine hx_blks (npc := 103) (L' := [(0, .inr (.inl 86)), (1, .inl x1)]) (st' := [.inl 10, .inl 102, .inr (.inl 86), .inl (Int.tmod (m 87 1130) 10)]) (m' := m) ((87, .aload_n 0, 1, 0, 0, 0, 0), (0, 0, 0)) [((88, .getfield 7, 3, 10, 0, 5113, 0), (1, 86, 87)), ((91, .sipush 1130, 3, 0, 0, 0, 0), (0, 0, 0)), ((94, .iaload, 1, 0, 0, 0, 0), (0, 87, 0)), ((95, .bipush 10, 2, 0, 0, 0, 0), (0, 0, 0)), ((97, .irem, 1, 0, 0, 0, 0), (0, 0, 0)), ((98, .aload_n 0, 1, 0, 0, 0, 0), (0, 0, 0)), ((99, .bipush 102, 2, 0, 0, 0, 0), (0, 0, 0)), ((101, .bipush 10, 2, 0, 0, 0, 0), (0, 0, 0))] (by decide +kernel) rfl ?_
  exact hx_call (E := (103, .invokevirtual 251, 3, 225, 0, 7028, 0)) (M' := yp_m225) [.inr (.inl 86), .inl 102, .inl 10] [.inl (Int.tmod (m 87 1130) 10)] rfl (by decide +kernel) rfl ⟨rfl, rfl⟩ rfl rfl (hx_mono h1 (fun r m' h' => hx_pick [0, 1] h'))

/-- dayGoes from 106 on -/
theorem hr259_106 {xs : List Int32} {n : Nat} {Q : hQ} {m : gx_M} {x1 s0 s1 : Int}
    (h1 : (s1 ≤ s0) → hxn xs n yp_m259 37 [(0, .inr (.inl 86)), (1, .inl (gx_w (x1 + 1)))] [] m Q)
    (h2 : (s0 < s1) → hxn xs n yp_m225 0 [(0, .inr (.inl 86)), (1, .inl 103), (2, .inl 999)] [] m (fun r m' => hxn xs n yp_m259 129 [(0, .inr (.inl 86)), (1, .inl x1)] (hrs r ++ [.inl x1, .inr (.inl 86), .inl (gx_w (1120 + x1)), .inr (.inl 87)]) m' Q)) : hxn xs (n + 1) yp_m259 106 [(0, .inr (.inl 86)), (1, .inl x1)] [.inl s1, .inl s0] m Q := by
  refine hx_cmps .ge 133 (by decide +kernel) (fun c1 => ?_) (fun c1 => ?_)
  · have c1 : s1 ≤ s0 := c1
    refine hx_blk (npc := 37) (L' := [(0, .inr (.inl 86)), (1, .inl (gx_w (x1 + 1)))]) (st' := []) (m' := m) [((133, .iinc 1 1, 3, 0, 0, 0, 0), (0, 0, 0)), ((136, .goto (-99), 3, 0, 0, 0, 0), (0, 0, 0))] (by decide +kernel) rfl ?_
    exact hx_pick [0, 1] (h1 c1)
  · have c1 : s0 < s1 := by have h : ¬ (s1 ≤ s0) := c1; omega
    refine hx_blk (npc := 126) (L' := [(0, .inr (.inl 86)), (1, .inl x1)]) (st' := [.inl 999, .inl 103, .inr (.inl 86), .inl x1, .inr (.inl 86), .inl (gx_w (1120 + x1)), .inr (.inl 87)]) (m' := m) [((109, .aload_n 0, 1, 0, 0, 0, 0), (0, 0, 0)), ((110, .getfield 7, 3, 10, 0, 5113, 0), (1, 86, 87)), ((113, .sipush 1120, 3, 0, 0, 0, 0), (0, 0, 0)), ((116, .iload_n 1, 1, 0, 0, 0, 0), (0, 0, 0)), ((117, .iadd, 1, 0, 0, 0, 0), (0, 0, 0)), ((118, .aload_n 0, 1, 0, 0, 0, 0), (0, 0, 0)), ((119, .iload_n 1, 1, 0, 0, 0, 0), (0, 0, 0)), ((120, .aload_n 0, 1, 0, 0, 0, 0), (0, 0, 0)), ((121, .bipush 103, 2, 0, 0, 0, 0), (0, 0, 0)), ((123, .sipush 999, 3, 0, 0, 0, 0), (0, 0, 0))] (by decide +kernel) rfl ?_
    exact hx_call (E := (126, .invokevirtual 251, 3, 225, 0, 7028, 0)) (M' := yp_m225) [.inr (.inl 86), .inl 103, .inl 999] [.inl x1, .inr (.inl 86), .inl (gx_w (1120 + x1)), .inr (.inl 87)] rfl (by decide +kernel) rfl ⟨rfl, rfl⟩ rfl rfl (hx_mono (h2 c1) (fun r m' h' => hx_pick [0, 1] h'))

/-- dayGoes from 129 on -/
theorem hr259_129 {xs : List Int32} {n : Nat} {Q : hQ} {m : gx_M} {x1 s1 s3 s4 : Int}
    (h1 : hxn xs n yp_m198 0 [(0, .inr (.inl 86)), (1, .inl s3), (2, .inl s4)] [] m (fun r m' => hxn xs n yp_m259 132 [(0, .inr (.inl 86)), (1, .inl x1)] (hrs r ++ [.inl s1, .inr (.inl 87)]) m' Q)) : hxn xs (n + 1) yp_m259 129 [(0, .inr (.inl 86)), (1, .inl x1)] [.inl s4, .inl s3, .inr (.inl 86), .inl s1, .inr (.inl 87)] m Q := by
  exact hx_calls (E := (129, .invokevirtual 266, 3, 198, 0, 6164, 0)) (M' := yp_m198) [.inr (.inl 86), .inl s3, .inl s4] [.inl s1, .inr (.inl 87)] rfl (by decide +kernel) rfl ⟨rfl, rfl⟩ rfl rfl (hx_mono h1 (fun r m' h' => hx_pick [0, 1] h'))

/-- dayGoes from 132 on -/
theorem hr259_132 {xs : List Int32} {n : Nat} {Q : hQ} {m : gx_M} {x1 s1 s2 : Int}
    (h1 : hxn xs n yp_m259 37 [(0, .inr (.inl 86)), (1, .inl (gx_w (x1 + 1)))] [] (gx_u m 87 (s1).toNat s2) Q) : hxn xs (n + 1) yp_m259 132 [(0, .inr (.inl 86)), (1, .inl x1)] [.inl s2, .inl s1, .inr (.inl 87)] m Q := by
  refine hx_blks (npc := 37) (L' := [(0, .inr (.inl 86)), (1, .inl (gx_w (x1 + 1)))]) (st' := []) (m' := (gx_u m 87 (s1).toNat s2)) ((132, .iastore, 1, 0, 0, 0, 0), (0, 87, 0)) [((133, .iinc 1 1, 3, 0, 0, 0, 0), (0, 0, 0)), ((136, .goto (-99), 3, 0, 0, 0, 0), (0, 0, 0))] (by decide +kernel) rfl ?_
  exact hx_pick [0, 1] h1

/-- daysGo from 0 on -/
theorem hr258_0 {xs : List Int32} {n : Nat} {Q : hQ} {m : gx_M} {x1 : Int}
    (h1 : hxn xs n yp_m258 7 [(0, .inr (.inl 86)), (1, .inl x1), (2, .inl 0)] [] (gx_u m 86 45 0) Q) : hxn xs (n + 1) yp_m258 0 [(0, .inr (.inl 86)), (1, .inl x1)] [] m Q := by
  refine hx_blks (npc := 7) (L' := [(0, .inr (.inl 86)), (1, .inl x1), (2, .inl 0)]) (st' := []) (m' := (gx_u m 86 45 0)) ((0, .aload_n 0, 1, 0, 0, 0, 0), (0, 0, 0)) [((1, .iconst 0, 1, 0, 0, 0, 0), (0, 0, 0)), ((2, .putfield 390, 3, 10, 45, 5158, 0), (0, 86, 0)), ((5, .iconst 0, 1, 0, 0, 0, 0), (0, 0, 0)), ((6, .istore_n 2, 1, 0, 0, 0, 0), (0, 0, 0))] (by decide +kernel) rfl ?_
  exact hx_pick [0, 1, 2] h1

/-- daysGo from 7 on -/
theorem hr258_7 {xs : List Int32} {n : Nat} {Q : hQ} {m : gx_M} {x1 x2 : Int}
    (h1 : (x1 ≤ x2) → Q none m)
    (h2 : (x2 < x1) → hxn xs n yp_m259 0 [(0, .inr (.inl 86))] [] m (fun r m' => hxn xs n yp_m258 16 [(0, .inr (.inl 86)), (1, .inl x1), (2, .inl x2)] (hrs r ++ []) m' Q)) : hxn xs (n + 1) yp_m258 7 [(0, .inr (.inl 86)), (1, .inl x1), (2, .inl x2)] [] m Q := by
  refine hx_blks (npc := 9) (L' := [(0, .inr (.inl 86)), (1, .inl x1), (2, .inl x2)]) (st' := [.inl x1, .inl x2]) (m' := m) ((7, .iload_n 2, 1, 0, 0, 0, 0), (0, 0, 0)) [((8, .iload_n 1, 1, 0, 0, 0, 0), (0, 0, 0))] (by decide +kernel) rfl ?_
  refine hx_cmp .ge 22 (by decide +kernel) (fun c1 => ?_) (fun c1 => ?_)
  · have c1 : x1 ≤ x2 := c1
    exact hx_ret0 (by decide +kernel) (h1 c1)
  · have c1 : x2 < x1 := by have h : ¬ (x1 ≤ x2) := c1; omega
    refine hx_blk (npc := 13) (L' := [(0, .inr (.inl 86)), (1, .inl x1), (2, .inl x2)]) (st' := [.inr (.inl 86)]) (m' := m) [((12, .aload_n 0, 1, 0, 0, 0, 0), (0, 0, 0))] (by decide +kernel) rfl ?_
    exact hx_call (E := (13, .invokevirtual 397, 3, 259, 0, 7164, 0)) (M' := yp_m259) [.inr (.inl 86)] [] rfl (by decide +kernel) rfl ⟨rfl, rfl⟩ rfl rfl (hx_mono (h2 c1) (fun r m' h' => hx_pick [0, 1, 2] h'))

/-- daysGo from 16 on -/
theorem hr258_16 {xs : List Int32} {n : Nat} {Q : hQ} {m : gx_M} {x1 x2 : Int}
    (h1 : hxn xs n yp_m258 7 [(0, .inr (.inl 86)), (1, .inl x1), (2, .inl (gx_w (x2 + 1)))] [] m Q) : hxn xs (n + 1) yp_m258 16 [(0, .inr (.inl 86)), (1, .inl x1), (2, .inl x2)] [] m Q := by
  refine hx_blks (npc := 7) (L' := [(0, .inr (.inl 86)), (1, .inl x1), (2, .inl (gx_w (x2 + 1)))]) (st' := []) (m' := m) ((16, .iinc 2 1, 3, 0, 0, 0, 0), (0, 0, 0)) [((19, .goto (-12), 3, 0, 0, 0, 0), (0, 0, 0))] (by decide +kernel) rfl ?_
  exact hx_pick [0, 1, 2] h1

/-- days from 0 on -/
theorem hr257_0 {xs : List Int32} {n : Nat} {Q : hQ} {m : gx_M} {x1 : Int}
    (h1 : (1 ≤ x1 ∧ x1 ≤ 100) → hxn xs n yp_m258 0 [(0, .inr (.inl 86)), (1, .inl x1)] [] m (fun r m' => hxn xs n yp_m257 17 [(0, .inr (.inl 86))] (hrs r ++ []) m' Q))
    (h2 : (¬ (1 ≤ x1 ∧ x1 ≤ 100)) → Q (some (.inl (-1))) m) : hxn xs (n + 1) yp_m257 0 [(0, .inr (.inl 86)), (1, .inl x1)] [] m Q := by
  refine hx_blks (npc := 4) (L' := [(0, .inr (.inl 86)), (1, .inl x1)]) (st' := [.inl 100, .inl 1, .inl x1]) (m' := m) ((0, .iload_n 1, 1, 0, 0, 0, 0), (0, 0, 0)) [((1, .iconst 1, 1, 0, 0, 0, 0), (0, 0, 0)), ((2, .bipush 100, 2, 0, 0, 0, 0), (0, 0, 0))] (by decide +kernel) rfl ?_
  refine hx_call (E := (4, .invokestatic 108, 3, 162, 0, 6023, 0)) (M' := yp_m162) [.inl x1, .inl 1, .inl 100] [] rfl (by decide +kernel) rfl ⟨rfl, rfl⟩ rfl rfl (hs162 (fun c1 => ?_) (fun c1 => ?_))
  · have c1 : 1 ≤ x1 ∧ x1 ≤ 100 := c1
    show hxn xs n yp_m257 7 [(0, .inr (.inl 86)), (1, .inl x1)] [.inl 1] m Q
    refine hx_if .ne 12 (by decide +kernel) (fun c2 => ?_) (fun c2 => ?_)
    · have c2 : (1 : Int) ≠ 0 := c2
      refine hx_blk (npc := 14) (L' := [(0, .inr (.inl 86)), (1, .inl x1)]) (st' := [.inl x1, .inr (.inl 86)]) (m' := m) [((12, .aload_n 0, 1, 0, 0, 0, 0), (0, 0, 0)), ((13, .iload_n 1, 1, 0, 0, 0, 0), (0, 0, 0))] (by decide +kernel) rfl ?_
      exact hx_call (E := (14, .invokevirtual 400, 3, 258, 0, 7160, 0)) (M' := yp_m258) [.inr (.inl 86), .inl x1] [] rfl (by decide +kernel) rfl ⟨rfl, rfl⟩ rfl rfl (hx_mono (h1 c1) (fun r m' h' => hx_pick [0] h'))
    · have c2 : (1 : Int) = 0 := by have h : ¬ ((1 : Int) ≠ 0) := c2; omega
      exfalso; omega
  · have c1 : ¬ (1 ≤ x1 ∧ x1 ≤ 100) := c1
    show hxn xs n yp_m257 7 [(0, .inr (.inl 86)), (1, .inl x1)] [.inl 0] m Q
    refine hx_if .ne 12 (by decide +kernel) (fun c2 => ?_) (fun c2 => ?_)
    · have c2 : (0 : Int) ≠ 0 := c2
      exfalso; omega
    · have c2 : (0 : Int) = 0 := by have h : ¬ ((0 : Int) ≠ 0) := c2; omega
      refine hx_blk (npc := 11) (L' := [(0, .inr (.inl 86)), (1, .inl x1)]) (st' := [.inl (-1)]) (m' := m) [((10, .iconst (-1), 1, 0, 0, 0, 0), (0, 0, 0))] (by decide +kernel) rfl ?_
      exact hx_reti (by decide +kernel) (h2 c1)

/-- days from 17 on -/
theorem hr257_17 {xs : List Int32} {n : Nat} {Q : hQ} {m : gx_M}
    (h1 : Q (some (.inl (m 86 45))) (gx_u m 86 44 (gx_w ((m 86 44) + (m 86 45))))) : hxn xs (n + 1) yp_m257 17 [(0, .inr (.inl 86))] [] m Q := by
  refine hx_blks (npc := 34) (L' := [(0, .inr (.inl 86))]) (st' := [.inl (m 86 45)]) (m' := (gx_u m 86 44 (gx_w ((m 86 44) + (m 86 45))))) ((17, .aload_n 0, 1, 0, 0, 0, 0), (0, 0, 0)) [((18, .aload_n 0, 1, 0, 0, 0, 0), (0, 0, 0)), ((19, .getfield 403, 3, 10, 44, 5157, 0), (0, 86, 0)), ((22, .aload_n 0, 1, 0, 0, 0, 0), (0, 0, 0)), ((23, .getfield 390, 3, 10, 45, 5158, 0), (0, 86, 0)), ((26, .iadd, 1, 0, 0, 0, 0), (0, 0, 0)), ((27, .putfield 403, 3, 10, 44, 5157, 0), (0, 86, 0)), ((30, .aload_n 0, 1, 0, 0, 0, 0), (0, 0, 0)), ((31, .getfield 390, 3, 10, 45, 5158, 0), (0, 86, 0))] (by decide +kernel) rfl ?_
  exact hx_reti (by decide +kernel) h1
end
section
/-! days: what they do -/
theorem hloop {N : Nat} {P : Nat → Prop} (h0 : P N) (hs : ∀ k, k < N → P (k + 1) → P k) : ∀ k, k ≤ N → P k := by
  have : ∀ d k : Nat, k + d = N → P k := by
    intro d
    induction d with
    | zero =>
      intro k hk
      have e : k = N := by omega
      rw [e]
      exact h0
    | succ d ih => exact fun k hk => hs k (by omega) (ih (k + 1) (by omega))
  exact fun k hk => this (N - k) k (by omega)
theorem lClip_b {high : Int} (h : 0 ≤ high) (r : Option Int) : 0 ≤ lClip high r ∧ lClip high r ≤ high := by
  unfold lClip
  split
  · split
    · omega
    · split <;> omega
  · omega
def lcg (x : Int) : Int := (25173 * x + 13849) % 65536
def gV (W : (Int → Int) → Int → Option Int) (s : Nat → Int) (y : Nat) : Int := cl99 (s (360 + y) + lClip 99 (W (env1 s y (s (240 + y)) (s (320 + y))) 105))
def gS (W : (Int → Int) → Int → Option Int) (s : Nat → Int) (y : Nat) : Nat → Int := if s (440 + y) = 1 ∧ 0 ≤ s (280 + y) then (if 0 < s (320 + y) ∧ 2 * s (320 + y) ≤ gV W s y then sGo (su s (360 + y) (gV W s y)) y (s (280 + y)) else su s (360 + y) (gV W s y)) else s
def gF (W : (Int → Int) → Int → Option Int) (s : Nat → Int) (y : Nat) : Int := if s (440 + y) = 1 ∧ 0 ≤ s (280 + y) then (if 0 < s (320 + y) ∧ 2 * s (320 + y) ≤ gV W s y then 1 else 0) else 0
def gL (W : (Int → Int) → Int → Option Int) (s : Nat → Int) : Nat → (Nat → Int) × Int
  | 0 => (s, 0)
  | y + 1 => (gS W (gL W s y).1 y, (gL W s y).2 + gF W (gL W s y).1 y)
def fX (s : Nat → Int) : Nat → Int := su s 1130 (lcg (s 1130))
def fS (W : (Int → Int) → Int → Option Int) (s : Nat → Int) (p : Nat) : Nat → Int := if gx_and (gx_shr (s 1128) (p : Int)) 1 = 1 then (if lcg (s 1130) % 10 < lClip 10 (W (env0 (fX s) (p : Int)) 102) then su (fX s) (1120 + p) (cl99 (s (1120 + p) + lClip 999 (W (env0 (fX s) (p : Int)) 103))) else fX s) else s
def fL (W : (Int → Int) → Int → Option Int) (s : Nat → Int) : Nat → Nat → Int
  | 0 => s
  | p + 1 => fS W (fL W s p) p
def dS (W : (Int → Int) → Int → Option Int) (s : Nat → Int) : Nat → Int := su (fL W (gL W s 40).1 8) 1129 (gx_w (fL W (gL W s 40).1 8 1129 + 1))
def dN (W : (Int → Int) → Int → Option Int) (s : Nat → Int) : Nat → (Nat → Int) × Int
  | 0 => (s, 0)
  | k + 1 => (dS W (dN W s k).1, (dN W s k).2 + (gL W (dN W s k).1 40).2)
section DOK
variable {W : (Int → Int) → Int → Option Int} {s : Nat → Int}
theorem lcg_b (x : Int) : 0 ≤ lcg x ∧ lcg x ≤ 65535 := by
  unfold lcg
  omega
theorem gV_b (h : sOK s) {y : Nat} (hy : y < 40) : 0 ≤ gV W s y ∧ gV W s y ≤ 99999 := by
  have h1 := h.due y hy
  have h2 := lClip_b (high := 99) (by decide) (W (env1 s y (s (240 + y)) (s (320 + y))) 105)
  exact cl99_b (by omega)
theorem gS_ok (h : sOK s) {y : Nat} (hy : y < 40) : sOK (gS W s y) := by
  have hv := gV_b (W := W) h hy
  have h1 : sOK (su s (360 + y) (gV W s y)) := sK_due hy hv h
  unfold gS
  split
  · rename_i c
    have hh := h.hold y hy
    split
    · exact sGo_ok hy (by omega) h1
    · exact h1
  · exact h
theorem gF_b (y : Nat) : gF W s y = 0 ∨ gF W s y = 1 := by
  unfold gF
  split
  · split
    · exact .inr rfl
    · exact .inl rfl
  · exact .inl rfl
theorem gL_ok (h : sOK s) : ∀ y, y ≤ 40 → sOK (gL W s y).1 ∧ 0 ≤ (gL W s y).2 ∧ (gL W s y).2 ≤ y
  | 0, _ => ⟨h, Int.le_refl _, Int.le_refl _⟩
  | y + 1, hy => by
    obtain ⟨i1, i2, i3⟩ := gL_ok h y (by omega)
    refine ⟨gS_ok i1 (by omega), ?_⟩
    show 0 ≤ (gL W s y).2 + gF W (gL W s y).1 y ∧ (gL W s y).2 + gF W (gL W s y).1 y ≤ ((y + 1 : Nat) : Int)
    rcases gF_b (W := W) (s := (gL W s y).1) y with e | e <;> omega
theorem fX_ok (h : sOK s) : sOK (fX s) := sK_lot (lcg_b _) h
theorem fS_ok (h : sOK s) {p : Nat} (hp : p < 8) : sOK (fS W s p) := by
  have hx := fX_ok h
  have hc := h.coin p hp
  have h2 := lClip_b (high := 999) (by decide) (W (env0 (fX s) (p : Int)) 103)
  unfold fS
  split
  · rename_i c
    split
    · refine sK_coin hp (cl99_b (by omega)) (fun q => ?_) hx
      have e : fX s 1128 = s 1128 := su_ne (by decide)
      rw [e] at q
      omega
    · exact hx
  · exact h
theorem fL_ok (h : sOK s) : ∀ p, p ≤ 8 → sOK (fL W s p)
  | 0, _ => h
  | p + 1, hp => fS_ok (fL_ok h p (by omega)) (by omega)
theorem dS_ok (h : sOK s) : sOK (dS W s) := sK_day (fL_ok (gL_ok h 40 (Nat.le_refl _)).1 8 (Nat.le_refl _))
theorem dN_ok (h : sOK s) : ∀ k, k ≤ 1000 → sOK (dN W s k).1 ∧ 0 ≤ (dN W s k).2 ∧ (dN W s k).2 ≤ 40 * k
  | 0, _ => ⟨h, Int.le_refl _, Int.le_refl _⟩
  | k + 1, hk => by
    obtain ⟨i1, i2, i3⟩ := dN_ok h k (by omega)
    obtain ⟨-, j2, j3⟩ := gL_ok (W := W) i1 40 (Nat.le_refl _)
    refine ⟨dS_ok i1, ?_⟩
    show 0 ≤ (dN W s k).2 + (gL W (dN W s k).1 40).2 ∧ (dN W s k).2 + (gL W (dN W s k).1 40).2 ≤ ((40 * (k + 1) : Nat) : Int)
    omega
theorem lcg_c {x : Int} (h : 0 ≤ x ∧ x ≤ 65535) : gx_and (gx_w ((gx_w (25173 * x)) + 13849)) 65535 = lcg x := by
  rw [gx_w_id (x := 25173 * x) (by omega) (by omega), gx_w_id (by omega) (by omega)]
  obtain ⟨X, hX⟩ : ∃ X : Nat, 25173 * x + 13849 = (X : Int) := ⟨(25173 * x + 13849).toNat, by omega⟩
  unfold lcg
  rw [hX]
  have := hand_nat (X := X) (Z := 65535) (by omega) (by decide)
  have e : ((65535 : Nat) : Int) = 65535 := rfl
  rw [e] at this
  rw [this]
  have e2 : X &&& 65535 = X % 65536 := Nat.and_two_pow_sub_one_eq_mod X 16
  rw [e2]
  omega
theorem lcg_r {x : Int} (h : 0 ≤ x ∧ x ≤ 65535) : Int.tmod (gx_w ((gx_w (25173 * x)) + 13849)) 65536 = lcg x := by
  rw [gx_w_id (x := 25173 * x) (by omega) (by omega), gx_w_id (by omega) (by omega), Int.tmod_eq_emod_of_nonneg (by omega)]
  rfl
theorem t10 {x : Int} (h : 0 ≤ x) : Int.tmod x 10 = x % 10 := Int.tmod_eq_emod_of_nonneg h
end DOK
theorem aPb {s : Nat → Int} {p : Nat} (hp : p < 8) : aPers s (p : Int) ↔ gx_and (gx_shr (s 1128) (p : Int)) 1 = 1 := ⟨fun h => h.2.2, fun h => ⟨by omega, by omega, h⟩⟩
/-! the class, book 5 -/
section DY5
variable {xs : List Int32} {n : Nat} {Q : hQ} {s : Nat → Int} {m m0 : gx_M} {W : (Int → Int) → Int → Option Int}
theorem cPw5_iff (hs : sOK s) (hB : sBk 5 s m) {Y : Nat} (hY : Y < 40) : cPwd 5 13 m (Y : Int) ↔ s (440 + Y) = 1 ∧ 0 ≤ s (280 + Y) := by
  have hh := hs.hold Y hY
  unfold cPwd
  rw [cY_iff hB hY, Int.toNat_natCast]
  constructor
  · rintro ⟨h1, h2⟩
    rw [sB5_hold hB Y hY h1] at h2
    exact ⟨h1, by omega⟩
  · rintro ⟨h1, h2⟩
    refine ⟨h1, ?_⟩
    rw [sB5_hold hB Y hY h1]
    omega
theorem c135 (hL : lawR xs W m0) (hs : sOK s) (hB : sBk 5 s m) (hf : cDf 5 m0 m) (h : ∀ m', sBk 5 (gL W s 40).1 m' → cDf 5 m0 m' → Q (some (.inl (gL W s 40).2)) m') : hxn xs n yp_m135 0 [(0, .inr (.inl 69)), (1, .inr (.inl 5)), (2, .inr (.inl 44))] [] m Q := by
  have hl := hloop (N := 40) (P := fun y => ∀ m : gx_M, sBk 5 (gL W s y).1 m → cDf 5 m0 m → hxn xs n yp_m135 5 [(1, .inr (.inl 5)), (2, .inr (.inl 44)), (3, .inl (gL W s y).2), (4, .inl (y : Int))] [] m Q) (fun m hB hf => hx_dn (hr135_5 (fun _ => h m hB hf) (fun c => absurd c (by decide)) (fun c => absurd c (by decide)))) (fun y hy ih => ?_) 0 (Nat.zero_le _)
  · exact hx_pick [1, 2] (hx_dn (hr135_0 (hl m hB hf)))
  · intro m hB hf
    obtain ⟨ok, g1, g2⟩ := gL_ok (W := W) hs y (by omega)
    have ih : ∀ m, sBk 5 (gS W (gL W s y).1 y) m → cDf 5 m0 m → hxn xs n yp_m135 5 [(1, .inr (.inl 5)), (2, .inr (.inl 44)), (3, .inl ((gL W s y).2 + gF W (gL W s y).1 y)), (4, .inl ((y + 1 : Nat) : Int))] [] m Q := ih
    generalize (gL W s y).1 = t at ok ih hB
    generalize (gL W s y).2 = f at g1 g2 ih
    have hv := gV_b (W := W) ok hy
    have ho := ok.own y hy
    have hd := ok.due y hy
    have hle := ok.lent y hy
    have hb := lClip_b (high := 99) (by decide) (W (env1 t y (t (240 + y)) (t (320 + y))) 105)
    have iff := cPw5_iff ok hB hy
    refine hx_dn (hr135_5 (fun c => absurd c (by omega)) (fun _ c => ?_) (fun _ c => ?_))
    · obtain ⟨c1, c2⟩ := iff.mp c
      rw [Int.toNat_natCast, sB5_own hB y hy, sB5_lent hB y hy]
      refine cAm1 (.inl rfl) (by decide) (lawR_c (cDf_L5 hf) hL) ok hB hy (by omega) (fun m1 f1 => ?_)
      have hB1 := cLf_b (.inl rfl) f1 hB
      have hf1 := cDf_t hf (cDf_f f1)
      have e99 : lHi 105 = 99 := rfl
      rw [e99]
      have ev : (if gx_w (m1 15 y + lClip 99 (W (env1 t y (t (240 + y)) (t (320 + y))) 105)) < 99999 then gx_w (m1 15 y + lClip 99 (W (env1 t y (t (240 + y)) (t (320 + y))) 105)) else 99999) = gV W t y := by
        rw [sB5_due hB1 y hy, gx_w_id (by omega) (by omega)]
        rfl
      unfold gS gF at ih
      have cc : t (440 + y) = 1 ∧ 0 ≤ t (280 + y) := ⟨c1, c2⟩
      rw [if_pos cc, if_pos cc] at ih
      refine hx_dn (hr135_51 ?_)
      rw [Int.toNat_natCast, ev]
      have hB2 := sU_due (b := 5) (v := gV W t y) hy hB1
      have hf2 : cDf 5 m0 (gx_u m1 15 y (gV W t y)) := cDf_t hf1 (cDf_b (bFr_u (by decide)))
      have hB2 : sBk 5 (su t (360 + y) (gV W t y)) (gx_u m1 15 y (gV W t y)) := hB2
      have e15 : gx_u m1 15 y (gV W t y) 15 y = gV W t y := gx_u_self
      generalize gx_u m1 15 y (gV W t y) = M at hB2 hf2 e15 ⊢
      refine hx_dn (hr135_75 (fun d => ?_) (fun d1 d2 => ?_) (fun d1 d2 => ?_))
      · have cn : ¬ (0 < t (320 + y) ∧ 2 * t (320 + y) ≤ gV W t y) := by omega
        rw [if_neg cn, if_neg cn, Int.add_zero] at ih
        rw [ew_u (by omega)]
        exact ih _ hB2 hf2
      · rw [Int.toNat_natCast, e15, gx_w_id (by omega) (by omega)] at d2
        have cn : ¬ (0 < t (320 + y) ∧ 2 * t (320 + y) ≤ gV W t y) := by omega
        rw [if_neg cn, if_neg cn, Int.add_zero] at ih
        rw [ew_u (by omega)]
        exact ih _ hB2 hf2
      · rw [Int.toNat_natCast, e15, gx_w_id (by omega) (by omega)] at d2
        have cy : 0 < t (320 + y) ∧ 2 * t (320 + y) ≤ gV W t y := ⟨d1, d2⟩
        rw [if_pos cy, if_pos cy] at ih
        have ht2 : su t (360 + y) (gV W t y) (440 + y) = 1 := by rw [su_ne (by omega)]; exact c1
        have eh : su t (360 + y) (gV W t y) (280 + y) = t (280 + y) := su_ne (by omega)
        rw [Int.toNat_natCast, sB5_hold hB2 y hy ht2, eh]
        refine cd16 (s := su t (360 + y) (gV W t y)) hy (by rw [su_ne (by omega)]; exact ok.many y hy) hB2 ht2 (fun m2 h2 f2 => ?_)
        refine hx_dn (hr135_107 ?_)
        rw [ew_u (by omega), gx_w_id (by omega) (by omega)]
        exact ih m2 h2 (cDf_t hf2 (cDf_b f2))
    · rw [ew_u (by omega)]
      unfold gS gF at ih
      have cn : ¬ (t (440 + y) = 1 ∧ 0 ≤ t (280 + y)) := fun q => c (iff.mpr q)
      rw [if_neg cn, if_neg cn, Int.add_zero] at ih
      exact ih m hB hf
theorem c136 (hL : lawR xs W m0) (hs : sOK s) (hB : sBk 5 s m) (hf : cDf 5 m0 m) (h : ∀ m', sBk 5 (fL W s 8) m' → cDf 5 m0 m' → Q none m') : hxn xs n yp_m136 0 [(0, .inr (.inl 69)), (1, .inr (.inl 5)), (2, .inr (.inl 44))] [] m Q := by
  have hl := hloop (N := 8) (P := fun p => ∀ m : gx_M, sBk 5 (fL W s p) m → cDf 5 m0 m → hxn xs n yp_m136 2 [(1, .inr (.inl 5)), (2, .inr (.inl 44)), (3, .inl (p : Int))] [] m Q) (fun m hB hf => hx_dn (hr136_2 (fun _ => h m hB hf) (fun c => absurd c (by decide)) (fun c => absurd c (by decide)))) (fun p hp ih => ?_) 0 (Nat.zero_le _)
  · exact hx_pick [1, 2] (hx_dn (hr136_0 (hl m hB hf)))
  · intro m hB hf
    have ok := fL_ok (W := W) hs p (by omega)
    have ih : ∀ m, sBk 5 (fS W (fL W s p) p) m → cDf 5 m0 m → hxn xs n yp_m136 2 [(1, .inr (.inl 5)), (2, .inr (.inl 44)), (3, .inl ((p + 1 : Nat) : Int))] [] m Q := ih
    generalize fL W s p = t at ok ih hB
    have hx := fX_ok ok
    have hlot := ok.2.2.2.2
    have lb := lcg_b (t 1130)
    unfold fS at ih
    refine hx_dn (hr136_2 (fun c => absurd c (by omega)) (fun _ c => ?_) (fun _ c => ?_))
    · have cp := (aPb (by omega)).mp ((cP_iff hB).mp c)
      rw [if_pos cp] at ih
      rw [sB5_lot hB, lcg_c hlot, t10 lb.1]
      have hB1 : sBk 5 (fX t) (gx_u m 5 4 (lcg (t 1130))) := sU_lot (b := 5) hB
      have hf1 : cDf 5 m0 (gx_u m 5 4 (lcg (t 1130))) := cDf_t hf (cDf_b (bFr_u (by decide)))
      refine cAm0 (.inl rfl) (by decide) (lawR_c (cDf_L5 hf1) hL) hx hB1 (by omega) (fun m1 f1 => ?_)
      have hB2 := cLf_b (.inl rfl) f1 hB1
      have hf2 := cDf_t hf1 (cDf_f f1)
      have e10 : lHi 102 = 10 := rfl
      rw [e10]
      refine hx_dn (hr136_55 (fun d => ?_) (fun d => ?_))
      · rw [if_neg (by omega)] at ih
        rw [ew_u (by omega)]
        exact ih m1 hB2 hf2
      · rw [if_pos d] at ih
        refine cAm0 (.inl rfl) (by decide) (lawR_c (cDf_L5 hf2) hL) hx hB2 (by omega) (fun m2 f2 => ?_)
        have hB3 := cLf_b (.inl rfl) f2 hB2
        have hf3 := cDf_t hf2 (cDf_f f2)
        have e999 : lHi 103 = 999 := rfl
        rw [e999]
        have hb := lClip_b (high := 999) (by decide) (W (env0 (fX t) (p : Int)) 103)
        refine hx_dn (hr136_70 ?_)
        refine cd69 (s := fX t) ((aPers_su (by decide)).mpr ((cP_iff hB).mp c)) (hx.coin p hp) (by omega) hB3 (fun m3 h3 f3 => ?_)
        have et : fX t (1120 + p) = t (1120 + p) := su_ne (by omega)
        rw [et] at h3
        refine hx_dn (hr136_73 ?_)
        rw [ew_u (by omega)]
        exact ih m3 h3 (cDf_t hf3 (cDf_b f3))
    · have cp : ¬ gx_and (gx_shr (t 1128) (p : Int)) 1 = 1 := fun q => c ((cP_iff hB).mpr ((aPb hp).mpr q))
      rw [if_neg cp] at ih
      rw [ew_u (by omega)]
      exact ih m hB hf
theorem c134 {N : Nat} (hN : N ≤ 100) (hL : lawR xs W m) (hs : sOK s) (hB : sBk 5 s m) (h : ∀ m', sBk 5 (dN W s N).1 m' → cDf 5 m m' → Q (some (.inl (dN W s N).2)) m') : hxn xs n yp_m134 0 [(0, .inr (.inl 69)), (1, .inr (.inl 5)), (2, .inr (.inl 44)), (3, .inl (N : Int))] [] m Q := by
  have hl := hloop (N := N) (P := fun k => ∀ m1 : gx_M, sBk 5 (dN W s k).1 m1 → cDf 5 m m1 → hxn xs n yp_m134 6 [(0, .inr (.inl 69)), (1, .inr (.inl 5)), (2, .inr (.inl 44)), (3, .inl (N : Int)), (4, .inl (dN W s k).2), (5, .inl (k : Int))] [] m1 Q) (fun m1 hB hf => hx_dn (hr134_6 (fun _ => h m1 hB hf) (fun c => absurd c (by omega)))) (fun k hk ih => ?_) 0 (Nat.zero_le _)
  · exact hx_dn (hr134_0 (hl m hB (fun _ _ _ _ _ => rfl)))
  · intro m1 hB hf
    obtain ⟨ok, g1, g2⟩ := dN_ok (W := W) hs k (by omega)
    have ih : ∀ m1, sBk 5 (dS W (dN W s k).1) m1 → cDf 5 m m1 → hxn xs n yp_m134 6 [(0, .inr (.inl 69)), (1, .inr (.inl 5)), (2, .inr (.inl 44)), (3, .inl (N : Int)), (4, .inl ((dN W s k).2 + (gL W (dN W s k).1 40).2)), (5, .inl ((k + 1 : Nat) : Int))] [] m1 Q := ih
    generalize (dN W s k).1 = t at ok ih hB
    generalize (dN W s k).2 = f at g1 g2 ih
    obtain ⟨ok2, j2, j3⟩ := gL_ok (W := W) ok 40 (Nat.le_refl _)
    refine hx_dn (hr134_6 (fun c => absurd c (by omega)) (fun _ => ?_))
    refine c135 hL ok hB hf (fun m2 h2 f2 => ?_)
    refine hx_dn (hr134_20 ?_)
    rw [gx_w_id (by omega) (by omega)]
    refine c136 hL ok2 h2 f2 (fun m3 h3 f3 => ?_)
    refine hx_dn (hr134_29 ?_)
    rw [ew_u (by omega), sB5_day h3]
    exact ih _ (sU_day (b := 5) h3) (cDf_t f3 (cDf_b (bFr_u (by decide))))
end DY5
/-! the class, book 31 -/
section DY31
variable {xs : List Int32} {n : Nat} {Q : hQ} {s : Nat → Int} {m m0 : gx_M} {W : (Int → Int) → Int → Option Int}
theorem cPw31_iff (hs : sOK s) (hB : sBk 31 s m) {Y : Nat} (hY : Y < 40) : cPwd 31 39 m (Y : Int) ↔ s (440 + Y) = 1 ∧ 0 ≤ s (280 + Y) := by
  have hh := hs.hold Y hY
  unfold cPwd
  rw [cY_iff hB hY, Int.toNat_natCast]
  constructor
  · rintro ⟨h1, h2⟩
    rw [sB31_hold hB Y hY h1] at h2
    exact ⟨h1, by omega⟩
  · rintro ⟨h1, h2⟩
    refine ⟨h1, ?_⟩
    rw [sB31_hold hB Y hY h1]
    omega
theorem c31_135 (hL : lawR xs W m0) (hs : sOK s) (hB : sBk 31 s m) (hf : cDf 31 m0 m) (h : ∀ m', sBk 31 (gL W s 40).1 m' → cDf 31 m0 m' → Q (some (.inl (gL W s 40).2)) m') : hxn xs n yp_m135 0 [(0, .inr (.inl 69)), (1, .inr (.inl 31)), (2, .inr (.inl 44))] [] m Q := by
  have hl := hloop (N := 40) (P := fun y => ∀ m : gx_M, sBk 31 (gL W s y).1 m → cDf 31 m0 m → hxn xs n yp_m135 5 [(1, .inr (.inl 31)), (2, .inr (.inl 44)), (3, .inl (gL W s y).2), (4, .inl (y : Int))] [] m Q) (fun m hB hf => hx_dn (hr31_135_5 (fun _ => h m hB hf) (fun c => absurd c (by decide)) (fun c => absurd c (by decide)))) (fun y hy ih => ?_) 0 (Nat.zero_le _)
  · exact hx_pick [1, 2] (hx_dn (hr31_135_0 (hl m hB hf)))
  · intro m hB hf
    obtain ⟨ok, g1, g2⟩ := gL_ok (W := W) hs y (by omega)
    have ih : ∀ m, sBk 31 (gS W (gL W s y).1 y) m → cDf 31 m0 m → hxn xs n yp_m135 5 [(1, .inr (.inl 31)), (2, .inr (.inl 44)), (3, .inl ((gL W s y).2 + gF W (gL W s y).1 y)), (4, .inl ((y + 1 : Nat) : Int))] [] m Q := ih
    generalize (gL W s y).1 = t at ok ih hB
    generalize (gL W s y).2 = f at g1 g2 ih
    have hv := gV_b (W := W) ok hy
    have ho := ok.own y hy
    have hd := ok.due y hy
    have hle := ok.lent y hy
    have hb := lClip_b (high := 99) (by decide) (W (env1 t y (t (240 + y)) (t (320 + y))) 105)
    have iff := cPw31_iff ok hB hy
    refine hx_dn (hr31_135_5 (fun c => absurd c (by omega)) (fun _ c => ?_) (fun _ c => ?_))
    · obtain ⟨c1, c2⟩ := iff.mp c
      rw [Int.toNat_natCast, sB31_own hB y hy, sB31_lent hB y hy]
      refine cAm1 (.inr rfl) (by decide) (lawR_c (cDf_L31 hf) hL) ok hB hy (by omega) (fun m1 f1 => ?_)
      have hB1 := cLf_b (.inr rfl) f1 hB
      have hf1 := cDf_t hf (cDf_f f1)
      have e99 : lHi 105 = 99 := rfl
      rw [e99]
      have ev : (if gx_w (m1 41 y + lClip 99 (W (env1 t y (t (240 + y)) (t (320 + y))) 105)) < 99999 then gx_w (m1 41 y + lClip 99 (W (env1 t y (t (240 + y)) (t (320 + y))) 105)) else 99999) = gV W t y := by
        rw [sB31_due hB1 y hy, gx_w_id (by omega) (by omega)]
        rfl
      unfold gS gF at ih
      have cc : t (440 + y) = 1 ∧ 0 ≤ t (280 + y) := ⟨c1, c2⟩
      rw [if_pos cc, if_pos cc] at ih
      refine hx_dn (hr31_135_51 ?_)
      rw [Int.toNat_natCast, ev]
      have hB2 := sU_due (b := 31) (v := gV W t y) hy hB1
      have hf2 : cDf 31 m0 (gx_u m1 41 y (gV W t y)) := cDf_t hf1 (cDf_b (bFr_u (by decide)))
      have hB2 : sBk 31 (su t (360 + y) (gV W t y)) (gx_u m1 41 y (gV W t y)) := hB2
      have e15 : gx_u m1 41 y (gV W t y) 41 y = gV W t y := gx_u_self
      generalize gx_u m1 41 y (gV W t y) = M at hB2 hf2 e15 ⊢
      refine hx_dn (hr31_135_75 (fun d => ?_) (fun d1 d2 => ?_) (fun d1 d2 => ?_))
      · have cn : ¬ (0 < t (320 + y) ∧ 2 * t (320 + y) ≤ gV W t y) := by omega
        rw [if_neg cn, if_neg cn, Int.add_zero] at ih
        rw [ew_u (by omega)]
        exact ih _ hB2 hf2
      · rw [Int.toNat_natCast, e15, gx_w_id (by omega) (by omega)] at d2
        have cn : ¬ (0 < t (320 + y) ∧ 2 * t (320 + y) ≤ gV W t y) := by omega
        rw [if_neg cn, if_neg cn, Int.add_zero] at ih
        rw [ew_u (by omega)]
        exact ih _ hB2 hf2
      · rw [Int.toNat_natCast, e15, gx_w_id (by omega) (by omega)] at d2
        have cy : 0 < t (320 + y) ∧ 2 * t (320 + y) ≤ gV W t y := ⟨d1, d2⟩
        rw [if_pos cy, if_pos cy] at ih
        have ht2 : su t (360 + y) (gV W t y) (440 + y) = 1 := by rw [su_ne (by omega)]; exact c1
        have eh : su t (360 + y) (gV W t y) (280 + y) = t (280 + y) := su_ne (by omega)
        rw [Int.toNat_natCast, sB31_hold hB2 y hy ht2, eh]
        refine cd31_16 (s := su t (360 + y) (gV W t y)) hy (by rw [su_ne (by omega)]; exact ok.many y hy) hB2 ht2 (fun m2 h2 f2 => ?_)
        refine hx_dn (hr31_135_107 ?_)
        rw [ew_u (by omega), gx_w_id (by omega) (by omega)]
        exact ih m2 h2 (cDf_t hf2 (cDf_b f2))
    · rw [ew_u (by omega)]
      unfold gS gF at ih
      have cn : ¬ (t (440 + y) = 1 ∧ 0 ≤ t (280 + y)) := fun q => c (iff.mpr q)
      rw [if_neg cn, if_neg cn, Int.add_zero] at ih
      exact ih m hB hf
theorem c31_136 (hL : lawR xs W m0) (hs : sOK s) (hB : sBk 31 s m) (hf : cDf 31 m0 m) (h : ∀ m', sBk 31 (fL W s 8) m' → cDf 31 m0 m' → Q none m') : hxn xs n yp_m136 0 [(0, .inr (.inl 69)), (1, .inr (.inl 31)), (2, .inr (.inl 44))] [] m Q := by
  have hl := hloop (N := 8) (P := fun p => ∀ m : gx_M, sBk 31 (fL W s p) m → cDf 31 m0 m → hxn xs n yp_m136 2 [(1, .inr (.inl 31)), (2, .inr (.inl 44)), (3, .inl (p : Int))] [] m Q) (fun m hB hf => hx_dn (hr31_136_2 (fun _ => h m hB hf) (fun c => absurd c (by decide)) (fun c => absurd c (by decide)))) (fun p hp ih => ?_) 0 (Nat.zero_le _)
  · exact hx_pick [1, 2] (hx_dn (hr31_136_0 (hl m hB hf)))
  · intro m hB hf
    have ok := fL_ok (W := W) hs p (by omega)
    have ih : ∀ m, sBk 31 (fS W (fL W s p) p) m → cDf 31 m0 m → hxn xs n yp_m136 2 [(1, .inr (.inl 31)), (2, .inr (.inl 44)), (3, .inl ((p + 1 : Nat) : Int))] [] m Q := ih
    generalize fL W s p = t at ok ih hB
    have hx := fX_ok ok
    have hlot := ok.2.2.2.2
    have lb := lcg_b (t 1130)
    unfold fS at ih
    refine hx_dn (hr31_136_2 (fun c => absurd c (by omega)) (fun _ c => ?_) (fun _ c => ?_))
    · have cp := (aPb (by omega)).mp ((cP_iff hB).mp c)
      rw [if_pos cp] at ih
      rw [sB31_lot hB, lcg_c hlot, t10 lb.1]
      have hB1 : sBk 31 (fX t) (gx_u m 31 4 (lcg (t 1130))) := sU_lot (b := 31) hB
      have hf1 : cDf 31 m0 (gx_u m 31 4 (lcg (t 1130))) := cDf_t hf (cDf_b (bFr_u (by decide)))
      refine cAm0 (.inr rfl) (by decide) (lawR_c (cDf_L31 hf1) hL) hx hB1 (by omega) (fun m1 f1 => ?_)
      have hB2 := cLf_b (.inr rfl) f1 hB1
      have hf2 := cDf_t hf1 (cDf_f f1)
      have e10 : lHi 102 = 10 := rfl
      rw [e10]
      refine hx_dn (hr31_136_55 (fun d => ?_) (fun d => ?_))
      · rw [if_neg (by omega)] at ih
        rw [ew_u (by omega)]
        exact ih m1 hB2 hf2
      · rw [if_pos d] at ih
        refine cAm0 (.inr rfl) (by decide) (lawR_c (cDf_L31 hf2) hL) hx hB2 (by omega) (fun m2 f2 => ?_)
        have hB3 := cLf_b (.inr rfl) f2 hB2
        have hf3 := cDf_t hf2 (cDf_f f2)
        have e999 : lHi 103 = 999 := rfl
        rw [e999]
        have hb := lClip_b (high := 999) (by decide) (W (env0 (fX t) (p : Int)) 103)
        refine hx_dn (hr31_136_70 ?_)
        refine cd31_69 (s := fX t) ((aPers_su (by decide)).mpr ((cP_iff hB).mp c)) (hx.coin p hp) (by omega) hB3 (fun m3 h3 f3 => ?_)
        have et : fX t (1120 + p) = t (1120 + p) := su_ne (by omega)
        rw [et] at h3
        refine hx_dn (hr31_136_73 ?_)
        rw [ew_u (by omega)]
        exact ih m3 h3 (cDf_t hf3 (cDf_b f3))
    · have cp : ¬ gx_and (gx_shr (t 1128) (p : Int)) 1 = 1 := fun q => c ((cP_iff hB).mpr ((aPb hp).mpr q))
      rw [if_neg cp] at ih
      rw [ew_u (by omega)]
      exact ih m hB hf
theorem c31_134 {N : Nat} (hN : N ≤ 100) (hL : lawR xs W m) (hs : sOK s) (hB : sBk 31 s m) (h : ∀ m', sBk 31 (dN W s N).1 m' → cDf 31 m m' → Q (some (.inl (dN W s N).2)) m') : hxn xs n yp_m134 0 [(0, .inr (.inl 69)), (1, .inr (.inl 31)), (2, .inr (.inl 44)), (3, .inl (N : Int))] [] m Q := by
  have hl := hloop (N := N) (P := fun k => ∀ m1 : gx_M, sBk 31 (dN W s k).1 m1 → cDf 31 m m1 → hxn xs n yp_m134 6 [(0, .inr (.inl 69)), (1, .inr (.inl 31)), (2, .inr (.inl 44)), (3, .inl (N : Int)), (4, .inl (dN W s k).2), (5, .inl (k : Int))] [] m1 Q) (fun m1 hB hf => hx_dn (hr31_134_6 (fun _ => h m1 hB hf) (fun c => absurd c (by omega)))) (fun k hk ih => ?_) 0 (Nat.zero_le _)
  · exact hx_dn (hr31_134_0 (hl m hB (fun _ _ _ _ _ => rfl)))
  · intro m1 hB hf
    obtain ⟨ok, g1, g2⟩ := dN_ok (W := W) hs k (by omega)
    have ih : ∀ m1, sBk 31 (dS W (dN W s k).1) m1 → cDf 31 m m1 → hxn xs n yp_m134 6 [(0, .inr (.inl 69)), (1, .inr (.inl 31)), (2, .inr (.inl 44)), (3, .inl (N : Int)), (4, .inl ((dN W s k).2 + (gL W (dN W s k).1 40).2)), (5, .inl ((k + 1 : Nat) : Int))] [] m1 Q := ih
    generalize (dN W s k).1 = t at ok ih hB
    generalize (dN W s k).2 = f at g1 g2 ih
    obtain ⟨ok2, j2, j3⟩ := gL_ok (W := W) ok 40 (Nat.le_refl _)
    refine hx_dn (hr31_134_6 (fun c => absurd c (by omega)) (fun _ => ?_))
    refine c31_135 hL ok hB hf (fun m2 h2 f2 => ?_)
    refine hx_dn (hr31_134_20 ?_)
    rw [gx_w_id (by omega) (by omega)]
    refine c31_136 hL ok2 h2 f2 (fun m3 h3 f3 => ?_)
    refine hx_dn (hr31_134_29 ?_)
    rw [ew_u (by omega), sB31_day h3]
    exact ih _ (sU_day (b := 31) h3) (cDf_t f3 (cDf_b (bFr_u (by decide))))
end DY31
/-! the reference -/
section DYR
variable {xs : List Int32} {n : Nat} {Q : hQ} {m m0 : gx_M} {W : (Int → Int) → Int → Option Int}
def rGf (m m' : gx_M) : Prop := (∀ c, c ≠ 86 → c ≠ 87 → c ≠ 102 → c ≠ 103 → m' c = m c) ∧ ∀ k, k ≠ 45 → m' 86 k = m 86 k
theorem rGf_r : rGf m m := ⟨fun _ _ _ _ _ => rfl, fun _ _ => rfl⟩
theorem rGf_t {m m1 m2 : gx_M} (h : rGf m m1) (h' : rGf m1 m2) : rGf m m2 := ⟨fun c a b d e => (h'.1 c a b d e).trans (h.1 c a b d e), fun k a => (h'.2 k a).trans (h.2 k a)⟩
theorem rGf_d {m m' : gx_M} (h : rDf m m') : rGf m m' := ⟨fun c _ b d e => h c b d e, fun k _ => congrFun (h 86 (by decide) (by decide) (by decide)) k⟩
theorem rGf_L {m m' : gx_M} (h : rGf m m') : hAg hPL m m' := by
  intro q hq k h1 h2
  simp only [hPL, List.mem_cons, List.not_mem_nil, or_false] at hq
  rcases hq with rfl | rfl | rfl | rfl | rfl | rfl | rfl | rfl | rfl | rfl | rfl | rfl | rfl <;> first | exact congrFun (h.1 _ (by decide) (by decide) (by decide) (by decide)) k | exact h.2 k (by dsimp only at h1 h2; omega)
theorem aPw_iff {s : Nat → Int} {Y : Nat} (hY : Y < 40) : aPw s (Y : Int) ↔ 0 ≤ s (280 + Y) := by
  unfold aPw
  rw [w280 hY]
theorem r260 {y : Nat} (hL : lawR xs W m) (hs : sOK (m 87)) (hy : y < 40) (ht : m 87 (440 + y) = 1) (hh : 0 ≤ m 87 (280 + y)) (hc : 0 ≤ m 86 45 ∧ m 86 45 ≤ 100000) (h : ∀ m', m' 87 = gS W (m 87) y → m' 86 45 = m 86 45 + gF W (m 87) y → rGf m m' → Q none m') : hxn xs n yp_m260 0 [(0, .inr (.inl 86)), (1, .inl (y : Int))] [] m Q := by
  have ho := hs.own y hy
  have hd := hs.due y hy
  have hle := hs.lent y hy
  have hb := lClip_b (high := 99) (by decide) (W (env1 (m 87) y (m 87 (240 + y)) (m 87 (320 + y))) 105)
  have hv := gV_b (W := W) hs hy
  have hho := hs.hold y hy
  unfold gS gF at h
  have cc : m 87 (440 + y) = 1 ∧ 0 ≤ m 87 (280 + y) := ⟨ht, hh⟩
  rw [if_pos cc, if_pos cc] at h
  refine hx_dn (hr260_0 ?_)
  rw [w240 hy, w320 hy]
  refine hs202 hy (by omega) hs.there hs.skl hs.met (fun m1 g1 g2 => ?_)
  have f1 : rLf m m1 := fun c _ h2 => g1 c h2
  refine hx_dn (hr260_25 ?_)
  refine rBy (by decide) (by decide) (lawR_c (rLf_L f1) hL) (rEnv1 g2) (fun m2 h2 => ?_)
  have e87 : m1 87 = m 87 := g1 87 (by decide)
  have e87' : m2 87 = m 87 := (h2 87 (by decide)).trans e87
  have f2 : rDf m m2 := fun c _ b d => (h2 c b).trans (g1 c d)
  have e86 : m2 86 = m 86 := f2 86 (by decide) (by decide) (by decide)
  refine hx_dn (hr260_54 ?_)
  rw [e87, w360 hy, gx_w_id (x := m 87 (360 + y) + _) (by omega) (by omega)]
  have fin : hxn xs n yp_m260 58 [(0, .inr (.inl 86)), (1, .inl (y : Int))] [.inl (gV W (m 87) y), .inl (gx_w (360 + (y : Int))), .inr (.inl 87)] m2 Q := by
    have ex : gx_u m2 87 (360 + y) (gV W (m 87) y) 87 = su (m 87) (360 + y) (gV W (m 87) y) := by
      rw [gx_su, e87']
    have l1 : gx_u m2 87 (360 + y) (gV W (m 87) y) 87 (320 + y) = m 87 (320 + y) := by
      rw [gx_u_ne (by omega), e87']
    have l2 : gx_u m2 87 (360 + y) (gV W (m 87) y) 87 (360 + y) = gV W (m 87) y := gx_u_self
    have l3 : gx_u m2 87 (360 + y) (gV W (m 87) y) 87 (280 + y) = m 87 (280 + y) := by
      rw [gx_u_ne (by omega), e87']
    have l4 : gx_u m2 87 (360 + y) (gV W (m 87) y) 86 45 = m 86 45 := by
      rw [gx_u_ne (by omega), e86]
    have fM : rDf m (gx_u m2 87 (360 + y) (gV W (m 87) y)) := rDf_t f2 rDf_u
    refine hx_dn (hr260_58 (fun c => ?_) (fun c1 c2 => ?_) (fun c1 c2 => ?_))
    · rw [w360 hy, w320 hy, l1] at c
      have cn : ¬ (0 < m 87 (320 + y) ∧ 2 * m 87 (320 + y) ≤ gV W (m 87) y) := by omega
      rw [if_neg cn, if_neg cn, Int.add_zero] at h
      rw [w360 hy]
      exact h _ ex l4 (rGf_d fM)
    · rw [w360 hy, w320 hy, l1] at c1
      rw [w360 hy, w320 hy, l1, l2, gx_w_id (by omega) (by omega)] at c2
      have cy : 0 < m 87 (320 + y) ∧ 2 * m 87 (320 + y) ≤ gV W (m 87) y := ⟨by omega, c2⟩
      rw [if_pos cy, if_pos cy] at h
      rw [w360 hy, w280 hy, l3]
      refine r210 hy (by rw [ex, su_ne (by omega)]; exact hs.many y hy) (fun m3 h3 f3 => ?_)
      rw [ex] at h3
      have e45 : m3 86 45 = m 86 45 := by rw [f3 86 (by decide) (by decide) (by decide)]; exact l4
      refine hx_dn (hr260_113 ?_)
      refine h _ ?_ ?_ (rGf_t (rGf_t (rGf_d fM) (rGf_d f3)) ⟨fun c a _ _ _ => gx_u_off a, fun k a => gx_u_ne (by omega)⟩)
      · rw [gx_u_off (by decide)]
        exact h3
      · rw [gx_u_self, e45, gx_w_id (by omega) (by omega)]
    · rw [w360 hy, w320 hy, l1] at c1
      rw [w360 hy, w320 hy, l1, l2, gx_w_id (by omega) (by omega)] at c2
      have cn : ¬ (0 < m 87 (320 + y) ∧ 2 * m 87 (320 + y) ≤ gV W (m 87) y) := by omega
      rw [if_neg cn, if_neg cn, Int.add_zero] at h
      rw [w360 hy]
      exact h _ ex l4 (rGf_d fM)
  unfold gV cl99 at fin
  refine hx_dn (hr199_0 (fun c => ?_) (fun c => ?_))
  · by_cases e : m 87 (360 + y) + lClip 99 (W (env1 (m 87) y (m 87 (240 + y)) (m 87 (320 + y))) 105) < 99999
    · rw [if_pos e] at fin
      exact fin
    · rw [if_neg e] at fin
      have e2 : m 87 (360 + y) + lClip 99 (W (env1 (m 87) y (m 87 (240 + y)) (m 87 (320 + y))) 105) = 99999 := by omega
      rw [e2]
      exact fin
  · rw [if_neg (by omega)] at fin
    exact fin
theorem r259 (hL : lawR xs W m) (hs : sOK (m 87)) (hc : 0 ≤ m 86 45 ∧ m 86 45 ≤ 99000) (h : ∀ m', m' 87 = dS W (m 87) → m' 86 45 = m 86 45 + (gL W (m 87) 40).2 → rGf m m' → Q none m') : hxn xs n yp_m259 0 [(0, .inr (.inl 86))] [] m Q := by
  obtain ⟨ok40, -, -⟩ := gL_ok (W := W) hs 40 (Nat.le_refl _)
  have hl2 := hloop (N := 8) (P := fun p => ∀ m1 : gx_M, m1 87 = fL W (gL W (m 87) 40).1 p → m1 86 45 = m 86 45 + (gL W (m 87) 40).2 → rGf m m1 → hxn xs n yp_m259 37 [(0, .inr (.inl 86)), (1, .inl (p : Int))] [] m1 Q) (fun m1 e1 e2 f1 => hx_dn (hr259_37 (fun _ => h _ (by rw [gx_su, e1]; rfl) (by rw [gx_u_ne (by decide)]; exact e2) (rGf_t f1 (rGf_d rDf_u))) (fun c => absurd c (by decide)) (fun c => absurd c (by decide)))) (fun p hp ih => ?_) 0 (Nat.zero_le _)
  · have hl := hloop (N := 40) (P := fun y => ∀ m1 : gx_M, m1 87 = (gL W (m 87) y).1 → m1 86 45 = m 86 45 + (gL W (m 87) y).2 → rGf m m1 → hxn xs n yp_m259 2 [(0, .inr (.inl 86)), (1, .inl (y : Int))] [] m1 Q) (fun m1 e1 e2 f1 => hx_dn (hr259_2 (fun _ => hl2 m1 e1 e2 f1) (fun c => absurd c (by decide)) (fun c => absurd c (by decide)) (fun c => absurd c (by decide)))) (fun y hy ih => ?_) 0 (Nat.zero_le _)
    · exact hx_dn (hr259_0 (hl m rfl (Int.add_zero _).symm rGf_r))
    · intro m1 e1 e2 f1
      obtain ⟨ok, g1, g2⟩ := gL_ok (W := W) hs y (by omega)
      have ih : ∀ m1 : gx_M, m1 87 = gS W (gL W (m 87) y).1 y → m1 86 45 = m 86 45 + ((gL W (m 87) y).2 + gF W (gL W (m 87) y).1 y) → rGf m m1 → hxn xs n yp_m259 2 [(0, .inr (.inl 86)), (1, .inl ((y + 1 : Nat) : Int))] [] m1 Q := ih
      generalize (gL W (m 87) y).1 = t at ok ih e1
      generalize (gL W (m 87) y).2 = f at g1 g2 ih e2
      have no : ¬ (t (440 + y) = 1 ∧ 0 ≤ t (280 + y)) → hxn xs n yp_m259 2 [(0, .inr (.inl 86)), (1, .inl (gx_w ((y : Int) + 1)))] [] m1 Q := fun c => by
        rw [ew_u (by omega)]
        unfold gS gF at ih
        rw [if_neg c, if_neg c, Int.add_zero] at ih
        exact ih m1 e1 e2 f1
      refine hx_dn (hr259_2 (fun c => absurd c (by omega)) (fun _ c1 c2 => ?_) (fun _ _ c => no ?_) (fun _ c => no ?_))
      · have c1 := (aYr_iff hy).mp c1
        have c2 := (aPw_iff hy).mp c2
        refine r260 (lawR_c (rGf_L f1) hL) (by rw [e1]; exact ok) hy c1 c2 (by omega) (fun m2 h1 h2 h3 => ?_)
        refine hx_dn (hr259_29 ?_)
        rw [ew_u (by omega)]
        rw [e1] at h1 h2
        exact ih m2 h1 (by rw [h2, e2]; omega) (rGf_t f1 h3)
      · rw [e1] at c
        exact fun q => c ((aPw_iff hy).mpr q.2)
      · rw [e1] at c
        exact fun q => c ((aYr_iff hy).mpr q.1)
  · intro m1 e1 e2 f1
    have ok := fL_ok (W := W) ok40 p (by omega)
    have ih : ∀ m1 : gx_M, m1 87 = fS W (fL W (gL W (m 87) 40).1 p) p → m1 86 45 = m 86 45 + (gL W (m 87) 40).2 → rGf m m1 → hxn xs n yp_m259 37 [(0, .inr (.inl 86)), (1, .inl ((p + 1 : Nat) : Int))] [] m1 Q := ih
    generalize fL W (gL W (m 87) 40).1 p = t at ok ih e1
    have hx := fX_ok ok
    have lb := lcg_b (t 1130)
    unfold fS at ih
    refine hx_dn (hr259_37 (fun c => absurd c (by omega)) (fun _ c => ?_) (fun _ c => ?_))
    · rw [e1] at c
      have cp := (aPb (by omega)).mp c
      rw [if_pos cp] at ih
      rw [e1, lcg_r ok.2.2.2.2]
      have ex : gx_u m1 87 1130 (lcg (t 1130)) 87 = fX t := by rw [gx_su, e1]; rfl
      refine hs203z (by omega) (by rw [ex]; exact hx.there) (fun m2 g1 g2 => ?_)
      have e87 : m2 87 = fX t := (g1 87 (by decide)).trans ex
      rw [ex] at g2
      have f2 : rDf m1 m2 := rDf_t rDf_u (fun c _ _ d => g1 c d)
      have hE := rEnv0 g2
      refine hx_dn (hr259_87 ?_)
      have hL2 : lawR xs W m2 := lawR_c (rDf_L f2) (lawR_c (rGf_L f1) hL)
      refine rBy (by decide) (by decide) hL2 hE (fun m3 h3 => ?_)
      have e87' : m3 87 = fX t := (h3 87 (by decide)).trans e87
      have f3 : rDf m1 m3 := rDf_t f2 (fun c _ b _ => h3 c b)
      have elot : m2 87 1130 = lcg (t 1130) := by rw [e87]; exact su_self
      rw [elot, t10 lb.1]
      refine hx_dn (hr259_106 (fun d => ?_) (fun d => ?_))
      · rw [if_neg (by omega)] at ih
        rw [ew_u (by omega)]
        exact ih m3 e87' (by rw [f3 86 (by decide) (by decide) (by decide)]; exact e2) (rGf_t f1 (rGf_d f3))
      · rw [if_pos d] at ih
        refine rBy (env := env0 (fX t) (p : Int)) (by decide) (by decide) (lawR_c (rDf_L (fun c _ b _ => h3 c b)) hL2) (fun c hc => by rw [h3 103 (by decide)]; exact hE c hc) (fun m4 h4 => ?_)
        have e87'' : m4 87 = fX t := (h4 87 (by decide)).trans e87'
        have f4 : rDf m1 m4 := rDf_t f3 (fun c _ b _ => h4 c b)
        have hb := lClip_b (high := 999) (by decide) (W (env0 (fX t) (p : Int)) 103)
        have et : fX t (1120 + p) = t (1120 + p) := su_ne (by omega)
        refine hx_dn (hr259_129 ?_)
        refine r198 hp (by rw [e87'']; exact hx.coin p hp) (by omega) ?_
        rw [e87'', et]
        refine hx_dn (hr259_132 ?_)
        rw [w1120 hp, ew_u (by omega)]
        refine ih _ (by rw [gx_su, e87'']) ?_ (rGf_t f1 (rGf_d (rDf_t f4 rDf_u)))
        rw [gx_u_ne (by omega), f4 86 (by decide) (by decide) (by decide)]
        exact e2
    · rw [e1] at c
      rw [if_neg (fun q => c ((aPb hp).mpr q))] at ih
      rw [ew_u (by omega)]
      exact ih m1 e1 e2 f1
theorem r258 {N : Nat} (hN : N ≤ 100) (hL : lawR xs W m) (hs : sOK (m 87)) (h : ∀ m', m' 87 = (dN W (m 87) N).1 → m' 86 45 = (dN W (m 87) N).2 → rGf m m' → Q none m') : hxn xs n yp_m258 0 [(0, .inr (.inl 86)), (1, .inl (N : Int))] [] m Q := by
  have hl := hloop (N := N) (P := fun k => ∀ m1 : gx_M, m1 87 = (dN W (m 87) k).1 → m1 86 45 = (dN W (m 87) k).2 → rGf m m1 → hxn xs n yp_m258 7 [(0, .inr (.inl 86)), (1, .inl (N : Int)), (2, .inl (k : Int))] [] m1 Q) (fun m1 e1 e2 f1 => hx_dn (hr258_7 (fun _ => h m1 e1 e2 f1) (fun c => absurd c (by omega)))) (fun k hk ih => ?_) 0 (Nat.zero_le _)
  · refine hx_dn (hr258_0 (hl _ ?_ gx_u_self ⟨fun c a _ _ _ => gx_u_off a, fun k a => gx_u_ne (by omega)⟩))
    rw [gx_u_off (by decide)]
    rfl
  · intro m1 e1 e2 f1
    obtain ⟨ok, g1, g2⟩ := dN_ok (W := W) hs k (by omega)
    refine hx_dn (hr258_7 (fun c => absurd c (by omega)) (fun _ => ?_))
    refine r259 (lawR_c (rGf_L f1) hL) (by rw [e1]; exact ok) (by omega) (fun m2 h1 h2 h3 => ?_)
    refine hx_dn (hr258_16 ?_)
    rw [ew_u (by omega)]
    rw [e1] at h1 h2
    exact ih m2 h1 (by rw [h2, e2]; rfl) (rGf_t f1 h3)
end DYR
end
