/-! days as the class has them go by: roads -/
def cPwd (b c : Nat) (m : gx_M) (y : Int) : Prop := cYear b m y ∧ m c y.toNat ≠ -2
/-- isPawned from 0 on -/
theorem hs79_5 {xs : List Int32} {n : Nat} {Q : hQ} {m : gx_M} {x1 : Int}
    (h1 : cPwd 5 13 m x1 → Q (some (.inl 1)) m) (h0 : ¬ (cPwd 5 13 m x1) → Q (some (.inl 0)) m) : hxn xs n yp_m79 0 [(0, .inr (.inl 5)), (1, .inl x1)] [] m Q := by
  refine hx_dn ?_
  refine hx_blks (npc := 2) (L' := [(0, .inr (.inl 5)), (1, .inl x1)]) (st' := [.inl x1, .inr (.inl 5)]) (m' := m) ((0, .aload_n 0, 1, 0, 0, 0, 0), (0, 0, 0)) [((1, .iload_n 1, 1, 0, 0, 0, 0), (0, 0, 0))] (by decide +kernel) rfl ?_
  refine hx_call (E := (2, .invokevirtual 71, 3, 17, 0, 2188, 0)) (M' := yp_m17) [.inr (.inl 5), .inl x1] [] rfl (by decide +kernel) rfl ⟨rfl, rfl⟩ rfl rfl (hs17_5 (fun c1 => ?_) (fun c1 => ?_))
  · have c1 : cYear 5 m x1 := c1
    show hxn xs n yp_m79 5 [(0, .inr (.inl 5)), (1, .inl x1)] [.inl 1] m Q
    refine hx_if .eq 23 (by decide +kernel) (fun c2 => ?_) (fun c2 => ?_)
    · have c2 : (1 : Int) = 0 := c2
      exfalso; omega
    · have c2 : (1 : Int) ≠ 0 := c2
      refine hx_blk (npc := 16) (L' := [(0, .inr (.inl 5)), (1, .inl x1)]) (st' := [.inl (-2), .inl (m 13 (x1).toNat)]) (m' := m) [((8, .aload_n 0, 1, 0, 0, 0, 0), (0, 0, 0)), ((9, .getfield 37, 3, 2, 12, 1119, 0), (1, 5, 13)), ((12, .iload_n 1, 1, 0, 0, 0, 0), (0, 0, 0)), ((13, .iaload, 1, 0, 0, 0, 0), (0, 13, 0)), ((14, .bipush (-2), 2, 0, 0, 0, 0), (0, 0, 0))] (by decide +kernel) rfl ?_
      refine hx_cmp .eq 23 (by decide +kernel) (fun c2 => ?_) (fun c2 => ?_)
      · have c2 : (m 13 (x1).toNat) = (-2) := c2
        refine hx_blk (npc := 24) (L' := [(0, .inr (.inl 5)), (1, .inl x1)]) (st' := [.inl 0]) (m' := m) [((23, .iconst 0, 1, 0, 0, 0, 0), (0, 0, 0))] (by decide +kernel) rfl ?_
        exact hx_reti (by decide +kernel) (h0 (by unfold cPwd; intro q; first | exact absurd q.1 (by assumption) | exact q.2 (by omega)))
      · have c2 : (m 13 (x1).toNat) ≠ (-2) := c2
        refine hx_blk (npc := 24) (L' := [(0, .inr (.inl 5)), (1, .inl x1)]) (st' := [.inl 1]) (m' := m) [((19, .iconst 1, 1, 0, 0, 0, 0), (0, 0, 0)), ((20, .goto 4, 3, 0, 0, 0, 0), (0, 0, 0))] (by decide +kernel) rfl ?_
        exact hx_reti (by decide +kernel) (h1 (by unfold cPwd; exact ⟨by assumption, by omega⟩))
  · have c1 : ¬ (cYear 5 m x1) := c1
    show hxn xs n yp_m79 5 [(0, .inr (.inl 5)), (1, .inl x1)] [.inl 0] m Q
    refine hx_if .eq 23 (by decide +kernel) (fun c2 => ?_) (fun c2 => ?_)
    · have c2 : (0 : Int) = 0 := c2
      refine hx_blk (npc := 24) (L' := [(0, .inr (.inl 5)), (1, .inl x1)]) (st' := [.inl 0]) (m' := m) [((23, .iconst 0, 1, 0, 0, 0, 0), (0, 0, 0))] (by decide +kernel) rfl ?_
      exact hx_reti (by decide +kernel) (h0 (by unfold cPwd; intro q; first | exact absurd q.1 (by assumption) | exact q.2 (by omega)))
    · have c2 : (0 : Int) ≠ 0 := c2
      exfalso; omega

/-- isPawned from 0 on -/
theorem hs79_31 {xs : List Int32} {n : Nat} {Q : hQ} {m : gx_M} {x1 : Int}
    (h1 : cPwd 31 39 m x1 → Q (some (.inl 1)) m) (h0 : ¬ (cPwd 31 39 m x1) → Q (some (.inl 0)) m) : hxn xs n yp_m79 0 [(0, .inr (.inl 31)), (1, .inl x1)] [] m Q := by
  refine hx_dn ?_
  refine hx_blks (npc := 2) (L' := [(0, .inr (.inl 31)), (1, .inl x1)]) (st' := [.inl x1, .inr (.inl 31)]) (m' := m) ((0, .aload_n 0, 1, 0, 0, 0, 0), (0, 0, 0)) [((1, .iload_n 1, 1, 0, 0, 0, 0), (0, 0, 0))] (by decide +kernel) rfl ?_
  refine hx_call (E := (2, .invokevirtual 71, 3, 17, 0, 2188, 0)) (M' := yp_m17) [.inr (.inl 31), .inl x1] [] rfl (by decide +kernel) rfl ⟨rfl, rfl⟩ rfl rfl (hs17_31 (fun c1 => ?_) (fun c1 => ?_))
  · have c1 : cYear 31 m x1 := c1
    show hxn xs n yp_m79 5 [(0, .inr (.inl 31)), (1, .inl x1)] [.inl 1] m Q
    refine hx_if .eq 23 (by decide +kernel) (fun c2 => ?_) (fun c2 => ?_)
    · have c2 : (1 : Int) = 0 := c2
      exfalso; omega
    · have c2 : (1 : Int) ≠ 0 := c2
      refine hx_blk (npc := 16) (L' := [(0, .inr (.inl 31)), (1, .inl x1)]) (st' := [.inl (-2), .inl (m 39 (x1).toNat)]) (m' := m) [((8, .aload_n 0, 1, 0, 0, 0, 0), (0, 0, 0)), ((9, .getfield 37, 3, 2, 12, 1119, 0), (1, 31, 39)), ((12, .iload_n 1, 1, 0, 0, 0, 0), (0, 0, 0)), ((13, .iaload, 1, 0, 0, 0, 0), (0, 39, 0)), ((14, .bipush (-2), 2, 0, 0, 0, 0), (0, 0, 0))] (by decide +kernel) rfl ?_
      refine hx_cmp .eq 23 (by decide +kernel) (fun c2 => ?_) (fun c2 => ?_)
      · have c2 : (m 39 (x1).toNat) = (-2) := c2
        refine hx_blk (npc := 24) (L' := [(0, .inr (.inl 31)), (1, .inl x1)]) (st' := [.inl 0]) (m' := m) [((23, .iconst 0, 1, 0, 0, 0, 0), (0, 0, 0))] (by decide +kernel) rfl ?_
        exact hx_reti (by decide +kernel) (h0 (by unfold cPwd; intro q; first | exact absurd q.1 (by assumption) | exact q.2 (by omega)))
      · have c2 : (m 39 (x1).toNat) ≠ (-2) := c2
        refine hx_blk (npc := 24) (L' := [(0, .inr (.inl 31)), (1, .inl x1)]) (st' := [.inl 1]) (m' := m) [((19, .iconst 1, 1, 0, 0, 0, 0), (0, 0, 0)), ((20, .goto 4, 3, 0, 0, 0, 0), (0, 0, 0))] (by decide +kernel) rfl ?_
        exact hx_reti (by decide +kernel) (h1 (by unfold cPwd; exact ⟨by assumption, by omega⟩))
  · have c1 : ¬ (cYear 31 m x1) := c1
    show hxn xs n yp_m79 5 [(0, .inr (.inl 31)), (1, .inl x1)] [.inl 0] m Q
    refine hx_if .eq 23 (by decide +kernel) (fun c2 => ?_) (fun c2 => ?_)
    · have c2 : (0 : Int) = 0 := c2
      refine hx_blk (npc := 24) (L' := [(0, .inr (.inl 31)), (1, .inl x1)]) (st' := [.inl 0]) (m' := m) [((23, .iconst 0, 1, 0, 0, 0, 0), (0, 0, 0))] (by decide +kernel) rfl ?_
      exact hx_reti (by decide +kernel) (h0 (by unfold cPwd; intro q; first | exact absurd q.1 (by assumption) | exact q.2 (by omega)))
    · have c2 : (0 : Int) ≠ 0 := c2
      exfalso; omega

/-- growPawns from 0 on -/
theorem hr135_0 {xs : List Int32} {n : Nat} {Q : hQ} {m : gx_M}
    (h1 : hxn xs n yp_m135 5 [(1, .inr (.inl 5)), (2, .inr (.inl 44)), (3, .inl 0), (4, .inl 0)] [] m Q) : hxn xs (n + 1) yp_m135 0 [(1, .inr (.inl 5)), (2, .inr (.inl 44))] [] m Q := by
  refine hx_blks (npc := 5) (L' := [(1, .inr (.inl 5)), (2, .inr (.inl 44)), (3, .inl 0), (4, .inl 0)]) (st' := []) (m' := m) ((0, .iconst 0, 1, 0, 0, 0, 0), (0, 0, 0)) [((1, .istore_n 3, 1, 0, 0, 0, 0), (0, 0, 0)), ((2, .iconst 0, 1, 0, 0, 0, 0), (0, 0, 0)), ((3, .istore 4, 2, 0, 0, 0, 0), (0, 0, 0))] (by decide +kernel) rfl ?_
  exact hx_pick [1, 2, 3, 4] h1

/-- growPawns from 5 on -/
theorem hr135_5 {xs : List Int32} {n : Nat} {Q : hQ} {m : gx_M} {x3 x4 : Int}
    (h1 : (40 ≤ x4) → Q (some (.inl x3)) m)
    (h2 : (x4 < 40) → (cPwd 5 13 m x4) → hxn xs n yp_m82 0 [(0, .inr (.inl 44)), (1, .inr (.inl 5)), (2, .inl 105), (3, .inl x4), (4, .inl (m 12 (x4).toNat)), (5, .inl (m 14 (x4).toNat))] [] m (fun r m' => hxn xs n yp_m135 51 [(1, .inr (.inl 5)), (2, .inr (.inl 44)), (3, .inl x3), (4, .inl x4), (5, .inl (m 14 (x4).toNat))] (hrs r ++ []) m' Q))
    (h3 : (x4 < 40) → (¬ (cPwd 5 13 m x4)) → hxn xs n yp_m135 5 [(1, .inr (.inl 5)), (2, .inr (.inl 44)), (3, .inl x3), (4, .inl (gx_w (x4 + 1)))] [] m Q) : hxn xs (n + 1) yp_m135 5 [(1, .inr (.inl 5)), (2, .inr (.inl 44)), (3, .inl x3), (4, .inl x4)] [] m Q := by
  refine hx_blks (npc := 9) (L' := [(1, .inr (.inl 5)), (2, .inr (.inl 44)), (3, .inl x3), (4, .inl x4)]) (st' := [.inl 40, .inl x4]) (m' := m) ((5, .iload 4, 2, 0, 0, 0, 0), (0, 0, 0)) [((7, .bipush 40, 2, 0, 0, 0, 0), (0, 0, 0))] (by decide +kernel) rfl ?_
  refine hx_cmp .ge 116 (by decide +kernel) (fun c1 => ?_) (fun c1 => ?_)
  · have c1 : 40 ≤ x4 := c1
    refine hx_blk (npc := 117) (L' := [(1, .inr (.inl 5)), (2, .inr (.inl 44)), (3, .inl x3), (4, .inl x4)]) (st' := [.inl x3]) (m' := m) [((116, .iload_n 3, 1, 0, 0, 0, 0), (0, 0, 0))] (by decide +kernel) rfl ?_
    exact hx_reti (by decide +kernel) (h1 c1)
  · have c1 : x4 < 40 := by have h : ¬ (40 ≤ x4) := c1; omega
    refine hx_blk (npc := 15) (L' := [(1, .inr (.inl 5)), (2, .inr (.inl 44)), (3, .inl x3), (4, .inl x4)]) (st' := [.inl x4, .inr (.inl 5)]) (m' := m) [((12, .aload_n 1, 1, 0, 0, 0, 0), (0, 0, 0)), ((13, .iload 4, 2, 0, 0, 0, 0), (0, 0, 0))] (by decide +kernel) rfl ?_
    refine hx_call (E := (15, .invokevirtual 25, 3, 79, 0, 4237, 0)) (M' := yp_m79) [.inr (.inl 5), .inl x4] [] rfl (by decide +kernel) rfl ⟨rfl, rfl⟩ rfl rfl (hs79_5 (fun c2 => ?_) (fun c2 => ?_))
    · have c2 : cPwd 5 13 m x4 := c2
      show hxn xs n yp_m135 18 [(1, .inr (.inl 5)), (2, .inr (.inl 44)), (3, .inl x3), (4, .inl x4)] [.inl 1] m Q
      refine hx_if .ne 24 (by decide +kernel) (fun c3 => ?_) (fun c3 => ?_)
      · have c3 : (1 : Int) ≠ 0 := c3
        refine hx_blk (npc := 48) (L' := [(1, .inr (.inl 5)), (2, .inr (.inl 44)), (3, .inl x3), (4, .inl x4), (5, .inl (m 14 (x4).toNat))]) (st' := [.inl (m 14 (x4).toNat), .inl (m 12 (x4).toNat), .inl x4, .inl 105, .inr (.inl 5), .inr (.inl 44)]) (m' := m) [((24, .aload_n 1, 1, 0, 0, 0, 0), (0, 0, 0)), ((25, .getfield 29, 3, 2, 13, 1125, 0), (1, 5, 14)), ((28, .iload 4, 2, 0, 0, 0, 0), (0, 0, 0)), ((30, .iaload, 1, 0, 0, 0, 0), (0, 14, 0)), ((31, .istore 5, 2, 0, 0, 0, 0), (0, 0, 0)), ((33, .aload_n 2, 1, 0, 0, 0, 0), (0, 0, 0)), ((34, .aload_n 1, 1, 0, 0, 0, 0), (0, 0, 0)), ((35, .bipush 105, 2, 0, 0, 0, 0), (0, 0, 0)), ((37, .iload 4, 2, 0, 0, 0, 0), (0, 0, 0)), ((39, .aload_n 1, 1, 0, 0, 0, 0), (0, 0, 0)), ((40, .getfield 33, 3, 2, 11, 1113, 0), (1, 5, 12)), ((43, .iload 4, 2, 0, 0, 0, 0), (0, 0, 0)), ((45, .iaload, 1, 0, 0, 0, 0), (0, 12, 0)), ((46, .iload 5, 2, 0, 0, 0, 0), (0, 0, 0))] (by decide +kernel) rfl ?_
        exact hx_call (E := (48, .invokevirtual 36, 3, 82, 0, 4238, 0)) (M' := yp_m82) [.inr (.inl 44), .inr (.inl 5), .inl 105, .inl x4, .inl (m 12 (x4).toNat), .inl (m 14 (x4).toNat)] [] rfl (by decide +kernel) rfl ⟨rfl, rfl⟩ rfl rfl (hx_mono (h2 c1 c2) (fun r m' h' => hx_pick [1, 2, 3, 4, 5] h'))
      · have c3 : (1 : Int) = 0 := by have h : ¬ ((1 : Int) ≠ 0) := c3; omega
        exfalso; omega
    · have c2 : ¬ (cPwd 5 13 m x4) := c2
      show hxn xs n yp_m135 18 [(1, .inr (.inl 5)), (2, .inr (.inl 44)), (3, .inl x3), (4, .inl x4)] [.inl 0] m Q
      refine hx_if .ne 24 (by decide +kernel) (fun c3 => ?_) (fun c3 => ?_)
      · have c3 : (0 : Int) ≠ 0 := c3
        exfalso; omega
      · have c3 : (0 : Int) = 0 := by have h : ¬ ((0 : Int) ≠ 0) := c3; omega
        refine hx_blk (npc := 5) (L' := [(1, .inr (.inl 5)), (2, .inr (.inl 44)), (3, .inl x3), (4, .inl (gx_w (x4 + 1)))]) (st' := []) (m' := m) [((21, .goto 89, 3, 0, 0, 0, 0), (0, 0, 0)), ((110, .iinc 4 1, 3, 0, 0, 0, 0), (0, 0, 0)), ((113, .goto (-108), 3, 0, 0, 0, 0), (0, 0, 0))] (by decide +kernel) rfl ?_
        exact hx_pick [1, 2, 3, 4] (h3 c1 c2)

/-- growPawns from 51 on -/
theorem hr135_51 {xs : List Int32} {n : Nat} {Q : hQ} {m : gx_M} {x3 x4 x5 s0 : Int}
    (h1 : hxn xs n yp_m135 75 [(1, .inr (.inl 5)), (2, .inr (.inl 44)), (3, .inl x3), (4, .inl x4), (5, .inl x5)] [] (gx_u m 15 (x4).toNat (if (gx_w ((m 15 (x4).toNat) + s0)) < 99999 then (gx_w ((m 15 (x4).toNat) + s0)) else 99999)) Q) : hxn xs (n + 1) yp_m135 51 [(1, .inr (.inl 5)), (2, .inr (.inl 44)), (3, .inl x3), (4, .inl x4), (5, .inl x5)] [.inl s0] m Q := by
  refine hx_blks (npc := 75) (L' := [(1, .inr (.inl 5)), (2, .inr (.inl 44)), (3, .inl x3), (4, .inl x4), (5, .inl x5), (6, .inl s0)]) (st' := []) (m' := (gx_u m 15 (x4).toNat (if (gx_w ((m 15 (x4).toNat) + s0)) < 99999 then (gx_w ((m 15 (x4).toNat) + s0)) else 99999))) ((51, .istore 6, 2, 0, 0, 0, 0), (0, 0, 0)) [((53, .aload_n 1, 1, 0, 0, 0, 0), (0, 0, 0)), ((54, .getfield 42, 3, 2, 14, 1128, 0), (1, 5, 15)), ((57, .iload 4, 2, 0, 0, 0, 0), (0, 0, 0)), ((59, .ldc 45, 2, 0, 0, 4239, 99999), (0, 0, 0)), ((61, .aload_n 1, 1, 0, 0, 0, 0), (0, 0, 0)), ((62, .getfield 42, 3, 2, 14, 1128, 0), (1, 5, 15)), ((65, .iload 4, 2, 0, 0, 0, 0), (0, 0, 0)), ((67, .iaload, 1, 0, 0, 0, 0), (0, 15, 0)), ((68, .iload 6, 2, 0, 0, 0, 0), (0, 0, 0)), ((70, .iadd, 1, 0, 0, 0, 0), (0, 0, 0)), ((71, .invokestatic 46, 3, 1003, 2221, 5000, 1013002222), (0, 0, 0)), ((74, .iastore, 1, 0, 0, 0, 0), (0, 15, 0))] (by decide +kernel) rfl ?_
  exact hx_pick [1, 2, 3, 4, 5] h1

/-- growPawns from 75 on -/
theorem hr135_75 {xs : List Int32} {n : Nat} {Q : hQ} {m : gx_M} {x3 x4 x5 : Int}
    (h1 : (x5 ≤ 0) → hxn xs n yp_m135 5 [(1, .inr (.inl 5)), (2, .inr (.inl 44)), (3, .inl x3), (4, .inl (gx_w (x4 + 1)))] [] m Q)
    (h2 : (0 < x5) → ((m 15 (x4).toNat) < (gx_w (2 * x5))) → hxn xs n yp_m135 5 [(1, .inr (.inl 5)), (2, .inr (.inl 44)), (3, .inl x3), (4, .inl (gx_w (x4 + 1)))] [] m Q)
    (h3 : (0 < x5) → ((gx_w (2 * x5)) ≤ (m 15 (x4).toNat)) → hxn xs n yp_m16 0 [(0, .inr (.inl 5)), (1, .inl x4), (2, .inl (m 13 (x4).toNat))] [] m (fun r m' => hxn xs n yp_m135 107 [(1, .inr (.inl 5)), (2, .inr (.inl 44)), (3, .inl x3), (4, .inl x4)] (hrs r ++ []) m' Q)) : hxn xs (n + 1) yp_m135 75 [(1, .inr (.inl 5)), (2, .inr (.inl 44)), (3, .inl x3), (4, .inl x4), (5, .inl x5)] [] m Q := by
  refine hx_blks (npc := 77) (L' := [(1, .inr (.inl 5)), (2, .inr (.inl 44)), (3, .inl x3), (4, .inl x4), (5, .inl x5)]) (st' := [.inl x5]) (m' := m) ((75, .iload 5, 2, 0, 0, 0, 0), (0, 0, 0)) [] (by decide +kernel) rfl ?_
  refine hx_if .le 110 (by decide +kernel) (fun c1 => ?_) (fun c1 => ?_)
  · have c1 : x5 ≤ 0 := c1
    refine hx_blk (npc := 5) (L' := [(1, .inr (.inl 5)), (2, .inr (.inl 44)), (3, .inl x3), (4, .inl (gx_w (x4 + 1))), (5, .inl x5)]) (st' := []) (m' := m) [((110, .iinc 4 1, 3, 0, 0, 0, 0), (0, 0, 0)), ((113, .goto (-108), 3, 0, 0, 0, 0), (0, 0, 0))] (by decide +kernel) rfl ?_
    exact hx_pick [1, 2, 3, 4] (h1 c1)
  · have c1 : 0 < x5 := by have h : ¬ (x5 ≤ 0) := c1; omega
    refine hx_blk (npc := 91) (L' := [(1, .inr (.inl 5)), (2, .inr (.inl 44)), (3, .inl x3), (4, .inl x4), (5, .inl x5)]) (st' := [.inl (gx_w (2 * x5)), .inl (m 15 (x4).toNat)]) (m' := m) [((80, .aload_n 1, 1, 0, 0, 0, 0), (0, 0, 0)), ((81, .getfield 42, 3, 2, 14, 1128, 0), (1, 5, 15)), ((84, .iload 4, 2, 0, 0, 0, 0), (0, 0, 0)), ((86, .iaload, 1, 0, 0, 0, 0), (0, 15, 0)), ((87, .iconst 2, 1, 0, 0, 0, 0), (0, 0, 0)), ((88, .iload 5, 2, 0, 0, 0, 0), (0, 0, 0)), ((90, .imul, 1, 0, 0, 0, 0), (0, 0, 0))] (by decide +kernel) rfl ?_
    refine hx_cmp .lt 110 (by decide +kernel) (fun c2 => ?_) (fun c2 => ?_)
    · have c2 : (m 15 (x4).toNat) < (gx_w (2 * x5)) := c2
      refine hx_blk (npc := 5) (L' := [(1, .inr (.inl 5)), (2, .inr (.inl 44)), (3, .inl x3), (4, .inl (gx_w (x4 + 1))), (5, .inl x5)]) (st' := []) (m' := m) [((110, .iinc 4 1, 3, 0, 0, 0, 0), (0, 0, 0)), ((113, .goto (-108), 3, 0, 0, 0, 0), (0, 0, 0))] (by decide +kernel) rfl ?_
      exact hx_pick [1, 2, 3, 4] (h2 c1 c2)
    · have c2 : (gx_w (2 * x5)) ≤ (m 15 (x4).toNat) := by have h : ¬ ((m 15 (x4).toNat) < (gx_w (2 * x5))) := c2; omega
      refine hx_blk (npc := 104) (L' := [(1, .inr (.inl 5)), (2, .inr (.inl 44)), (3, .inl x3), (4, .inl x4), (5, .inl x5)]) (st' := [.inl (m 13 (x4).toNat), .inl x4, .inr (.inl 5)]) (m' := m) [((94, .aload_n 1, 1, 0, 0, 0, 0), (0, 0, 0)), ((95, .iload 4, 2, 0, 0, 0, 0), (0, 0, 0)), ((97, .aload_n 1, 1, 0, 0, 0, 0), (0, 0, 0)), ((98, .getfield 52, 3, 2, 12, 1120, 0), (1, 5, 13)), ((101, .iload 4, 2, 0, 0, 0, 0), (0, 0, 0)), ((103, .iaload, 1, 0, 0, 0, 0), (0, 13, 0))] (by decide +kernel) rfl ?_
      exact hx_call (E := (104, .invokevirtual 55, 3, 16, 0, 5001, 0)) (M' := yp_m16) [.inr (.inl 5), .inl x4, .inl (m 13 (x4).toNat)] [] rfl (by decide +kernel) rfl ⟨rfl, rfl⟩ rfl rfl (hx_mono (h3 c1 c2) (fun r m' h' => hx_pick [1, 2, 3, 4] h'))

/-- growPawns from 107 on -/
theorem hr135_107 {xs : List Int32} {n : Nat} {Q : hQ} {m : gx_M} {x3 x4 : Int}
    (h1 : hxn xs n yp_m135 5 [(1, .inr (.inl 5)), (2, .inr (.inl 44)), (3, .inl (gx_w (x3 + 1))), (4, .inl (gx_w (x4 + 1)))] [] m Q) : hxn xs (n + 1) yp_m135 107 [(1, .inr (.inl 5)), (2, .inr (.inl 44)), (3, .inl x3), (4, .inl x4)] [] m Q := by
  refine hx_blks (npc := 5) (L' := [(1, .inr (.inl 5)), (2, .inr (.inl 44)), (3, .inl (gx_w (x3 + 1))), (4, .inl (gx_w (x4 + 1)))]) (st' := []) (m' := m) ((107, .iinc 3 1, 3, 0, 0, 0, 0), (0, 0, 0)) [((110, .iinc 4 1, 3, 0, 0, 0, 0), (0, 0, 0)), ((113, .goto (-108), 3, 0, 0, 0, 0), (0, 0, 0))] (by decide +kernel) rfl ?_
  exact hx_pick [1, 2, 3, 4] h1

/-- drawFortunes from 0 on -/
theorem hr136_0 {xs : List Int32} {n : Nat} {Q : hQ} {m : gx_M}
    (h1 : hxn xs n yp_m136 2 [(1, .inr (.inl 5)), (2, .inr (.inl 44)), (3, .inl 0)] [] m Q) : hxn xs (n + 1) yp_m136 0 [(1, .inr (.inl 5)), (2, .inr (.inl 44))] [] m Q := by
  refine hx_blks (npc := 2) (L' := [(1, .inr (.inl 5)), (2, .inr (.inl 44)), (3, .inl 0)]) (st' := []) (m' := m) ((0, .iconst 0, 1, 0, 0, 0, 0), (0, 0, 0)) [((1, .istore_n 3, 1, 0, 0, 0, 0), (0, 0, 0))] (by decide +kernel) rfl ?_
  exact hx_pick [1, 2, 3] h1

/-- drawFortunes from 2 on -/
theorem hr136_2 {xs : List Int32} {n : Nat} {Q : hQ} {m : gx_M} {x3 : Int}
    (h1 : (8 ≤ x3) → Q none m)
    (h2 : (x3 < 8) → (cPers 5 m x3) → hxn xs n yp_m82 0 [(0, .inr (.inl 44)), (1, .inr (.inl 5)), (2, .inl 102), (3, .inl (-1)), (4, .inl x3), (5, .inl 0)] [] (gx_u m 5 4 (gx_and (gx_w ((gx_w (25173 * (m 5 4))) + 13849)) 65535)) (fun r m' => hxn xs n yp_m136 55 [(1, .inr (.inl 5)), (2, .inr (.inl 44)), (3, .inl x3)] (hrs r ++ [.inl (Int.tmod (gx_and (gx_w ((gx_w (25173 * (m 5 4))) + 13849)) 65535) 10)]) m' Q))
    (h3 : (x3 < 8) → (¬ (cPers 5 m x3)) → hxn xs n yp_m136 2 [(1, .inr (.inl 5)), (2, .inr (.inl 44)), (3, .inl (gx_w (x3 + 1)))] [] m Q) : hxn xs (n + 1) yp_m136 2 [(1, .inr (.inl 5)), (2, .inr (.inl 44)), (3, .inl x3)] [] m Q := by
  refine hx_blks (npc := 5) (L' := [(1, .inr (.inl 5)), (2, .inr (.inl 44)), (3, .inl x3)]) (st' := [.inl 8, .inl x3]) (m' := m) ((2, .iload_n 3, 1, 0, 0, 0, 0), (0, 0, 0)) [((3, .bipush 8, 2, 0, 0, 0, 0), (0, 0, 0))] (by decide +kernel) rfl ?_
  refine hx_cmp .ge 79 (by decide +kernel) (fun c1 => ?_) (fun c1 => ?_)
  · have c1 : 8 ≤ x3 := c1
    exact hx_ret0 (by decide +kernel) (h1 c1)
  · have c1 : x3 < 8 := by have h : ¬ (8 ≤ x3) := c1; omega
    refine hx_blk (npc := 10) (L' := [(1, .inr (.inl 5)), (2, .inr (.inl 44)), (3, .inl x3)]) (st' := [.inl x3, .inr (.inl 5)]) (m' := m) [((8, .aload_n 1, 1, 0, 0, 0, 0), (0, 0, 0)), ((9, .iload_n 3, 1, 0, 0, 0, 0), (0, 0, 0))] (by decide +kernel) rfl ?_
    refine hx_call (E := (10, .invokevirtual 59, 3, 13, 0, 5006, 0)) (M' := yp_m13) [.inr (.inl 5), .inl x3] [] rfl (by decide +kernel) rfl ⟨rfl, rfl⟩ rfl rfl (hs13_5 (fun c2 => ?_) (fun c2 => ?_))
    · have c2 : cPers 5 m x3 := c2
      show hxn xs n yp_m136 13 [(1, .inr (.inl 5)), (2, .inr (.inl 44)), (3, .inl x3)] [.inl 1] m Q
      refine hx_if .ne 19 (by decide +kernel) (fun c3 => ?_) (fun c3 => ?_)
      · have c3 : (1 : Int) ≠ 0 := c3
        have f1 := gx_and_bd (gx_w ((gx_w (25173 * (m 5 4))) + 13849)) 65535 (by decide)
        refine hx_blk (npc := 52) (L' := [(1, .inr (.inl 5)), (2, .inr (.inl 44)), (3, .inl x3)]) (st' := [.inl 0, .inl x3, .inl (-1), .inl 102, .inr (.inl 5), .inr (.inl 44), .inl (Int.tmod (gx_and (gx_w ((gx_w (25173 * (m 5 4))) + 13849)) 65535) 10)]) (m' := (gx_u m 5 4 (gx_and (gx_w ((gx_w (25173 * (m 5 4))) + 13849)) 65535))) [((19, .aload_n 1, 1, 0, 0, 0, 0), (0, 0, 0)), ((20, .sipush 25173, 3, 0, 0, 0, 0), (0, 0, 0)), ((23, .aload_n 1, 1, 0, 0, 0, 0), (0, 0, 0)), ((24, .getfield 62, 3, 2, 4, 1087, 0), (0, 5, 0)), ((27, .imul, 1, 0, 0, 0, 0), (0, 0, 0)), ((28, .sipush 13849, 3, 0, 0, 0, 0), (0, 0, 0)), ((31, .iadd, 1, 0, 0, 0, 0), (0, 0, 0)), ((32, .ldc 65, 2, 0, 0, 5007, 65535), (0, 0, 0)), ((34, .iand, 1, 0, 0, 0, 0), (0, 0, 0)), ((35, .putfield 62, 3, 2, 4, 1087, 0), (0, 5, 0)), ((38, .aload_n 1, 1, 0, 0, 0, 0), (0, 0, 0)), ((39, .getfield 62, 3, 2, 4, 1087, 0), (0, 5, 0)), ((42, .bipush 10, 2, 0, 0, 0, 0), (0, 0, 0)), ((44, .irem, 1, 0, 0, 0, 0), (0, 0, 0)), ((45, .aload_n 2, 1, 0, 0, 0, 0), (0, 0, 0)), ((46, .aload_n 1, 1, 0, 0, 0, 0), (0, 0, 0)), ((47, .bipush 102, 2, 0, 0, 0, 0), (0, 0, 0)), ((49, .iconst (-1), 1, 0, 0, 0, 0), (0, 0, 0)), ((50, .iload_n 3, 1, 0, 0, 0, 0), (0, 0, 0)), ((51, .iconst 0, 1, 0, 0, 0, 0), (0, 0, 0))] (by decide +kernel) rfl ?_
        exact hx_call (E := (52, .invokevirtual 36, 3, 82, 0, 4238, 0)) (M' := yp_m82) [.inr (.inl 44), .inr (.inl 5), .inl 102, .inl (-1), .inl x3, .inl 0] [.inl (Int.tmod (gx_and (gx_w ((gx_w (25173 * (m 5 4))) + 13849)) 65535) 10)] rfl (by decide +kernel) rfl ⟨rfl, rfl⟩ rfl rfl (hx_mono (h2 c1 c2) (fun r m' h' => hx_pick [1, 2, 3] h'))
      · have c3 : (1 : Int) = 0 := by have h : ¬ ((1 : Int) ≠ 0) := c3; omega
        exfalso; omega
    · have c2 : ¬ (cPers 5 m x3) := c2
      show hxn xs n yp_m136 13 [(1, .inr (.inl 5)), (2, .inr (.inl 44)), (3, .inl x3)] [.inl 0] m Q
      refine hx_if .ne 19 (by decide +kernel) (fun c3 => ?_) (fun c3 => ?_)
      · have c3 : (0 : Int) ≠ 0 := c3
        exfalso; omega
      · have c3 : (0 : Int) = 0 := by have h : ¬ ((0 : Int) ≠ 0) := c3; omega
        refine hx_blk (npc := 2) (L' := [(1, .inr (.inl 5)), (2, .inr (.inl 44)), (3, .inl (gx_w (x3 + 1)))]) (st' := []) (m' := m) [((16, .goto 57, 3, 0, 0, 0, 0), (0, 0, 0)), ((73, .iinc 3 1, 3, 0, 0, 0, 0), (0, 0, 0)), ((76, .goto (-74), 3, 0, 0, 0, 0), (0, 0, 0))] (by decide +kernel) rfl ?_
        exact hx_pick [1, 2, 3] (h3 c1 c2)

/-- drawFortunes from 55 on -/
theorem hr136_55 {xs : List Int32} {n : Nat} {Q : hQ} {m : gx_M} {x3 s0 s1 : Int}
    (h1 : (s1 ≤ s0) → hxn xs n yp_m136 2 [(1, .inr (.inl 5)), (2, .inr (.inl 44)), (3, .inl (gx_w (x3 + 1)))] [] m Q)
    (h2 : (s0 < s1) → hxn xs n yp_m82 0 [(0, .inr (.inl 44)), (1, .inr (.inl 5)), (2, .inl 103), (3, .inl (-1)), (4, .inl x3), (5, .inl 0)] [] m (fun r m' => hxn xs n yp_m136 70 [(1, .inr (.inl 5)), (2, .inr (.inl 44)), (3, .inl x3)] (hrs r ++ [.inl x3, .inr (.inl 5)]) m' Q)) : hxn xs (n + 1) yp_m136 55 [(1, .inr (.inl 5)), (2, .inr (.inl 44)), (3, .inl x3)] [.inl s1, .inl s0] m Q := by
  refine hx_cmps .ge 73 (by decide +kernel) (fun c1 => ?_) (fun c1 => ?_)
  · have c1 : s1 ≤ s0 := c1
    refine hx_blk (npc := 2) (L' := [(1, .inr (.inl 5)), (2, .inr (.inl 44)), (3, .inl (gx_w (x3 + 1)))]) (st' := []) (m' := m) [((73, .iinc 3 1, 3, 0, 0, 0, 0), (0, 0, 0)), ((76, .goto (-74), 3, 0, 0, 0, 0), (0, 0, 0))] (by decide +kernel) rfl ?_
    exact hx_pick [1, 2, 3] (h1 c1)
  · have c1 : s0 < s1 := by have h : ¬ (s1 ≤ s0) := c1; omega
    refine hx_blk (npc := 67) (L' := [(1, .inr (.inl 5)), (2, .inr (.inl 44)), (3, .inl x3)]) (st' := [.inl 0, .inl x3, .inl (-1), .inl 103, .inr (.inl 5), .inr (.inl 44), .inl x3, .inr (.inl 5)]) (m' := m) [((58, .aload_n 1, 1, 0, 0, 0, 0), (0, 0, 0)), ((59, .iload_n 3, 1, 0, 0, 0, 0), (0, 0, 0)), ((60, .aload_n 2, 1, 0, 0, 0, 0), (0, 0, 0)), ((61, .aload_n 1, 1, 0, 0, 0, 0), (0, 0, 0)), ((62, .bipush 103, 2, 0, 0, 0, 0), (0, 0, 0)), ((64, .iconst (-1), 1, 0, 0, 0, 0), (0, 0, 0)), ((65, .iload_n 3, 1, 0, 0, 0, 0), (0, 0, 0)), ((66, .iconst 0, 1, 0, 0, 0, 0), (0, 0, 0))] (by decide +kernel) rfl ?_
    exact hx_call (E := (67, .invokevirtual 36, 3, 82, 0, 4238, 0)) (M' := yp_m82) [.inr (.inl 44), .inr (.inl 5), .inl 103, .inl (-1), .inl x3, .inl 0] [.inl x3, .inr (.inl 5)] rfl (by decide +kernel) rfl ⟨rfl, rfl⟩ rfl rfl (hx_mono (h2 c1) (fun r m' h' => hx_pick [1, 2, 3] h'))

/-- drawFortunes from 70 on -/
theorem hr136_70 {xs : List Int32} {n : Nat} {Q : hQ} {m : gx_M} {x3 s1 s2 : Int}
    (h1 : hxn xs n yp_m69 0 [(0, .inr (.inl 5)), (1, .inl s1), (2, .inl s2)] [] m (fun r m' => hxn xs n yp_m136 73 [(1, .inr (.inl 5)), (2, .inr (.inl 44)), (3, .inl x3)] (hrs r ++ []) m' Q)) : hxn xs (n + 1) yp_m136 70 [(1, .inr (.inl 5)), (2, .inr (.inl 44)), (3, .inl x3)] [.inl s2, .inl s1, .inr (.inl 5)] m Q := by
  exact hx_calls (E := (70, .invokevirtual 66, 3, 69, 0, 5008, 0)) (M' := yp_m69) [.inr (.inl 5), .inl s1, .inl s2] [] rfl (by decide +kernel) rfl ⟨rfl, rfl⟩ rfl rfl (hx_mono h1 (fun r m' h' => hx_pick [1, 2, 3] h'))

/-- drawFortunes from 73 on -/
theorem hr136_73 {xs : List Int32} {n : Nat} {Q : hQ} {m : gx_M} {x3 : Int}
    (h1 : hxn xs n yp_m136 2 [(1, .inr (.inl 5)), (2, .inr (.inl 44)), (3, .inl (gx_w (x3 + 1)))] [] m Q) : hxn xs (n + 1) yp_m136 73 [(1, .inr (.inl 5)), (2, .inr (.inl 44)), (3, .inl x3)] [] m Q := by
  refine hx_blks (npc := 2) (L' := [(1, .inr (.inl 5)), (2, .inr (.inl 44)), (3, .inl (gx_w (x3 + 1)))]) (st' := []) (m' := m) ((73, .iinc 3 1, 3, 0, 0, 0, 0), (0, 0, 0)) [((76, .goto (-74), 3, 0, 0, 0, 0), (0, 0, 0))] (by decide +kernel) rfl ?_
  exact hx_pick [1, 2, 3] h1

/-- pass from 0 on -/
theorem hr134_0 {xs : List Int32} {n : Nat} {Q : hQ} {m : gx_M} {x3 : Int}
    (h1 : hxn xs n yp_m134 6 [(0, .inr (.inl 69)), (1, .inr (.inl 5)), (2, .inr (.inl 44)), (3, .inl x3), (4, .inl 0), (5, .inl 0)] [] m Q) : hxn xs (n + 1) yp_m134 0 [(0, .inr (.inl 69)), (1, .inr (.inl 5)), (2, .inr (.inl 44)), (3, .inl x3)] [] m Q := by
  refine hx_blks (npc := 6) (L' := [(0, .inr (.inl 69)), (1, .inr (.inl 5)), (2, .inr (.inl 44)), (3, .inl x3), (4, .inl 0), (5, .inl 0)]) (st' := []) (m' := m) ((0, .iconst 0, 1, 0, 0, 0, 0), (0, 0, 0)) [((1, .istore 4, 2, 0, 0, 0, 0), (0, 0, 0)), ((3, .iconst 0, 1, 0, 0, 0, 0), (0, 0, 0)), ((4, .istore 5, 2, 0, 0, 0, 0), (0, 0, 0))] (by decide +kernel) rfl ?_
  exact hx_pick [0, 1, 2, 3, 4, 5] h1

/-- pass from 6 on -/
theorem hr134_6 {xs : List Int32} {n : Nat} {Q : hQ} {m : gx_M} {x3 x4 x5 : Int}
    (h1 : (x3 ≤ x5) → Q (some (.inl x4)) m)
    (h2 : (x5 < x3) → hxn xs n yp_m135 0 [(0, .inr (.inl 69)), (1, .inr (.inl 5)), (2, .inr (.inl 44))] [] m (fun r m' => hxn xs n yp_m134 20 [(0, .inr (.inl 69)), (1, .inr (.inl 5)), (2, .inr (.inl 44)), (3, .inl x3), (5, .inl x5)] (hrs r ++ [.inl x4]) m' Q)) : hxn xs (n + 1) yp_m134 6 [(0, .inr (.inl 69)), (1, .inr (.inl 5)), (2, .inr (.inl 44)), (3, .inl x3), (4, .inl x4), (5, .inl x5)] [] m Q := by
  refine hx_blks (npc := 9) (L' := [(0, .inr (.inl 69)), (1, .inr (.inl 5)), (2, .inr (.inl 44)), (3, .inl x3), (4, .inl x4), (5, .inl x5)]) (st' := [.inl x3, .inl x5]) (m' := m) ((6, .iload 5, 2, 0, 0, 0, 0), (0, 0, 0)) [((8, .iload_n 3, 1, 0, 0, 0, 0), (0, 0, 0))] (by decide +kernel) rfl ?_
  refine hx_cmp .ge 45 (by decide +kernel) (fun c1 => ?_) (fun c1 => ?_)
  · have c1 : x3 ≤ x5 := c1
    refine hx_blk (npc := 47) (L' := [(0, .inr (.inl 69)), (1, .inr (.inl 5)), (2, .inr (.inl 44)), (3, .inl x3), (4, .inl x4), (5, .inl x5)]) (st' := [.inl x4]) (m' := m) [((45, .iload 4, 2, 0, 0, 0, 0), (0, 0, 0))] (by decide +kernel) rfl ?_
    exact hx_reti (by decide +kernel) (h1 c1)
  · have c1 : x5 < x3 := by have h : ¬ (x3 ≤ x5) := c1; omega
    refine hx_blk (npc := 17) (L' := [(0, .inr (.inl 69)), (1, .inr (.inl 5)), (2, .inr (.inl 44)), (3, .inl x3), (4, .inl x4), (5, .inl x5)]) (st' := [.inr (.inl 44), .inr (.inl 5), .inr (.inl 69), .inl x4]) (m' := m) [((12, .iload 4, 2, 0, 0, 0, 0), (0, 0, 0)), ((14, .aload_n 0, 1, 0, 0, 0, 0), (0, 0, 0)), ((15, .aload_n 1, 1, 0, 0, 0, 0), (0, 0, 0)), ((16, .aload_n 2, 1, 0, 0, 0, 0), (0, 0, 0))] (by decide +kernel) rfl ?_
    exact hx_call (E := (17, .invokevirtual 9, 3, 135, 0, 4233, 0)) (M' := yp_m135) [.inr (.inl 69), .inr (.inl 5), .inr (.inl 44)] [.inl x4] rfl (by decide +kernel) rfl ⟨rfl, rfl⟩ rfl rfl (hx_mono (h2 c1) (fun r m' h' => hx_pick [0, 1, 2, 3, 5] h'))

/-- pass from 20 on -/
theorem hr134_20 {xs : List Int32} {n : Nat} {Q : hQ} {m : gx_M} {x3 x5 s0 s1 : Int}
    (h1 : hxn xs n yp_m136 0 [(0, .inr (.inl 69)), (1, .inr (.inl 5)), (2, .inr (.inl 44))] [] m (fun r m' => hxn xs n yp_m134 29 [(0, .inr (.inl 69)), (1, .inr (.inl 5)), (2, .inr (.inl 44)), (3, .inl x3), (4, .inl (gx_w (s0 + s1))), (5, .inl x5)] (hrs r ++ []) m' Q)) : hxn xs (n + 1) yp_m134 20 [(0, .inr (.inl 69)), (1, .inr (.inl 5)), (2, .inr (.inl 44)), (3, .inl x3), (5, .inl x5)] [.inl s1, .inl s0] m Q := by
  refine hx_blks (npc := 26) (L' := [(0, .inr (.inl 69)), (1, .inr (.inl 5)), (2, .inr (.inl 44)), (3, .inl x3), (5, .inl x5), (4, .inl (gx_w (s0 + s1)))]) (st' := [.inr (.inl 44), .inr (.inl 5), .inr (.inl 69)]) (m' := m) ((20, .iadd, 1, 0, 0, 0, 0), (0, 0, 0)) [((21, .istore 4, 2, 0, 0, 0, 0), (0, 0, 0)), ((23, .aload_n 0, 1, 0, 0, 0, 0), (0, 0, 0)), ((24, .aload_n 1, 1, 0, 0, 0, 0), (0, 0, 0)), ((25, .aload_n 2, 1, 0, 0, 0, 0), (0, 0, 0))] (by decide +kernel) rfl ?_
  exact hx_call (E := (26, .invokevirtual 15, 3, 136, 0, 5002, 0)) (M' := yp_m136) [.inr (.inl 69), .inr (.inl 5), .inr (.inl 44)] [] rfl (by decide +kernel) rfl ⟨rfl, rfl⟩ rfl rfl (hx_mono h1 (fun r m' h' => hx_pick [0, 1, 2, 3, 4, 5] h'))

/-- pass from 29 on -/
theorem hr134_29 {xs : List Int32} {n : Nat} {Q : hQ} {m : gx_M} {x3 x4 x5 : Int}
    (h1 : hxn xs n yp_m134 6 [(0, .inr (.inl 69)), (1, .inr (.inl 5)), (2, .inr (.inl 44)), (3, .inl x3), (4, .inl x4), (5, .inl (gx_w (x5 + 1)))] [] (gx_u m 5 3 (gx_w ((m 5 3) + 1))) Q) : hxn xs (n + 1) yp_m134 29 [(0, .inr (.inl 69)), (1, .inr (.inl 5)), (2, .inr (.inl 44)), (3, .inl x3), (4, .inl x4), (5, .inl x5)] [] m Q := by
  refine hx_blks (npc := 6) (L' := [(0, .inr (.inl 69)), (1, .inr (.inl 5)), (2, .inr (.inl 44)), (3, .inl x3), (4, .inl x4), (5, .inl (gx_w (x5 + 1)))]) (st' := []) (m' := (gx_u m 5 3 (gx_w ((m 5 3) + 1)))) ((29, .aload_n 1, 1, 0, 0, 0, 0), (0, 0, 0)) [((30, .dup, 1, 0, 0, 0, 0), (0, 0, 0)), ((31, .getfield 19, 3, 2, 3, 1083, 0), (0, 5, 0)), ((34, .iconst 1, 1, 0, 0, 0, 0), (0, 0, 0)), ((35, .iadd, 1, 0, 0, 0, 0), (0, 0, 0)), ((36, .putfield 19, 3, 2, 3, 1083, 0), (0, 5, 0)), ((39, .iinc 5 1, 3, 0, 0, 0, 0), (0, 0, 0)), ((42, .goto (-36), 3, 0, 0, 0, 0), (0, 0, 0))] (by decide +kernel) rfl ?_
  exact hx_pick [0, 1, 2, 3, 4, 5] h1

/-- growPawns from 0 on -/
theorem hr31_135_0 {xs : List Int32} {n : Nat} {Q : hQ} {m : gx_M}
    (h1 : hxn xs n yp_m135 5 [(1, .inr (.inl 31)), (2, .inr (.inl 44)), (3, .inl 0), (4, .inl 0)] [] m Q) : hxn xs (n + 1) yp_m135 0 [(1, .inr (.inl 31)), (2, .inr (.inl 44))] [] m Q := by
  refine hx_blks (npc := 5) (L' := [(1, .inr (.inl 31)), (2, .inr (.inl 44)), (3, .inl 0), (4, .inl 0)]) (st' := []) (m' := m) ((0, .iconst 0, 1, 0, 0, 0, 0), (0, 0, 0)) [((1, .istore_n 3, 1, 0, 0, 0, 0), (0, 0, 0)), ((2, .iconst 0, 1, 0, 0, 0, 0), (0, 0, 0)), ((3, .istore 4, 2, 0, 0, 0, 0), (0, 0, 0))] (by decide +kernel) rfl ?_
  exact hx_pick [1, 2, 3, 4] h1

/-- growPawns from 5 on -/
theorem hr31_135_5 {xs : List Int32} {n : Nat} {Q : hQ} {m : gx_M} {x3 x4 : Int}
    (h1 : (40 ≤ x4) → Q (some (.inl x3)) m)
    (h2 : (x4 < 40) → (cPwd 31 39 m x4) → hxn xs n yp_m82 0 [(0, .inr (.inl 44)), (1, .inr (.inl 31)), (2, .inl 105), (3, .inl x4), (4, .inl (m 38 (x4).toNat)), (5, .inl (m 40 (x4).toNat))] [] m (fun r m' => hxn xs n yp_m135 51 [(1, .inr (.inl 31)), (2, .inr (.inl 44)), (3, .inl x3), (4, .inl x4), (5, .inl (m 40 (x4).toNat))] (hrs r ++ []) m' Q))
    (h3 : (x4 < 40) → (¬ (cPwd 31 39 m x4)) → hxn xs n yp_m135 5 [(1, .inr (.inl 31)), (2, .inr (.inl 44)), (3, .inl x3), (4, .inl (gx_w (x4 + 1)))] [] m Q) : hxn xs (n + 1) yp_m135 5 [(1, .inr (.inl 31)), (2, .inr (.inl 44)), (3, .inl x3), (4, .inl x4)] [] m Q := by
  refine hx_blks (npc := 9) (L' := [(1, .inr (.inl 31)), (2, .inr (.inl 44)), (3, .inl x3), (4, .inl x4)]) (st' := [.inl 40, .inl x4]) (m' := m) ((5, .iload 4, 2, 0, 0, 0, 0), (0, 0, 0)) [((7, .bipush 40, 2, 0, 0, 0, 0), (0, 0, 0))] (by decide +kernel) rfl ?_
  refine hx_cmp .ge 116 (by decide +kernel) (fun c1 => ?_) (fun c1 => ?_)
  · have c1 : 40 ≤ x4 := c1
    refine hx_blk (npc := 117) (L' := [(1, .inr (.inl 31)), (2, .inr (.inl 44)), (3, .inl x3), (4, .inl x4)]) (st' := [.inl x3]) (m' := m) [((116, .iload_n 3, 1, 0, 0, 0, 0), (0, 0, 0))] (by decide +kernel) rfl ?_
    exact hx_reti (by decide +kernel) (h1 c1)
  · have c1 : x4 < 40 := by have h : ¬ (40 ≤ x4) := c1; omega
    refine hx_blk (npc := 15) (L' := [(1, .inr (.inl 31)), (2, .inr (.inl 44)), (3, .inl x3), (4, .inl x4)]) (st' := [.inl x4, .inr (.inl 31)]) (m' := m) [((12, .aload_n 1, 1, 0, 0, 0, 0), (0, 0, 0)), ((13, .iload 4, 2, 0, 0, 0, 0), (0, 0, 0))] (by decide +kernel) rfl ?_
    refine hx_call (E := (15, .invokevirtual 25, 3, 79, 0, 4237, 0)) (M' := yp_m79) [.inr (.inl 31), .inl x4] [] rfl (by decide +kernel) rfl ⟨rfl, rfl⟩ rfl rfl (hs79_31 (fun c2 => ?_) (fun c2 => ?_))
    · have c2 : cPwd 31 39 m x4 := c2
      show hxn xs n yp_m135 18 [(1, .inr (.inl 31)), (2, .inr (.inl 44)), (3, .inl x3), (4, .inl x4)] [.inl 1] m Q
      refine hx_if .ne 24 (by decide +kernel) (fun c3 => ?_) (fun c3 => ?_)
      · have c3 : (1 : Int) ≠ 0 := c3
        refine hx_blk (npc := 48) (L' := [(1, .inr (.inl 31)), (2, .inr (.inl 44)), (3, .inl x3), (4, .inl x4), (5, .inl (m 40 (x4).toNat))]) (st' := [.inl (m 40 (x4).toNat), .inl (m 38 (x4).toNat), .inl x4, .inl 105, .inr (.inl 31), .inr (.inl 44)]) (m' := m) [((24, .aload_n 1, 1, 0, 0, 0, 0), (0, 0, 0)), ((25, .getfield 29, 3, 2, 13, 1125, 0), (1, 31, 40)), ((28, .iload 4, 2, 0, 0, 0, 0), (0, 0, 0)), ((30, .iaload, 1, 0, 0, 0, 0), (0, 40, 0)), ((31, .istore 5, 2, 0, 0, 0, 0), (0, 0, 0)), ((33, .aload_n 2, 1, 0, 0, 0, 0), (0, 0, 0)), ((34, .aload_n 1, 1, 0, 0, 0, 0), (0, 0, 0)), ((35, .bipush 105, 2, 0, 0, 0, 0), (0, 0, 0)), ((37, .iload 4, 2, 0, 0, 0, 0), (0, 0, 0)), ((39, .aload_n 1, 1, 0, 0, 0, 0), (0, 0, 0)), ((40, .getfield 33, 3, 2, 11, 1113, 0), (1, 31, 38)), ((43, .iload 4, 2, 0, 0, 0, 0), (0, 0, 0)), ((45, .iaload, 1, 0, 0, 0, 0), (0, 38, 0)), ((46, .iload 5, 2, 0, 0, 0, 0), (0, 0, 0))] (by decide +kernel) rfl ?_
        exact hx_call (E := (48, .invokevirtual 36, 3, 82, 0, 4238, 0)) (M' := yp_m82) [.inr (.inl 44), .inr (.inl 31), .inl 105, .inl x4, .inl (m 38 (x4).toNat), .inl (m 40 (x4).toNat)] [] rfl (by decide +kernel) rfl ⟨rfl, rfl⟩ rfl rfl (hx_mono (h2 c1 c2) (fun r m' h' => hx_pick [1, 2, 3, 4, 5] h'))
      · have c3 : (1 : Int) = 0 := by have h : ¬ ((1 : Int) ≠ 0) := c3; omega
        exfalso; omega
    · have c2 : ¬ (cPwd 31 39 m x4) := c2
      show hxn xs n yp_m135 18 [(1, .inr (.inl 31)), (2, .inr (.inl 44)), (3, .inl x3), (4, .inl x4)] [.inl 0] m Q
      refine hx_if .ne 24 (by decide +kernel) (fun c3 => ?_) (fun c3 => ?_)
      · have c3 : (0 : Int) ≠ 0 := c3
        exfalso; omega
      · have c3 : (0 : Int) = 0 := by have h : ¬ ((0 : Int) ≠ 0) := c3; omega
        refine hx_blk (npc := 5) (L' := [(1, .inr (.inl 31)), (2, .inr (.inl 44)), (3, .inl x3), (4, .inl (gx_w (x4 + 1)))]) (st' := []) (m' := m) [((21, .goto 89, 3, 0, 0, 0, 0), (0, 0, 0)), ((110, .iinc 4 1, 3, 0, 0, 0, 0), (0, 0, 0)), ((113, .goto (-108), 3, 0, 0, 0, 0), (0, 0, 0))] (by decide +kernel) rfl ?_
        exact hx_pick [1, 2, 3, 4] (h3 c1 c2)

/-- growPawns from 51 on -/
theorem hr31_135_51 {xs : List Int32} {n : Nat} {Q : hQ} {m : gx_M} {x3 x4 x5 s0 : Int}
    (h1 : hxn xs n yp_m135 75 [(1, .inr (.inl 31)), (2, .inr (.inl 44)), (3, .inl x3), (4, .inl x4), (5, .inl x5)] [] (gx_u m 41 (x4).toNat (if (gx_w ((m 41 (x4).toNat) + s0)) < 99999 then (gx_w ((m 41 (x4).toNat) + s0)) else 99999)) Q) : hxn xs (n + 1) yp_m135 51 [(1, .inr (.inl 31)), (2, .inr (.inl 44)), (3, .inl x3), (4, .inl x4), (5, .inl x5)] [.inl s0] m Q := by
  refine hx_blks (npc := 75) (L' := [(1, .inr (.inl 31)), (2, .inr (.inl 44)), (3, .inl x3), (4, .inl x4), (5, .inl x5), (6, .inl s0)]) (st' := []) (m' := (gx_u m 41 (x4).toNat (if (gx_w ((m 41 (x4).toNat) + s0)) < 99999 then (gx_w ((m 41 (x4).toNat) + s0)) else 99999))) ((51, .istore 6, 2, 0, 0, 0, 0), (0, 0, 0)) [((53, .aload_n 1, 1, 0, 0, 0, 0), (0, 0, 0)), ((54, .getfield 42, 3, 2, 14, 1128, 0), (1, 31, 41)), ((57, .iload 4, 2, 0, 0, 0, 0), (0, 0, 0)), ((59, .ldc 45, 2, 0, 0, 4239, 99999), (0, 0, 0)), ((61, .aload_n 1, 1, 0, 0, 0, 0), (0, 0, 0)), ((62, .getfield 42, 3, 2, 14, 1128, 0), (1, 31, 41)), ((65, .iload 4, 2, 0, 0, 0, 0), (0, 0, 0)), ((67, .iaload, 1, 0, 0, 0, 0), (0, 41, 0)), ((68, .iload 6, 2, 0, 0, 0, 0), (0, 0, 0)), ((70, .iadd, 1, 0, 0, 0, 0), (0, 0, 0)), ((71, .invokestatic 46, 3, 1003, 2221, 5000, 1013002222), (0, 0, 0)), ((74, .iastore, 1, 0, 0, 0, 0), (0, 41, 0))] (by decide +kernel) rfl ?_
  exact hx_pick [1, 2, 3, 4, 5] h1

/-- growPawns from 75 on -/
theorem hr31_135_75 {xs : List Int32} {n : Nat} {Q : hQ} {m : gx_M} {x3 x4 x5 : Int}
    (h1 : (x5 ≤ 0) → hxn xs n yp_m135 5 [(1, .inr (.inl 31)), (2, .inr (.inl 44)), (3, .inl x3), (4, .inl (gx_w (x4 + 1)))] [] m Q)
    (h2 : (0 < x5) → ((m 41 (x4).toNat) < (gx_w (2 * x5))) → hxn xs n yp_m135 5 [(1, .inr (.inl 31)), (2, .inr (.inl 44)), (3, .inl x3), (4, .inl (gx_w (x4 + 1)))] [] m Q)
    (h3 : (0 < x5) → ((gx_w (2 * x5)) ≤ (m 41 (x4).toNat)) → hxn xs n yp_m16 0 [(0, .inr (.inl 31)), (1, .inl x4), (2, .inl (m 39 (x4).toNat))] [] m (fun r m' => hxn xs n yp_m135 107 [(1, .inr (.inl 31)), (2, .inr (.inl 44)), (3, .inl x3), (4, .inl x4)] (hrs r ++ []) m' Q)) : hxn xs (n + 1) yp_m135 75 [(1, .inr (.inl 31)), (2, .inr (.inl 44)), (3, .inl x3), (4, .inl x4), (5, .inl x5)] [] m Q := by
  refine hx_blks (npc := 77) (L' := [(1, .inr (.inl 31)), (2, .inr (.inl 44)), (3, .inl x3), (4, .inl x4), (5, .inl x5)]) (st' := [.inl x5]) (m' := m) ((75, .iload 5, 2, 0, 0, 0, 0), (0, 0, 0)) [] (by decide +kernel) rfl ?_
  refine hx_if .le 110 (by decide +kernel) (fun c1 => ?_) (fun c1 => ?_)
  · have c1 : x5 ≤ 0 := c1
    refine hx_blk (npc := 5) (L' := [(1, .inr (.inl 31)), (2, .inr (.inl 44)), (3, .inl x3), (4, .inl (gx_w (x4 + 1))), (5, .inl x5)]) (st' := []) (m' := m) [((110, .iinc 4 1, 3, 0, 0, 0, 0), (0, 0, 0)), ((113, .goto (-108), 3, 0, 0, 0, 0), (0, 0, 0))] (by decide +kernel) rfl ?_
    exact hx_pick [1, 2, 3, 4] (h1 c1)
  · have c1 : 0 < x5 := by have h : ¬ (x5 ≤ 0) := c1; omega
    refine hx_blk (npc := 91) (L' := [(1, .inr (.inl 31)), (2, .inr (.inl 44)), (3, .inl x3), (4, .inl x4), (5, .inl x5)]) (st' := [.inl (gx_w (2 * x5)), .inl (m 41 (x4).toNat)]) (m' := m) [((80, .aload_n 1, 1, 0, 0, 0, 0), (0, 0, 0)), ((81, .getfield 42, 3, 2, 14, 1128, 0), (1, 31, 41)), ((84, .iload 4, 2, 0, 0, 0, 0), (0, 0, 0)), ((86, .iaload, 1, 0, 0, 0, 0), (0, 41, 0)), ((87, .iconst 2, 1, 0, 0, 0, 0), (0, 0, 0)), ((88, .iload 5, 2, 0, 0, 0, 0), (0, 0, 0)), ((90, .imul, 1, 0, 0, 0, 0), (0, 0, 0))] (by decide +kernel) rfl ?_
    refine hx_cmp .lt 110 (by decide +kernel) (fun c2 => ?_) (fun c2 => ?_)
    · have c2 : (m 41 (x4).toNat) < (gx_w (2 * x5)) := c2
      refine hx_blk (npc := 5) (L' := [(1, .inr (.inl 31)), (2, .inr (.inl 44)), (3, .inl x3), (4, .inl (gx_w (x4 + 1))), (5, .inl x5)]) (st' := []) (m' := m) [((110, .iinc 4 1, 3, 0, 0, 0, 0), (0, 0, 0)), ((113, .goto (-108), 3, 0, 0, 0, 0), (0, 0, 0))] (by decide +kernel) rfl ?_
      exact hx_pick [1, 2, 3, 4] (h2 c1 c2)
    · have c2 : (gx_w (2 * x5)) ≤ (m 41 (x4).toNat) := by have h : ¬ ((m 41 (x4).toNat) < (gx_w (2 * x5))) := c2; omega
      refine hx_blk (npc := 104) (L' := [(1, .inr (.inl 31)), (2, .inr (.inl 44)), (3, .inl x3), (4, .inl x4), (5, .inl x5)]) (st' := [.inl (m 39 (x4).toNat), .inl x4, .inr (.inl 31)]) (m' := m) [((94, .aload_n 1, 1, 0, 0, 0, 0), (0, 0, 0)), ((95, .iload 4, 2, 0, 0, 0, 0), (0, 0, 0)), ((97, .aload_n 1, 1, 0, 0, 0, 0), (0, 0, 0)), ((98, .getfield 52, 3, 2, 12, 1120, 0), (1, 31, 39)), ((101, .iload 4, 2, 0, 0, 0, 0), (0, 0, 0)), ((103, .iaload, 1, 0, 0, 0, 0), (0, 39, 0))] (by decide +kernel) rfl ?_
      exact hx_call (E := (104, .invokevirtual 55, 3, 16, 0, 5001, 0)) (M' := yp_m16) [.inr (.inl 31), .inl x4, .inl (m 39 (x4).toNat)] [] rfl (by decide +kernel) rfl ⟨rfl, rfl⟩ rfl rfl (hx_mono (h3 c1 c2) (fun r m' h' => hx_pick [1, 2, 3, 4] h'))

/-- growPawns from 107 on -/
theorem hr31_135_107 {xs : List Int32} {n : Nat} {Q : hQ} {m : gx_M} {x3 x4 : Int}
    (h1 : hxn xs n yp_m135 5 [(1, .inr (.inl 31)), (2, .inr (.inl 44)), (3, .inl (gx_w (x3 + 1))), (4, .inl (gx_w (x4 + 1)))] [] m Q) : hxn xs (n + 1) yp_m135 107 [(1, .inr (.inl 31)), (2, .inr (.inl 44)), (3, .inl x3), (4, .inl x4)] [] m Q := by
  refine hx_blks (npc := 5) (L' := [(1, .inr (.inl 31)), (2, .inr (.inl 44)), (3, .inl (gx_w (x3 + 1))), (4, .inl (gx_w (x4 + 1)))]) (st' := []) (m' := m) ((107, .iinc 3 1, 3, 0, 0, 0, 0), (0, 0, 0)) [((110, .iinc 4 1, 3, 0, 0, 0, 0), (0, 0, 0)), ((113, .goto (-108), 3, 0, 0, 0, 0), (0, 0, 0))] (by decide +kernel) rfl ?_
  exact hx_pick [1, 2, 3, 4] h1

/-- drawFortunes from 0 on -/
theorem hr31_136_0 {xs : List Int32} {n : Nat} {Q : hQ} {m : gx_M}
    (h1 : hxn xs n yp_m136 2 [(1, .inr (.inl 31)), (2, .inr (.inl 44)), (3, .inl 0)] [] m Q) : hxn xs (n + 1) yp_m136 0 [(1, .inr (.inl 31)), (2, .inr (.inl 44))] [] m Q := by
  refine hx_blks (npc := 2) (L' := [(1, .inr (.inl 31)), (2, .inr (.inl 44)), (3, .inl 0)]) (st' := []) (m' := m) ((0, .iconst 0, 1, 0, 0, 0, 0), (0, 0, 0)) [((1, .istore_n 3, 1, 0, 0, 0, 0), (0, 0, 0))] (by decide +kernel) rfl ?_
  exact hx_pick [1, 2, 3] h1

/-- drawFortunes from 2 on -/
theorem hr31_136_2 {xs : List Int32} {n : Nat} {Q : hQ} {m : gx_M} {x3 : Int}
    (h1 : (8 ≤ x3) → Q none m)
    (h2 : (x3 < 8) → (cPers 31 m x3) → hxn xs n yp_m82 0 [(0, .inr (.inl 44)), (1, .inr (.inl 31)), (2, .inl 102), (3, .inl (-1)), (4, .inl x3), (5, .inl 0)] [] (gx_u m 31 4 (gx_and (gx_w ((gx_w (25173 * (m 31 4))) + 13849)) 65535)) (fun r m' => hxn xs n yp_m136 55 [(1, .inr (.inl 31)), (2, .inr (.inl 44)), (3, .inl x3)] (hrs r ++ [.inl (Int.tmod (gx_and (gx_w ((gx_w (25173 * (m 31 4))) + 13849)) 65535) 10)]) m' Q))
    (h3 : (x3 < 8) → (¬ (cPers 31 m x3)) → hxn xs n yp_m136 2 [(1, .inr (.inl 31)), (2, .inr (.inl 44)), (3, .inl (gx_w (x3 + 1)))] [] m Q) : hxn xs (n + 1) yp_m136 2 [(1, .inr (.inl 31)), (2, .inr (.inl 44)), (3, .inl x3)] [] m Q := by
  refine hx_blks (npc := 5) (L' := [(1, .inr (.inl 31)), (2, .inr (.inl 44)), (3, .inl x3)]) (st' := [.inl 8, .inl x3]) (m' := m) ((2, .iload_n 3, 1, 0, 0, 0, 0), (0, 0, 0)) [((3, .bipush 8, 2, 0, 0, 0, 0), (0, 0, 0))] (by decide +kernel) rfl ?_
  refine hx_cmp .ge 79 (by decide +kernel) (fun c1 => ?_) (fun c1 => ?_)
  · have c1 : 8 ≤ x3 := c1
    exact hx_ret0 (by decide +kernel) (h1 c1)
  · have c1 : x3 < 8 := by have h : ¬ (8 ≤ x3) := c1; omega
    refine hx_blk (npc := 10) (L' := [(1, .inr (.inl 31)), (2, .inr (.inl 44)), (3, .inl x3)]) (st' := [.inl x3, .inr (.inl 31)]) (m' := m) [((8, .aload_n 1, 1, 0, 0, 0, 0), (0, 0, 0)), ((9, .iload_n 3, 1, 0, 0, 0, 0), (0, 0, 0))] (by decide +kernel) rfl ?_
    refine hx_call (E := (10, .invokevirtual 59, 3, 13, 0, 5006, 0)) (M' := yp_m13) [.inr (.inl 31), .inl x3] [] rfl (by decide +kernel) rfl ⟨rfl, rfl⟩ rfl rfl (hs13_31 (fun c2 => ?_) (fun c2 => ?_))
    · have c2 : cPers 31 m x3 := c2
      show hxn xs n yp_m136 13 [(1, .inr (.inl 31)), (2, .inr (.inl 44)), (3, .inl x3)] [.inl 1] m Q
      refine hx_if .ne 19 (by decide +kernel) (fun c3 => ?_) (fun c3 => ?_)
      · have c3 : (1 : Int) ≠ 0 := c3
        have f1 := gx_and_bd (gx_w ((gx_w (25173 * (m 31 4))) + 13849)) 65535 (by decide)
        refine hx_blk (npc := 52) (L' := [(1, .inr (.inl 31)), (2, .inr (.inl 44)), (3, .inl x3)]) (st' := [.inl 0, .inl x3, .inl (-1), .inl 102, .inr (.inl 31), .inr (.inl 44), .inl (Int.tmod (gx_and (gx_w ((gx_w (25173 * (m 31 4))) + 13849)) 65535) 10)]) (m' := (gx_u m 31 4 (gx_and (gx_w ((gx_w (25173 * (m 31 4))) + 13849)) 65535))) [((19, .aload_n 1, 1, 0, 0, 0, 0), (0, 0, 0)), ((20, .sipush 25173, 3, 0, 0, 0, 0), (0, 0, 0)), ((23, .aload_n 1, 1, 0, 0, 0, 0), (0, 0, 0)), ((24, .getfield 62, 3, 2, 4, 1087, 0), (0, 31, 0)), ((27, .imul, 1, 0, 0, 0, 0), (0, 0, 0)), ((28, .sipush 13849, 3, 0, 0, 0, 0), (0, 0, 0)), ((31, .iadd, 1, 0, 0, 0, 0), (0, 0, 0)), ((32, .ldc 65, 2, 0, 0, 5007, 65535), (0, 0, 0)), ((34, .iand, 1, 0, 0, 0, 0), (0, 0, 0)), ((35, .putfield 62, 3, 2, 4, 1087, 0), (0, 31, 0)), ((38, .aload_n 1, 1, 0, 0, 0, 0), (0, 0, 0)), ((39, .getfield 62, 3, 2, 4, 1087, 0), (0, 31, 0)), ((42, .bipush 10, 2, 0, 0, 0, 0), (0, 0, 0)), ((44, .irem, 1, 0, 0, 0, 0), (0, 0, 0)), ((45, .aload_n 2, 1, 0, 0, 0, 0), (0, 0, 0)), ((46, .aload_n 1, 1, 0, 0, 0, 0), (0, 0, 0)), ((47, .bipush 102, 2, 0, 0, 0, 0), (0, 0, 0)), ((49, .iconst (-1), 1, 0, 0, 0, 0), (0, 0, 0)), ((50, .iload_n 3, 1, 0, 0, 0, 0), (0, 0, 0)), ((51, .iconst 0, 1, 0, 0, 0, 0), (0, 0, 0))] (by decide +kernel) rfl ?_
        exact hx_call (E := (52, .invokevirtual 36, 3, 82, 0, 4238, 0)) (M' := yp_m82) [.inr (.inl 44), .inr (.inl 31), .inl 102, .inl (-1), .inl x3, .inl 0] [.inl (Int.tmod (gx_and (gx_w ((gx_w (25173 * (m 31 4))) + 13849)) 65535) 10)] rfl (by decide +kernel) rfl ⟨rfl, rfl⟩ rfl rfl (hx_mono (h2 c1 c2) (fun r m' h' => hx_pick [1, 2, 3] h'))
      · have c3 : (1 : Int) = 0 := by have h : ¬ ((1 : Int) ≠ 0) := c3; omega
        exfalso; omega
    · have c2 : ¬ (cPers 31 m x3) := c2
      show hxn xs n yp_m136 13 [(1, .inr (.inl 31)), (2, .inr (.inl 44)), (3, .inl x3)] [.inl 0] m Q
      refine hx_if .ne 19 (by decide +kernel) (fun c3 => ?_) (fun c3 => ?_)
      · have c3 : (0 : Int) ≠ 0 := c3
        exfalso; omega
      · have c3 : (0 : Int) = 0 := by have h : ¬ ((0 : Int) ≠ 0) := c3; omega
        refine hx_blk (npc := 2) (L' := [(1, .inr (.inl 31)), (2, .inr (.inl 44)), (3, .inl (gx_w (x3 + 1)))]) (st' := []) (m' := m) [((16, .goto 57, 3, 0, 0, 0, 0), (0, 0, 0)), ((73, .iinc 3 1, 3, 0, 0, 0, 0), (0, 0, 0)), ((76, .goto (-74), 3, 0, 0, 0, 0), (0, 0, 0))] (by decide +kernel) rfl ?_
        exact hx_pick [1, 2, 3] (h3 c1 c2)

/-- drawFortunes from 55 on -/
theorem hr31_136_55 {xs : List Int32} {n : Nat} {Q : hQ} {m : gx_M} {x3 s0 s1 : Int}
    (h1 : (s1 ≤ s0) → hxn xs n yp_m136 2 [(1, .inr (.inl 31)), (2, .inr (.inl 44)), (3, .inl (gx_w (x3 + 1)))] [] m Q)
    (h2 : (s0 < s1) → hxn xs n yp_m82 0 [(0, .inr (.inl 44)), (1, .inr (.inl 31)), (2, .inl 103), (3, .inl (-1)), (4, .inl x3), (5, .inl 0)] [] m (fun r m' => hxn xs n yp_m136 70 [(1, .inr (.inl 31)), (2, .inr (.inl 44)), (3, .inl x3)] (hrs r ++ [.inl x3, .inr (.inl 31)]) m' Q)) : hxn xs (n + 1) yp_m136 55 [(1, .inr (.inl 31)), (2, .inr (.inl 44)), (3, .inl x3)] [.inl s1, .inl s0] m Q := by
  refine hx_cmps .ge 73 (by decide +kernel) (fun c1 => ?_) (fun c1 => ?_)
  · have c1 : s1 ≤ s0 := c1
    refine hx_blk (npc := 2) (L' := [(1, .inr (.inl 31)), (2, .inr (.inl 44)), (3, .inl (gx_w (x3 + 1)))]) (st' := []) (m' := m) [((73, .iinc 3 1, 3, 0, 0, 0, 0), (0, 0, 0)), ((76, .goto (-74), 3, 0, 0, 0, 0), (0, 0, 0))] (by decide +kernel) rfl ?_
    exact hx_pick [1, 2, 3] (h1 c1)
  · have c1 : s0 < s1 := by have h : ¬ (s1 ≤ s0) := c1; omega
    refine hx_blk (npc := 67) (L' := [(1, .inr (.inl 31)), (2, .inr (.inl 44)), (3, .inl x3)]) (st' := [.inl 0, .inl x3, .inl (-1), .inl 103, .inr (.inl 31), .inr (.inl 44), .inl x3, .inr (.inl 31)]) (m' := m) [((58, .aload_n 1, 1, 0, 0, 0, 0), (0, 0, 0)), ((59, .iload_n 3, 1, 0, 0, 0, 0), (0, 0, 0)), ((60, .aload_n 2, 1, 0, 0, 0, 0), (0, 0, 0)), ((61, .aload_n 1, 1, 0, 0, 0, 0), (0, 0, 0)), ((62, .bipush 103, 2, 0, 0, 0, 0), (0, 0, 0)), ((64, .iconst (-1), 1, 0, 0, 0, 0), (0, 0, 0)), ((65, .iload_n 3, 1, 0, 0, 0, 0), (0, 0, 0)), ((66, .iconst 0, 1, 0, 0, 0, 0), (0, 0, 0))] (by decide +kernel) rfl ?_
    exact hx_call (E := (67, .invokevirtual 36, 3, 82, 0, 4238, 0)) (M' := yp_m82) [.inr (.inl 44), .inr (.inl 31), .inl 103, .inl (-1), .inl x3, .inl 0] [.inl x3, .inr (.inl 31)] rfl (by decide +kernel) rfl ⟨rfl, rfl⟩ rfl rfl (hx_mono (h2 c1) (fun r m' h' => hx_pick [1, 2, 3] h'))

/-- drawFortunes from 70 on -/
theorem hr31_136_70 {xs : List Int32} {n : Nat} {Q : hQ} {m : gx_M} {x3 s1 s2 : Int}
    (h1 : hxn xs n yp_m69 0 [(0, .inr (.inl 31)), (1, .inl s1), (2, .inl s2)] [] m (fun r m' => hxn xs n yp_m136 73 [(1, .inr (.inl 31)), (2, .inr (.inl 44)), (3, .inl x3)] (hrs r ++ []) m' Q)) : hxn xs (n + 1) yp_m136 70 [(1, .inr (.inl 31)), (2, .inr (.inl 44)), (3, .inl x3)] [.inl s2, .inl s1, .inr (.inl 31)] m Q := by
  exact hx_calls (E := (70, .invokevirtual 66, 3, 69, 0, 5008, 0)) (M' := yp_m69) [.inr (.inl 31), .inl s1, .inl s2] [] rfl (by decide +kernel) rfl ⟨rfl, rfl⟩ rfl rfl (hx_mono h1 (fun r m' h' => hx_pick [1, 2, 3] h'))

/-- drawFortunes from 73 on -/
theorem hr31_136_73 {xs : List Int32} {n : Nat} {Q : hQ} {m : gx_M} {x3 : Int}
    (h1 : hxn xs n yp_m136 2 [(1, .inr (.inl 31)), (2, .inr (.inl 44)), (3, .inl (gx_w (x3 + 1)))] [] m Q) : hxn xs (n + 1) yp_m136 73 [(1, .inr (.inl 31)), (2, .inr (.inl 44)), (3, .inl x3)] [] m Q := by
  refine hx_blks (npc := 2) (L' := [(1, .inr (.inl 31)), (2, .inr (.inl 44)), (3, .inl (gx_w (x3 + 1)))]) (st' := []) (m' := m) ((73, .iinc 3 1, 3, 0, 0, 0, 0), (0, 0, 0)) [((76, .goto (-74), 3, 0, 0, 0, 0), (0, 0, 0))] (by decide +kernel) rfl ?_
  exact hx_pick [1, 2, 3] h1

/-- pass from 0 on -/
theorem hr31_134_0 {xs : List Int32} {n : Nat} {Q : hQ} {m : gx_M} {x3 : Int}
    (h1 : hxn xs n yp_m134 6 [(0, .inr (.inl 69)), (1, .inr (.inl 31)), (2, .inr (.inl 44)), (3, .inl x3), (4, .inl 0), (5, .inl 0)] [] m Q) : hxn xs (n + 1) yp_m134 0 [(0, .inr (.inl 69)), (1, .inr (.inl 31)), (2, .inr (.inl 44)), (3, .inl x3)] [] m Q := by
  refine hx_blks (npc := 6) (L' := [(0, .inr (.inl 69)), (1, .inr (.inl 31)), (2, .inr (.inl 44)), (3, .inl x3), (4, .inl 0), (5, .inl 0)]) (st' := []) (m' := m) ((0, .iconst 0, 1, 0, 0, 0, 0), (0, 0, 0)) [((1, .istore 4, 2, 0, 0, 0, 0), (0, 0, 0)), ((3, .iconst 0, 1, 0, 0, 0, 0), (0, 0, 0)), ((4, .istore 5, 2, 0, 0, 0, 0), (0, 0, 0))] (by decide +kernel) rfl ?_
  exact hx_pick [0, 1, 2, 3, 4, 5] h1

/-- pass from 6 on -/
theorem hr31_134_6 {xs : List Int32} {n : Nat} {Q : hQ} {m : gx_M} {x3 x4 x5 : Int}
    (h1 : (x3 ≤ x5) → Q (some (.inl x4)) m)
    (h2 : (x5 < x3) → hxn xs n yp_m135 0 [(0, .inr (.inl 69)), (1, .inr (.inl 31)), (2, .inr (.inl 44))] [] m (fun r m' => hxn xs n yp_m134 20 [(0, .inr (.inl 69)), (1, .inr (.inl 31)), (2, .inr (.inl 44)), (3, .inl x3), (5, .inl x5)] (hrs r ++ [.inl x4]) m' Q)) : hxn xs (n + 1) yp_m134 6 [(0, .inr (.inl 69)), (1, .inr (.inl 31)), (2, .inr (.inl 44)), (3, .inl x3), (4, .inl x4), (5, .inl x5)] [] m Q := by
  refine hx_blks (npc := 9) (L' := [(0, .inr (.inl 69)), (1, .inr (.inl 31)), (2, .inr (.inl 44)), (3, .inl x3), (4, .inl x4), (5, .inl x5)]) (st' := [.inl x3, .inl x5]) (m' := m) ((6, .iload 5, 2, 0, 0, 0, 0), (0, 0, 0)) [((8, .iload_n 3, 1, 0, 0, 0, 0), (0, 0, 0))] (by decide +kernel) rfl ?_
  refine hx_cmp .ge 45 (by decide +kernel) (fun c1 => ?_) (fun c1 => ?_)
  · have c1 : x3 ≤ x5 := c1
    refine hx_blk (npc := 47) (L' := [(0, .inr (.inl 69)), (1, .inr (.inl 31)), (2, .inr (.inl 44)), (3, .inl x3), (4, .inl x4), (5, .inl x5)]) (st' := [.inl x4]) (m' := m) [((45, .iload 4, 2, 0, 0, 0, 0), (0, 0, 0))] (by decide +kernel) rfl ?_
    exact hx_reti (by decide +kernel) (h1 c1)
  · have c1 : x5 < x3 := by have h : ¬ (x3 ≤ x5) := c1; omega
    refine hx_blk (npc := 17) (L' := [(0, .inr (.inl 69)), (1, .inr (.inl 31)), (2, .inr (.inl 44)), (3, .inl x3), (4, .inl x4), (5, .inl x5)]) (st' := [.inr (.inl 44), .inr (.inl 31), .inr (.inl 69), .inl x4]) (m' := m) [((12, .iload 4, 2, 0, 0, 0, 0), (0, 0, 0)), ((14, .aload_n 0, 1, 0, 0, 0, 0), (0, 0, 0)), ((15, .aload_n 1, 1, 0, 0, 0, 0), (0, 0, 0)), ((16, .aload_n 2, 1, 0, 0, 0, 0), (0, 0, 0))] (by decide +kernel) rfl ?_
    exact hx_call (E := (17, .invokevirtual 9, 3, 135, 0, 4233, 0)) (M' := yp_m135) [.inr (.inl 69), .inr (.inl 31), .inr (.inl 44)] [.inl x4] rfl (by decide +kernel) rfl ⟨rfl, rfl⟩ rfl rfl (hx_mono (h2 c1) (fun r m' h' => hx_pick [0, 1, 2, 3, 5] h'))

/-- pass from 20 on -/
theorem hr31_134_20 {xs : List Int32} {n : Nat} {Q : hQ} {m : gx_M} {x3 x5 s0 s1 : Int}
    (h1 : hxn xs n yp_m136 0 [(0, .inr (.inl 69)), (1, .inr (.inl 31)), (2, .inr (.inl 44))] [] m (fun r m' => hxn xs n yp_m134 29 [(0, .inr (.inl 69)), (1, .inr (.inl 31)), (2, .inr (.inl 44)), (3, .inl x3), (4, .inl (gx_w (s0 + s1))), (5, .inl x5)] (hrs r ++ []) m' Q)) : hxn xs (n + 1) yp_m134 20 [(0, .inr (.inl 69)), (1, .inr (.inl 31)), (2, .inr (.inl 44)), (3, .inl x3), (5, .inl x5)] [.inl s1, .inl s0] m Q := by
  refine hx_blks (npc := 26) (L' := [(0, .inr (.inl 69)), (1, .inr (.inl 31)), (2, .inr (.inl 44)), (3, .inl x3), (5, .inl x5), (4, .inl (gx_w (s0 + s1)))]) (st' := [.inr (.inl 44), .inr (.inl 31), .inr (.inl 69)]) (m' := m) ((20, .iadd, 1, 0, 0, 0, 0), (0, 0, 0)) [((21, .istore 4, 2, 0, 0, 0, 0), (0, 0, 0)), ((23, .aload_n 0, 1, 0, 0, 0, 0), (0, 0, 0)), ((24, .aload_n 1, 1, 0, 0, 0, 0), (0, 0, 0)), ((25, .aload_n 2, 1, 0, 0, 0, 0), (0, 0, 0))] (by decide +kernel) rfl ?_
  exact hx_call (E := (26, .invokevirtual 15, 3, 136, 0, 5002, 0)) (M' := yp_m136) [.inr (.inl 69), .inr (.inl 31), .inr (.inl 44)] [] rfl (by decide +kernel) rfl ⟨rfl, rfl⟩ rfl rfl (hx_mono h1 (fun r m' h' => hx_pick [0, 1, 2, 3, 4, 5] h'))

/-- pass from 29 on -/
theorem hr31_134_29 {xs : List Int32} {n : Nat} {Q : hQ} {m : gx_M} {x3 x4 x5 : Int}
    (h1 : hxn xs n yp_m134 6 [(0, .inr (.inl 69)), (1, .inr (.inl 31)), (2, .inr (.inl 44)), (3, .inl x3), (4, .inl x4), (5, .inl (gx_w (x5 + 1)))] [] (gx_u m 31 3 (gx_w ((m 31 3) + 1))) Q) : hxn xs (n + 1) yp_m134 29 [(0, .inr (.inl 69)), (1, .inr (.inl 31)), (2, .inr (.inl 44)), (3, .inl x3), (4, .inl x4), (5, .inl x5)] [] m Q := by
  refine hx_blks (npc := 6) (L' := [(0, .inr (.inl 69)), (1, .inr (.inl 31)), (2, .inr (.inl 44)), (3, .inl x3), (4, .inl x4), (5, .inl (gx_w (x5 + 1)))]) (st' := []) (m' := (gx_u m 31 3 (gx_w ((m 31 3) + 1)))) ((29, .aload_n 1, 1, 0, 0, 0, 0), (0, 0, 0)) [((30, .dup, 1, 0, 0, 0, 0), (0, 0, 0)), ((31, .getfield 19, 3, 2, 3, 1083, 0), (0, 31, 0)), ((34, .iconst 1, 1, 0, 0, 0, 0), (0, 0, 0)), ((35, .iadd, 1, 0, 0, 0, 0), (0, 0, 0)), ((36, .putfield 19, 3, 2, 3, 1083, 0), (0, 31, 0)), ((39, .iinc 5 1, 3, 0, 0, 0, 0), (0, 0, 0)), ((42, .goto (-36), 3, 0, 0, 0, 0), (0, 0, 0))] (by decide +kernel) rfl ?_
  exact hx_pick [0, 1, 2, 3, 4, 5] h1

/-- days from 0 on -/
theorem hr133_0 {xs : List Int32} {n : Nat} {Q : hQ} {m : gx_M} {x1 : Int}
    (h1 : (x1 < 1) → Q (some (.inl (-1))) m)
    (h2 : (1 ≤ x1) → (x1 ≤ 100) → hxn xs n yp_m134 0 [(0, .inr (.inl 69)), (1, .inr (.inl 5)), (2, .inr (.inl 44)), (3, .inl x1)] [] m (fun r m' => hxn xs n yp_m133 29 [(0, .inr (.inl 0))] (hrs r ++ []) m' Q))
    (h3 : (1 ≤ x1) → (100 < x1) → Q (some (.inl (-1))) m) : hxn xs (n + 1) yp_m133 0 [(0, .inr (.inl 0)), (1, .inl x1)] [] m Q := by
  refine hx_blks (npc := 2) (L' := [(0, .inr (.inl 0)), (1, .inl x1)]) (st' := [.inl 1, .inl x1]) (m' := m) ((0, .iload_n 1, 1, 0, 0, 0, 0), (0, 0, 0)) [((1, .iconst 1, 1, 0, 0, 0, 0), (0, 0, 0))] (by decide +kernel) rfl ?_
  refine hx_cmp .lt 11 (by decide +kernel) (fun c1 => ?_) (fun c1 => ?_)
  · have c1 : x1 < 1 := c1
    refine hx_blk (npc := 12) (L' := [(0, .inr (.inl 0)), (1, .inl x1)]) (st' := [.inl (-1)]) (m' := m) [((11, .iconst (-1), 1, 0, 0, 0, 0), (0, 0, 0))] (by decide +kernel) rfl ?_
    exact hx_reti (by decide +kernel) (h1 c1)
  · have c1 : 1 ≤ x1 := by have h : ¬ (x1 < 1) := c1; omega
    refine hx_blk (npc := 8) (L' := [(0, .inr (.inl 0)), (1, .inl x1)]) (st' := [.inl 100, .inl x1]) (m' := m) [((5, .iload_n 1, 1, 0, 0, 0, 0), (0, 0, 0)), ((6, .bipush 100, 2, 0, 0, 0, 0), (0, 0, 0))] (by decide +kernel) rfl ?_
    refine hx_cmp .le 13 (by decide +kernel) (fun c2 => ?_) (fun c2 => ?_)
    · have c2 : x1 ≤ 100 := c2
      refine hx_blk (npc := 26) (L' := [(0, .inr (.inl 0)), (1, .inl x1)]) (st' := [.inl x1, .inr (.inl 44), .inr (.inl 5), .inr (.inl 69)]) (m' := m) [((13, .aload_n 0, 1, 0, 0, 0, 0), (0, 0, 0)), ((14, .getfield 60, 3, 9, 8, 2127, 0), (1, 0, 69)), ((17, .aload_n 0, 1, 0, 0, 0, 0), (0, 0, 0)), ((18, .getfield 26, 3, 9, 2, 2121, 0), (1, 0, 5)), ((21, .aload_n 0, 1, 0, 0, 0, 0), (0, 0, 0)), ((22, .getfield 39, 3, 9, 5, 2124, 0), (1, 0, 44)), ((25, .iload_n 1, 1, 0, 0, 0, 0), (0, 0, 0))] (by decide +kernel) rfl ?_
      exact hx_call (E := (26, .invokevirtual 295, 3, 134, 0, 4229, 0)) (M' := yp_m134) [.inr (.inl 69), .inr (.inl 5), .inr (.inl 44), .inl x1] [] rfl (by decide +kernel) rfl ⟨rfl, rfl⟩ rfl rfl (hx_mono (h2 c1 c2) (fun r m' h' => hx_pick [0] h'))
    · have c2 : 100 < x1 := by have h : ¬ (x1 ≤ 100) := c2; omega
      refine hx_blk (npc := 12) (L' := [(0, .inr (.inl 0)), (1, .inl x1)]) (st' := [.inl (-1)]) (m' := m) [((11, .iconst (-1), 1, 0, 0, 0, 0), (0, 0, 0))] (by decide +kernel) rfl ?_
      exact hx_reti (by decide +kernel) (h3 c1 c2)

/-- days from 29 on -/
theorem hr133_29 {xs : List Int32} {n : Nat} {Q : hQ} {m : gx_M} {s0 : Int}
    (h1 : Q (some (.inl s0)) (gx_u m 0 13 (gx_w ((m 0 13) + s0)))) : hxn xs (n + 1) yp_m133 29 [(0, .inr (.inl 0))] [.inl s0] m Q := by
  refine hx_blks (npc := 41) (L' := [(0, .inr (.inl 0)), (2, .inl s0)]) (st' := [.inl s0]) (m' := (gx_u m 0 13 (gx_w ((m 0 13) + s0)))) ((29, .istore_n 2, 1, 0, 0, 0, 0), (0, 0, 0)) [((30, .aload_n 0, 1, 0, 0, 0, 0), (0, 0, 0)), ((31, .dup, 1, 0, 0, 0, 0), (0, 0, 0)), ((32, .getfield 299, 3, 9, 13, 2132, 0), (0, 0, 0)), ((35, .iload_n 2, 1, 0, 0, 0, 0), (0, 0, 0)), ((36, .iadd, 1, 0, 0, 0, 0), (0, 0, 0)), ((37, .putfield 299, 3, 9, 13, 2132, 0), (0, 0, 0)), ((40, .iload_n 2, 1, 0, 0, 0, 0), (0, 0, 0))] (by decide +kernel) rfl ?_
  exact hx_reti (by decide +kernel) h1

