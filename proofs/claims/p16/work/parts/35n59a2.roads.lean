/-! the seed: a road -/
/-- seed from 0 on -/
theorem hr153_0 {xs : List Int32} {n : Nat} {Q : hQ} {m : gx_M} {x1 : Int}
    (h1 : (x1 < 0) → Q (some (.inl 0)) m)
    (h2 : (0 ≤ x1) → (x1 ≤ 65535) → Q (some (.inl 1)) (gx_u m 5 4 x1))
    (h3 : (0 ≤ x1) → (65535 < x1) → Q (some (.inl 0)) m) : hxn xs (n + 1) yp_m153 0 [(0, .inr (.inl 0)), (1, .inl x1)] [] m Q := by
  refine hx_blks (npc := 1) (L' := [(0, .inr (.inl 0)), (1, .inl x1)]) (st' := [.inl x1]) (m' := m) ((0, .iload_n 1, 1, 0, 0, 0, 0), (0, 0, 0)) [] (by decide +kernel) rfl ?_
  refine hx_if .lt 11 (by decide +kernel) (fun c1 => ?_) (fun c1 => ?_)
  · have c1 : x1 < 0 := c1
    refine hx_blk (npc := 12) (L' := [(0, .inr (.inl 0)), (1, .inl x1)]) (st' := [.inl 0]) (m' := m) [((11, .iconst 0, 1, 0, 0, 0, 0), (0, 0, 0))] (by decide +kernel) rfl ?_
    exact hx_reti (by decide +kernel) (h1 c1)
  · have c1 : 0 ≤ x1 := by have h : ¬ (x1 < 0) := c1; omega
    refine hx_blk (npc := 8) (L' := [(0, .inr (.inl 0)), (1, .inl x1)]) (st' := [.inl 65535, .inl x1]) (m' := m) [((4, .iload_n 1, 1, 0, 0, 0, 0), (0, 0, 0)), ((5, .ldc_w 329, 3, 0, 0, 5082, 65535), (0, 0, 0))] (by decide +kernel) rfl ?_
    refine hx_cmp .le 13 (by decide +kernel) (fun c2 => ?_) (fun c2 => ?_)
    · have c2 : x1 ≤ 65535 := c2
      refine hx_blk (npc := 22) (L' := [(0, .inr (.inl 0)), (1, .inl x1)]) (st' := [.inl 1]) (m' := (gx_u m 5 4 x1)) [((13, .aload_n 0, 1, 0, 0, 0, 0), (0, 0, 0)), ((14, .getfield 26, 3, 9, 2, 2121, 0), (1, 0, 5)), ((17, .iload_n 1, 1, 0, 0, 0, 0), (0, 0, 0)), ((18, .putfield 330, 3, 2, 4, 1088, 0), (0, 5, 0)), ((21, .iconst 1, 1, 0, 0, 0, 0), (0, 0, 0))] (by decide +kernel) rfl ?_
      exact hx_reti (by decide +kernel) (h2 c1 c2)
    · have c2 : 65535 < x1 := by have h : ¬ (x1 ≤ 65535) := c2; omega
      refine hx_blk (npc := 12) (L' := [(0, .inr (.inl 0)), (1, .inl x1)]) (st' := [.inl 0]) (m' := m) [((11, .iconst 0, 1, 0, 0, 0, 0), (0, 0, 0))] (by decide +kernel) rfl ?_
      exact hx_reti (by decide +kernel) (h3 c1 c2)

