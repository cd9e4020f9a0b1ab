/-! the tape: who takes what, roads -/
/-- has from 0 on -/
theorem hs23 {xs : List Int32} {n : Nat} {Q : hQ} {m : gx_M} {x1 x2 : Int}
    (h1 : 1 ≤ x1 ∧ x1 ≤ x2 ∧ x1 ≤ m 1 1 → Q (some (.inl 1)) m) (h0 : ¬ (1 ≤ x1 ∧ x1 ≤ x2 ∧ x1 ≤ m 1 1) → Q (some (.inl 0)) m) : hxn xs n yp_m23 0 [(0, .inr (.inl 1)), (1, .inl x1), (2, .inl x2)] [] m Q := by
  refine hx_dn ?_
  refine hx_blks (npc := 2) (L' := [(0, .inr (.inl 1)), (1, .inl x1), (2, .inl x2)]) (st' := [.inl 1, .inl x1]) (m' := m) ((0, .iload_n 1, 1, 0, 0, 0, 0), (0, 0, 0)) [((1, .iconst 1, 1, 0, 0, 0, 0), (0, 0, 0))] (by decide +kernel) rfl ?_
  refine hx_cmp .lt 22 (by decide +kernel) (fun c1 => ?_) (fun c1 => ?_)
  · have c1 : x1 < 1 := c1
    refine hx_blk (npc := 23) (L' := [(0, .inr (.inl 1)), (1, .inl x1), (2, .inl x2)]) (st' := [.inl 0]) (m' := m) [((22, .iconst 0, 1, 0, 0, 0, 0), (0, 0, 0))] (by decide +kernel) rfl ?_
    exact hx_reti (by decide +kernel) (h0 (by omega))
  · have c1 : 1 ≤ x1 := by have h : ¬ (x1 < 1) := c1; omega
    refine hx_blk (npc := 7) (L' := [(0, .inr (.inl 1)), (1, .inl x1), (2, .inl x2)]) (st' := [.inl x2, .inl x1]) (m' := m) [((5, .iload_n 1, 1, 0, 0, 0, 0), (0, 0, 0)), ((6, .iload_n 2, 1, 0, 0, 0, 0), (0, 0, 0))] (by decide +kernel) rfl ?_
    refine hx_cmp .gt 22 (by decide +kernel) (fun c2 => ?_) (fun c2 => ?_)
    · have c2 : x2 < x1 := c2
      refine hx_blk (npc := 23) (L' := [(0, .inr (.inl 1)), (1, .inl x1), (2, .inl x2)]) (st' := [.inl 0]) (m' := m) [((22, .iconst 0, 1, 0, 0, 0, 0), (0, 0, 0))] (by decide +kernel) rfl ?_
      exact hx_reti (by decide +kernel) (h0 (by omega))
    · have c2 : x1 ≤ x2 := by have h : ¬ (x2 < x1) := c2; omega
      refine hx_blk (npc := 15) (L' := [(0, .inr (.inl 1)), (1, .inl x1), (2, .inl x2)]) (st' := [.inl (m 1 1), .inl x1]) (m' := m) [((10, .iload_n 1, 1, 0, 0, 0, 0), (0, 0, 0)), ((11, .aload_n 0, 1, 0, 0, 0, 0), (0, 0, 0)), ((12, .getfield 15, 3, 0, 1, 1033, 0), (0, 1, 0))] (by decide +kernel) rfl ?_
      refine hx_cmp .gt 22 (by decide +kernel) (fun c3 => ?_) (fun c3 => ?_)
      · have c3 : (m 1 1) < x1 := c3
        refine hx_blk (npc := 23) (L' := [(0, .inr (.inl 1)), (1, .inl x1), (2, .inl x2)]) (st' := [.inl 0]) (m' := m) [((22, .iconst 0, 1, 0, 0, 0, 0), (0, 0, 0))] (by decide +kernel) rfl ?_
        exact hx_reti (by decide +kernel) (h0 (by omega))
      · have c3 : x1 ≤ (m 1 1) := by have h : ¬ ((m 1 1) < x1) := c3; omega
        refine hx_blk (npc := 23) (L' := [(0, .inr (.inl 1)), (1, .inl x1), (2, .inl x2)]) (st' := [.inl 1]) (m' := m) [((18, .iconst 1, 1, 0, 0, 0, 0), (0, 0, 0)), ((19, .goto 4, 3, 0, 0, 0, 0), (0, 0, 0))] (by decide +kernel) rfl ?_
        exact hx_reti (by decide +kernel) (h1 (by omega))

/-- deals from 0 on -/
theorem ht48 {xs : List Int32} {n : Nat} {Q : hQ} {m : gx_M} {x1 : Int}
    (h1 : (1 ≤ x1 ∧ x1 ≤ 160 ∧ x1 ≤ m 1 1) → hxn xs n yp_m48 16 [(0, .inr (.inl 0)), (1, .inl x1)] [] m Q)
    (h2 : (¬ (1 ≤ x1 ∧ x1 ≤ 160 ∧ x1 ≤ m 1 1)) → Q (some (.inl (-1))) m) : hxn xs (n + 1) yp_m48 0 [(0, .inr (.inl 0)), (1, .inl x1)] [] m Q := by
  refine hx_blks (npc := 8) (L' := [(0, .inr (.inl 0)), (1, .inl x1)]) (st' := [.inl 160, .inl x1, .inr (.inl 1)]) (m' := m) ((0, .aload_n 0, 1, 0, 0, 0, 0), (0, 0, 0)) [((1, .getfield 10, 3, 9, 0, 2119, 0), (1, 0, 1)), ((4, .iload_n 1, 1, 0, 0, 0, 0), (0, 0, 0)), ((5, .sipush 160, 3, 0, 0, 0, 0), (0, 0, 0))] (by decide +kernel) rfl ?_
  refine hx_call (E := (8, .invokevirtual 124, 3, 23, 0, 2212, 0)) (M' := yp_m23) [.inr (.inl 1), .inl x1, .inl 160] [] rfl (by decide +kernel) rfl ⟨rfl, rfl⟩ rfl rfl (hs23 (fun c1 => ?_) (fun c1 => ?_))
  · have c1 : 1 ≤ x1 ∧ x1 ≤ 160 ∧ x1 ≤ m 1 1 := c1
    show hxn xs n yp_m48 11 [(0, .inr (.inl 0)), (1, .inl x1)] [.inl 1] m Q
    refine hx_if .ne 16 (by decide +kernel) (fun c2 => ?_) (fun c2 => ?_)
    · have c2 : (1 : Int) ≠ 0 := c2
      exact hx_pick [0, 1] (h1 c1)
    · have c2 : (1 : Int) = 0 := by have h : ¬ ((1 : Int) ≠ 0) := c2; omega
      exfalso; omega
  · have c1 : ¬ (1 ≤ x1 ∧ x1 ≤ 160 ∧ x1 ≤ m 1 1) := c1
    show hxn xs n yp_m48 11 [(0, .inr (.inl 0)), (1, .inl x1)] [.inl 0] m Q
    refine hx_if .ne 16 (by decide +kernel) (fun c2 => ?_) (fun c2 => ?_)
    · have c2 : (0 : Int) ≠ 0 := c2
      exfalso; omega
    · have c2 : (0 : Int) = 0 := by have h : ¬ ((0 : Int) ≠ 0) := c2; omega
      refine hx_blk (npc := 15) (L' := [(0, .inr (.inl 0)), (1, .inl x1)]) (st' := [.inl (-1)]) (m' := m) [((14, .iconst (-1), 1, 0, 0, 0, 0), (0, 0, 0))] (by decide +kernel) rfl ?_
      exact hx_reti (by decide +kernel) (h2 c1)

/-- judged from 0 on -/
theorem ht70 {xs : List Int32} {n : Nat} {Q : hQ} {m : gx_M} {x1 : Int}
    (h1 : (1 ≤ x1 ∧ x1 ≤ 160 ∧ x1 ≤ m 1 1) → hxn xs n yp_m70 16 [(0, .inr (.inl 0)), (1, .inl x1)] [] m Q)
    (h2 : (¬ (1 ≤ x1 ∧ x1 ≤ 160 ∧ x1 ≤ m 1 1)) → Q (some (.inl (-1))) m) : hxn xs (n + 1) yp_m70 0 [(0, .inr (.inl 0)), (1, .inl x1)] [] m Q := by
  refine hx_blks (npc := 8) (L' := [(0, .inr (.inl 0)), (1, .inl x1)]) (st' := [.inl 160, .inl x1, .inr (.inl 1)]) (m' := m) ((0, .aload_n 0, 1, 0, 0, 0, 0), (0, 0, 0)) [((1, .getfield 10, 3, 9, 0, 2119, 0), (1, 0, 1)), ((4, .iload_n 1, 1, 0, 0, 0, 0), (0, 0, 0)), ((5, .sipush 160, 3, 0, 0, 0, 0), (0, 0, 0))] (by decide +kernel) rfl ?_
  refine hx_call (E := (8, .invokevirtual 124, 3, 23, 0, 2212, 0)) (M' := yp_m23) [.inr (.inl 1), .inl x1, .inl 160] [] rfl (by decide +kernel) rfl ⟨rfl, rfl⟩ rfl rfl (hs23 (fun c1 => ?_) (fun c1 => ?_))
  · have c1 : 1 ≤ x1 ∧ x1 ≤ 160 ∧ x1 ≤ m 1 1 := c1
    show hxn xs n yp_m70 11 [(0, .inr (.inl 0)), (1, .inl x1)] [.inl 1] m Q
    refine hx_if .ne 16 (by decide +kernel) (fun c2 => ?_) (fun c2 => ?_)
    · have c2 : (1 : Int) ≠ 0 := c2
      exact hx_pick [0, 1] (h1 c1)
    · have c2 : (1 : Int) = 0 := by have h : ¬ ((1 : Int) ≠ 0) := c2; omega
      exfalso; omega
  · have c1 : ¬ (1 ≤ x1 ∧ x1 ≤ 160 ∧ x1 ≤ m 1 1) := c1
    show hxn xs n yp_m70 11 [(0, .inr (.inl 0)), (1, .inl x1)] [.inl 0] m Q
    refine hx_if .ne 16 (by decide +kernel) (fun c2 => ?_) (fun c2 => ?_)
    · have c2 : (0 : Int) ≠ 0 := c2
      exfalso; omega
    · have c2 : (0 : Int) = 0 := by have h : ¬ ((0 : Int) ≠ 0) := c2; omega
      refine hx_blk (npc := 15) (L' := [(0, .inr (.inl 0)), (1, .inl x1)]) (st' := [.inl (-1)]) (m' := m) [((14, .iconst (-1), 1, 0, 0, 0, 0), (0, 0, 0))] (by decide +kernel) rfl ?_
      exact hx_reti (by decide +kernel) (h2 c1)

/-- sold from 0 on -/
theorem ht107 {xs : List Int32} {n : Nat} {Q : hQ} {m : gx_M} {x1 x2 x3 : Int}
    (h1 : (1 ≤ x1 ∧ x1 ≤ 6 ∧ x1 ≤ m 1 1) → hxn xs n yp_m107 15 [(0, .inr (.inl 0)), (1, .inl x1), (2, .inl x2), (3, .inl x3)] [] m Q)
    (h2 : (¬ (1 ≤ x1 ∧ x1 ≤ 6 ∧ x1 ≤ m 1 1)) → Q (some (.inl (-1))) m) : hxn xs (n + 1) yp_m107 0 [(0, .inr (.inl 0)), (1, .inl x1), (2, .inl x2), (3, .inl x3)] [] m Q := by
  refine hx_blks (npc := 7) (L' := [(0, .inr (.inl 0)), (1, .inl x1), (2, .inl x2), (3, .inl x3)]) (st' := [.inl 6, .inl x1, .inr (.inl 1)]) (m' := m) ((0, .aload_n 0, 1, 0, 0, 0, 0), (0, 0, 0)) [((1, .getfield 10, 3, 9, 0, 2119, 0), (1, 0, 1)), ((4, .iload_n 1, 1, 0, 0, 0, 0), (0, 0, 0)), ((5, .bipush 6, 2, 0, 0, 0, 0), (0, 0, 0))] (by decide +kernel) rfl ?_
  refine hx_call (E := (7, .invokevirtual 124, 3, 23, 0, 2212, 0)) (M' := yp_m23) [.inr (.inl 1), .inl x1, .inl 6] [] rfl (by decide +kernel) rfl ⟨rfl, rfl⟩ rfl rfl (hs23 (fun c1 => ?_) (fun c1 => ?_))
  · have c1 : 1 ≤ x1 ∧ x1 ≤ 6 ∧ x1 ≤ m 1 1 := c1
    show hxn xs n yp_m107 10 [(0, .inr (.inl 0)), (1, .inl x1), (2, .inl x2), (3, .inl x3)] [.inl 1] m Q
    refine hx_if .ne 15 (by decide +kernel) (fun c2 => ?_) (fun c2 => ?_)
    · have c2 : (1 : Int) ≠ 0 := c2
      exact hx_pick [0, 1, 2, 3] (h1 c1)
    · have c2 : (1 : Int) = 0 := by have h : ¬ ((1 : Int) ≠ 0) := c2; omega
      exfalso; omega
  · have c1 : ¬ (1 ≤ x1 ∧ x1 ≤ 6 ∧ x1 ≤ m 1 1) := c1
    show hxn xs n yp_m107 10 [(0, .inr (.inl 0)), (1, .inl x1), (2, .inl x2), (3, .inl x3)] [.inl 0] m Q
    refine hx_if .ne 15 (by decide +kernel) (fun c2 => ?_) (fun c2 => ?_)
    · have c2 : (0 : Int) ≠ 0 := c2
      exfalso; omega
    · have c2 : (0 : Int) = 0 := by have h : ¬ ((0 : Int) ≠ 0) := c2; omega
      refine hx_blk (npc := 14) (L' := [(0, .inr (.inl 0)), (1, .inl x1), (2, .inl x2), (3, .inl x3)]) (st' := [.inl (-1)]) (m' := m) [((13, .iconst (-1), 1, 0, 0, 0, 0), (0, 0, 0))] (by decide +kernel) rfl ?_
      exact hx_reti (by decide +kernel) (h2 c1)

/-- ring from 0 on -/
theorem ht120 {xs : List Int32} {n : Nat} {Q : hQ} {m : gx_M} {x1 x2 : Int}
    (h1 : (1 ≤ x1 ∧ x1 ≤ 8 ∧ x1 ≤ m 1 1) → hxn xs n yp_m120 15 [(0, .inr (.inl 0)), (1, .inl x1), (2, .inl x2)] [] m Q)
    (h2 : (¬ (1 ≤ x1 ∧ x1 ≤ 8 ∧ x1 ≤ m 1 1)) → Q (some (.inl (-1))) m) : hxn xs (n + 1) yp_m120 0 [(0, .inr (.inl 0)), (1, .inl x1), (2, .inl x2)] [] m Q := by
  refine hx_blks (npc := 7) (L' := [(0, .inr (.inl 0)), (1, .inl x1), (2, .inl x2)]) (st' := [.inl 8, .inl x1, .inr (.inl 1)]) (m' := m) ((0, .aload_n 0, 1, 0, 0, 0, 0), (0, 0, 0)) [((1, .getfield 10, 3, 9, 0, 2119, 0), (1, 0, 1)), ((4, .iload_n 1, 1, 0, 0, 0, 0), (0, 0, 0)), ((5, .bipush 8, 2, 0, 0, 0, 0), (0, 0, 0))] (by decide +kernel) rfl ?_
  refine hx_call (E := (7, .invokevirtual 124, 3, 23, 0, 2212, 0)) (M' := yp_m23) [.inr (.inl 1), .inl x1, .inl 8] [] rfl (by decide +kernel) rfl ⟨rfl, rfl⟩ rfl rfl (hs23 (fun c1 => ?_) (fun c1 => ?_))
  · have c1 : 1 ≤ x1 ∧ x1 ≤ 8 ∧ x1 ≤ m 1 1 := c1
    show hxn xs n yp_m120 10 [(0, .inr (.inl 0)), (1, .inl x1), (2, .inl x2)] [.inl 1] m Q
    refine hx_if .ne 15 (by decide +kernel) (fun c2 => ?_) (fun c2 => ?_)
    · have c2 : (1 : Int) ≠ 0 := c2
      exact hx_pick [0, 1, 2] (h1 c1)
    · have c2 : (1 : Int) = 0 := by have h : ¬ ((1 : Int) ≠ 0) := c2; omega
      exfalso; omega
  · have c1 : ¬ (1 ≤ x1 ∧ x1 ≤ 8 ∧ x1 ≤ m 1 1) := c1
    show hxn xs n yp_m120 10 [(0, .inr (.inl 0)), (1, .inl x1), (2, .inl x2)] [.inl 0] m Q
    refine hx_if .ne 15 (by decide +kernel) (fun c2 => ?_) (fun c2 => ?_)
    · have c2 : (0 : Int) ≠ 0 := c2
      exfalso; omega
    · have c2 : (0 : Int) = 0 := by have h : ¬ ((0 : Int) ≠ 0) := c2; omega
      refine hx_blk (npc := 14) (L' := [(0, .inr (.inl 0)), (1, .inl x1), (2, .inl x2)]) (st' := [.inl (-1)]) (m' := m) [((13, .iconst (-1), 1, 0, 0, 0, 0), (0, 0, 0))] (by decide +kernel) rfl ?_
      exact hx_reti (by decide +kernel) (h2 c1)

/-- inOrder from 0 on -/
theorem ht139 {xs : List Int32} {n : Nat} {Q : hQ} {m : gx_M} {x1 x2 : Int}
    (h1 : (1 ≤ x1 ∧ x1 ≤ 160 ∧ x1 ≤ m 1 1) → hxn xs n yp_m139 16 [(0, .inr (.inl 0)), (1, .inl x1), (2, .inl x2)] [] m Q)
    (h2 : (¬ (1 ≤ x1 ∧ x1 ≤ 160 ∧ x1 ≤ m 1 1)) → Q (some (.inl (-1))) m) : hxn xs (n + 1) yp_m139 0 [(0, .inr (.inl 0)), (1, .inl x1), (2, .inl x2)] [] m Q := by
  refine hx_blks (npc := 8) (L' := [(0, .inr (.inl 0)), (1, .inl x1), (2, .inl x2)]) (st' := [.inl 160, .inl x1, .inr (.inl 1)]) (m' := m) ((0, .aload_n 0, 1, 0, 0, 0, 0), (0, 0, 0)) [((1, .getfield 10, 3, 9, 0, 2119, 0), (1, 0, 1)), ((4, .iload_n 1, 1, 0, 0, 0, 0), (0, 0, 0)), ((5, .sipush 160, 3, 0, 0, 0, 0), (0, 0, 0))] (by decide +kernel) rfl ?_
  refine hx_call (E := (8, .invokevirtual 124, 3, 23, 0, 2212, 0)) (M' := yp_m23) [.inr (.inl 1), .inl x1, .inl 160] [] rfl (by decide +kernel) rfl ⟨rfl, rfl⟩ rfl rfl (hs23 (fun c1 => ?_) (fun c1 => ?_))
  · have c1 : 1 ≤ x1 ∧ x1 ≤ 160 ∧ x1 ≤ m 1 1 := c1
    show hxn xs n yp_m139 11 [(0, .inr (.inl 0)), (1, .inl x1), (2, .inl x2)] [.inl 1] m Q
    refine hx_if .ne 16 (by decide +kernel) (fun c2 => ?_) (fun c2 => ?_)
    · have c2 : (1 : Int) ≠ 0 := c2
      exact hx_pick [0, 1, 2] (h1 c1)
    · have c2 : (1 : Int) = 0 := by have h : ¬ ((1 : Int) ≠ 0) := c2; omega
      exfalso; omega
  · have c1 : ¬ (1 ≤ x1 ∧ x1 ≤ 160 ∧ x1 ≤ m 1 1) := c1
    show hxn xs n yp_m139 11 [(0, .inr (.inl 0)), (1, .inl x1), (2, .inl x2)] [.inl 0] m Q
    refine hx_if .ne 16 (by decide +kernel) (fun c2 => ?_) (fun c2 => ?_)
    · have c2 : (0 : Int) ≠ 0 := c2
      exfalso; omega
    · have c2 : (0 : Int) = 0 := by have h : ¬ ((0 : Int) ≠ 0) := c2; omega
      refine hx_blk (npc := 15) (L' := [(0, .inr (.inl 0)), (1, .inl x1), (2, .inl x2)]) (st' := [.inl (-1)]) (m' := m) [((14, .iconst (-1), 1, 0, 0, 0, 0), (0, 0, 0))] (by decide +kernel) rfl ?_
      exact hx_reti (by decide +kernel) (h2 c1)

/-- check from 0 on -/
theorem ht156 {xs : List Int32} {n : Nat} {Q : hQ} {m : gx_M} {x1 : Int}
    (h1 : (x1 < 0) → Q (some (.inl (-2))) m)
    (h2 : (0 ≤ x1) → (40 < x1) → Q (some (.inl (-2))) m)
    (h3 : (0 ≤ x1) → (x1 ≤ 40) → ((4 * x1) ≤ (m 1 1)) → hxn xs n yp_m156 26 [(0, .inr (.inl 0)), (1, .inl x1)] [] m Q)
    (h4 : (0 ≤ x1) → (x1 ≤ 40) → ((m 1 1) < (4 * x1)) → Q (some (.inl (-2))) m) : hxn xs (n + 1) yp_m156 0 [(0, .inr (.inl 0)), (1, .inl x1)] [] m Q := by
  refine hx_blks (npc := 1) (L' := [(0, .inr (.inl 0)), (1, .inl x1)]) (st' := [.inl x1]) (m' := m) ((0, .iload_n 1, 1, 0, 0, 0, 0), (0, 0, 0)) [] (by decide +kernel) rfl ?_
  refine hx_if .lt 23 (by decide +kernel) (fun c1 => ?_) (fun c1 => ?_)
  · have c1 : x1 < 0 := c1
    refine hx_blk (npc := 25) (L' := [(0, .inr (.inl 0)), (1, .inl x1)]) (st' := [.inl (-2)]) (m' := m) [((23, .bipush (-2), 2, 0, 0, 0, 0), (0, 0, 0))] (by decide +kernel) rfl ?_
    exact hx_reti (by decide +kernel) (h1 c1)
  · have c1 : 0 ≤ x1 := by have h : ¬ (x1 < 0) := c1; omega
    refine hx_blk (npc := 7) (L' := [(0, .inr (.inl 0)), (1, .inl x1)]) (st' := [.inl 40, .inl x1]) (m' := m) [((4, .iload_n 1, 1, 0, 0, 0, 0), (0, 0, 0)), ((5, .bipush 40, 2, 0, 0, 0, 0), (0, 0, 0))] (by decide +kernel) rfl ?_
    refine hx_cmp .gt 23 (by decide +kernel) (fun c2 => ?_) (fun c2 => ?_)
    · have c2 : 40 < x1 := c2
      refine hx_blk (npc := 25) (L' := [(0, .inr (.inl 0)), (1, .inl x1)]) (st' := [.inl (-2)]) (m' := m) [((23, .bipush (-2), 2, 0, 0, 0, 0), (0, 0, 0))] (by decide +kernel) rfl ?_
      exact hx_reti (by decide +kernel) (h2 c1 c2)
    · have c2 : x1 ≤ 40 := by have h : ¬ (40 < x1) := c2; omega
      have e1 : gx_w (4 * x1) = 4 * x1 := gx_w_id (by omega) (by omega)
      refine hx_blk (npc := 20) (L' := [(0, .inr (.inl 0)), (1, .inl x1)]) (st' := [.inl (m 1 1), .inl (gx_w (4 * x1))]) (m' := m) [((10, .iconst 4, 1, 0, 0, 0, 0), (0, 0, 0)), ((11, .iload_n 1, 1, 0, 0, 0, 0), (0, 0, 0)), ((12, .imul, 1, 0, 0, 0, 0), (0, 0, 0)), ((13, .aload_n 0, 1, 0, 0, 0, 0), (0, 0, 0)), ((14, .getfield 10, 3, 9, 0, 2119, 0), (1, 0, 1)), ((17, .getfield 117, 3, 0, 1, 1035, 0), (0, 1, 0))] (by decide +kernel) rfl ?_
      rw [e1]
      refine hx_cmp .le 26 (by decide +kernel) (fun c3 => ?_) (fun c3 => ?_)
      · have c3 : (4 * x1) ≤ (m 1 1) := c3
        exact hx_pick [0, 1] (h3 c1 c2 c3)
      · have c3 : (m 1 1) < (4 * x1) := by have h : ¬ ((4 * x1) ≤ (m 1 1)) := c3; omega
        refine hx_blk (npc := 25) (L' := [(0, .inr (.inl 0)), (1, .inl x1)]) (st' := [.inl (-2)]) (m' := m) [((23, .bipush (-2), 2, 0, 0, 0, 0), (0, 0, 0))] (by decide +kernel) rfl ?_
        exact hx_reti (by decide +kernel) (h4 c1 c2 c3)

/-- deals from 0 on -/
theorem ht190 {xs : List Int32} {n : Nat} {Q : hQ} {m : gx_M} {x1 : Int}
    (h1 : (1 ≤ x1 ∧ x1 ≤ 160) → (x1 ≤ (m 86 4)) → hxn xs n yp_m190 21 [(0, .inr (.inl 86)), (1, .inl x1)] [] m Q)
    (h2 : (1 ≤ x1 ∧ x1 ≤ 160) → ((m 86 4) < x1) → Q (some (.inl (-1))) m)
    (h3 : (¬ (1 ≤ x1 ∧ x1 ≤ 160)) → Q (some (.inl (-1))) m) : hxn xs (n + 1) yp_m190 0 [(0, .inr (.inl 86)), (1, .inl x1)] [] m Q := by
  refine hx_blks (npc := 5) (L' := [(0, .inr (.inl 86)), (1, .inl x1)]) (st' := [.inl 160, .inl 1, .inl x1]) (m' := m) ((0, .iload_n 1, 1, 0, 0, 0, 0), (0, 0, 0)) [((1, .iconst 1, 1, 0, 0, 0, 0), (0, 0, 0)), ((2, .sipush 160, 3, 0, 0, 0, 0), (0, 0, 0))] (by decide +kernel) rfl ?_
  refine hx_call (E := (5, .invokestatic 108, 3, 162, 0, 6023, 0)) (M' := yp_m162) [.inl x1, .inl 1, .inl 160] [] rfl (by decide +kernel) rfl ⟨rfl, rfl⟩ rfl rfl (hs162 (fun c1 => ?_) (fun c1 => ?_))
  · have c1 : 1 ≤ x1 ∧ x1 ≤ 160 := c1
    show hxn xs n yp_m190 8 [(0, .inr (.inl 86)), (1, .inl x1)] [.inl 1] m Q
    refine hx_if .eq 19 (by decide +kernel) (fun c2 => ?_) (fun c2 => ?_)
    · have c2 : (1 : Int) = 0 := c2
      exfalso; omega
    · have c2 : (1 : Int) ≠ 0 := c2
      refine hx_blk (npc := 16) (L' := [(0, .inr (.inl 86)), (1, .inl x1)]) (st' := [.inl (m 86 4), .inl x1]) (m' := m) [((11, .iload_n 1, 1, 0, 0, 0, 0), (0, 0, 0)), ((12, .aload_n 0, 1, 0, 0, 0, 0), (0, 0, 0)), ((13, .getfield 124, 3, 10, 4, 5117, 0), (0, 86, 0))] (by decide +kernel) rfl ?_
      refine hx_cmp .le 21 (by decide +kernel) (fun c2 => ?_) (fun c2 => ?_)
      · have c2 : x1 ≤ (m 86 4) := c2
        exact hx_pick [0, 1] (h1 c1 c2)
      · have c2 : (m 86 4) < x1 := by have h : ¬ (x1 ≤ (m 86 4)) := c2; omega
        refine hx_blk (npc := 20) (L' := [(0, .inr (.inl 86)), (1, .inl x1)]) (st' := [.inl (-1)]) (m' := m) [((19, .iconst (-1), 1, 0, 0, 0, 0), (0, 0, 0))] (by decide +kernel) rfl ?_
        exact hx_reti (by decide +kernel) (h2 c1 c2)
  · have c1 : ¬ (1 ≤ x1 ∧ x1 ≤ 160) := c1
    show hxn xs n yp_m190 8 [(0, .inr (.inl 86)), (1, .inl x1)] [.inl 0] m Q
    refine hx_if .eq 19 (by decide +kernel) (fun c2 => ?_) (fun c2 => ?_)
    · have c2 : (0 : Int) = 0 := c2
      refine hx_blk (npc := 20) (L' := [(0, .inr (.inl 86)), (1, .inl x1)]) (st' := [.inl (-1)]) (m' := m) [((19, .iconst (-1), 1, 0, 0, 0, 0), (0, 0, 0))] (by decide +kernel) rfl ?_
      exact hx_reti (by decide +kernel) (h3 c1)
    · have c2 : (0 : Int) ≠ 0 := c2
      exfalso; omega

/-- judged from 0 on -/
theorem ht211 {xs : List Int32} {n : Nat} {Q : hQ} {m : gx_M} {x1 : Int}
    (h1 : (1 ≤ x1 ∧ x1 ≤ 160) → (x1 ≤ (m 86 4)) → hxn xs n yp_m211 21 [(0, .inr (.inl 86)), (1, .inl x1)] [] m Q)
    (h2 : (1 ≤ x1 ∧ x1 ≤ 160) → ((m 86 4) < x1) → Q (some (.inl (-1))) m)
    (h3 : (¬ (1 ≤ x1 ∧ x1 ≤ 160)) → Q (some (.inl (-1))) m) : hxn xs (n + 1) yp_m211 0 [(0, .inr (.inl 86)), (1, .inl x1)] [] m Q := by
  refine hx_blks (npc := 5) (L' := [(0, .inr (.inl 86)), (1, .inl x1)]) (st' := [.inl 160, .inl 1, .inl x1]) (m' := m) ((0, .iload_n 1, 1, 0, 0, 0, 0), (0, 0, 0)) [((1, .iconst 1, 1, 0, 0, 0, 0), (0, 0, 0)), ((2, .sipush 160, 3, 0, 0, 0, 0), (0, 0, 0))] (by decide +kernel) rfl ?_
  refine hx_call (E := (5, .invokestatic 108, 3, 162, 0, 6023, 0)) (M' := yp_m162) [.inl x1, .inl 1, .inl 160] [] rfl (by decide +kernel) rfl ⟨rfl, rfl⟩ rfl rfl (hs162 (fun c1 => ?_) (fun c1 => ?_))
  · have c1 : 1 ≤ x1 ∧ x1 ≤ 160 := c1
    show hxn xs n yp_m211 8 [(0, .inr (.inl 86)), (1, .inl x1)] [.inl 1] m Q
    refine hx_if .eq 19 (by decide +kernel) (fun c2 => ?_) (fun c2 => ?_)
    · have c2 : (1 : Int) = 0 := c2
      exfalso; omega
    · have c2 : (1 : Int) ≠ 0 := c2
      refine hx_blk (npc := 16) (L' := [(0, .inr (.inl 86)), (1, .inl x1)]) (st' := [.inl (m 86 4), .inl x1]) (m' := m) [((11, .iload_n 1, 1, 0, 0, 0, 0), (0, 0, 0)), ((12, .aload_n 0, 1, 0, 0, 0, 0), (0, 0, 0)), ((13, .getfield 124, 3, 10, 4, 5117, 0), (0, 86, 0))] (by decide +kernel) rfl ?_
      refine hx_cmp .le 21 (by decide +kernel) (fun c2 => ?_) (fun c2 => ?_)
      · have c2 : x1 ≤ (m 86 4) := c2
        exact hx_pick [0, 1] (h1 c1 c2)
      · have c2 : (m 86 4) < x1 := by have h : ¬ (x1 ≤ (m 86 4)) := c2; omega
        refine hx_blk (npc := 20) (L' := [(0, .inr (.inl 86)), (1, .inl x1)]) (st' := [.inl (-1)]) (m' := m) [((19, .iconst (-1), 1, 0, 0, 0, 0), (0, 0, 0))] (by decide +kernel) rfl ?_
        exact hx_reti (by decide +kernel) (h2 c1 c2)
  · have c1 : ¬ (1 ≤ x1 ∧ x1 ≤ 160) := c1
    show hxn xs n yp_m211 8 [(0, .inr (.inl 86)), (1, .inl x1)] [.inl 0] m Q
    refine hx_if .eq 19 (by decide +kernel) (fun c2 => ?_) (fun c2 => ?_)
    · have c2 : (0 : Int) = 0 := c2
      refine hx_blk (npc := 20) (L' := [(0, .inr (.inl 86)), (1, .inl x1)]) (st' := [.inl (-1)]) (m' := m) [((19, .iconst (-1), 1, 0, 0, 0, 0), (0, 0, 0))] (by decide +kernel) rfl ?_
      exact hx_reti (by decide +kernel) (h3 c1)
    · have c2 : (0 : Int) ≠ 0 := c2
      exfalso; omega

/-- ring from 0 on -/
theorem ht248 {xs : List Int32} {n : Nat} {Q : hQ} {m : gx_M} {x1 x2 : Int}
    (h1 : (1 ≤ x1 ∧ x1 ≤ 8) → (x1 ≤ (m 86 4)) → hxn xs n yp_m248 20 [(0, .inr (.inl 86)), (1, .inl x1), (2, .inl x2)] [] m Q)
    (h2 : (1 ≤ x1 ∧ x1 ≤ 8) → ((m 86 4) < x1) → Q (some (.inl (-1))) m)
    (h3 : (¬ (1 ≤ x1 ∧ x1 ≤ 8)) → Q (some (.inl (-1))) m) : hxn xs (n + 1) yp_m248 0 [(0, .inr (.inl 86)), (1, .inl x1), (2, .inl x2)] [] m Q := by
  refine hx_blks (npc := 4) (L' := [(0, .inr (.inl 86)), (1, .inl x1), (2, .inl x2)]) (st' := [.inl 8, .inl 1, .inl x1]) (m' := m) ((0, .iload_n 1, 1, 0, 0, 0, 0), (0, 0, 0)) [((1, .iconst 1, 1, 0, 0, 0, 0), (0, 0, 0)), ((2, .bipush 8, 2, 0, 0, 0, 0), (0, 0, 0))] (by decide +kernel) rfl ?_
  refine hx_call (E := (4, .invokestatic 108, 3, 162, 0, 6023, 0)) (M' := yp_m162) [.inl x1, .inl 1, .inl 8] [] rfl (by decide +kernel) rfl ⟨rfl, rfl⟩ rfl rfl (hs162 (fun c1 => ?_) (fun c1 => ?_))
  · have c1 : 1 ≤ x1 ∧ x1 ≤ 8 := c1
    show hxn xs n yp_m248 7 [(0, .inr (.inl 86)), (1, .inl x1), (2, .inl x2)] [.inl 1] m Q
    refine hx_if .eq 18 (by decide +kernel) (fun c2 => ?_) (fun c2 => ?_)
    · have c2 : (1 : Int) = 0 := c2
      exfalso; omega
    · have c2 : (1 : Int) ≠ 0 := c2
      refine hx_blk (npc := 15) (L' := [(0, .inr (.inl 86)), (1, .inl x1), (2, .inl x2)]) (st' := [.inl (m 86 4), .inl x1]) (m' := m) [((10, .iload_n 1, 1, 0, 0, 0, 0), (0, 0, 0)), ((11, .aload_n 0, 1, 0, 0, 0, 0), (0, 0, 0)), ((12, .getfield 124, 3, 10, 4, 5117, 0), (0, 86, 0))] (by decide +kernel) rfl ?_
      refine hx_cmp .le 20 (by decide +kernel) (fun c2 => ?_) (fun c2 => ?_)
      · have c2 : x1 ≤ (m 86 4) := c2
        exact hx_pick [0, 1, 2] (h1 c1 c2)
      · have c2 : (m 86 4) < x1 := by have h : ¬ (x1 ≤ (m 86 4)) := c2; omega
        refine hx_blk (npc := 19) (L' := [(0, .inr (.inl 86)), (1, .inl x1), (2, .inl x2)]) (st' := [.inl (-1)]) (m' := m) [((18, .iconst (-1), 1, 0, 0, 0, 0), (0, 0, 0))] (by decide +kernel) rfl ?_
        exact hx_reti (by decide +kernel) (h2 c1 c2)
  · have c1 : ¬ (1 ≤ x1 ∧ x1 ≤ 8) := c1
    show hxn xs n yp_m248 7 [(0, .inr (.inl 86)), (1, .inl x1), (2, .inl x2)] [.inl 0] m Q
    refine hx_if .eq 18 (by decide +kernel) (fun c2 => ?_) (fun c2 => ?_)
    · have c2 : (0 : Int) = 0 := c2
      refine hx_blk (npc := 19) (L' := [(0, .inr (.inl 86)), (1, .inl x1), (2, .inl x2)]) (st' := [.inl (-1)]) (m' := m) [((18, .iconst (-1), 1, 0, 0, 0, 0), (0, 0, 0))] (by decide +kernel) rfl ?_
      exact hx_reti (by decide +kernel) (h3 c1)
    · have c2 : (0 : Int) ≠ 0 := c2
      exfalso; omega

/-- check from 0 on -/
theorem ht272 {xs : List Int32} {n : Nat} {Q : hQ} {m : gx_M} {x1 : Int}
    (h1 : (0 ≤ x1 ∧ x1 ≤ 40) → (x1 ≤ (gx_w (Int.tdiv (m 86 4) 4))) → hxn xs n yp_m272 23 [(0, .inr (.inl 86)), (1, .inl x1)] [] m Q)
    (h2 : (0 ≤ x1 ∧ x1 ≤ 40) → ((gx_w (Int.tdiv (m 86 4) 4)) < x1) → Q (some (.inl (-2))) m)
    (h3 : (¬ (0 ≤ x1 ∧ x1 ≤ 40)) → Q (some (.inl (-2))) m) : hxn xs (n + 1) yp_m272 0 [(0, .inr (.inl 86)), (1, .inl x1)] [] m Q := by
  refine hx_blks (npc := 4) (L' := [(0, .inr (.inl 86)), (1, .inl x1)]) (st' := [.inl 40, .inl 0, .inl x1]) (m' := m) ((0, .iload_n 1, 1, 0, 0, 0, 0), (0, 0, 0)) [((1, .iconst 0, 1, 0, 0, 0, 0), (0, 0, 0)), ((2, .bipush 40, 2, 0, 0, 0, 0), (0, 0, 0))] (by decide +kernel) rfl ?_
  refine hx_call (E := (4, .invokestatic 108, 3, 162, 0, 6023, 0)) (M' := yp_m162) [.inl x1, .inl 0, .inl 40] [] rfl (by decide +kernel) rfl ⟨rfl, rfl⟩ rfl rfl (hs162 (fun c1 => ?_) (fun c1 => ?_))
  · have c1 : 0 ≤ x1 ∧ x1 ≤ 40 := c1
    show hxn xs n yp_m272 7 [(0, .inr (.inl 86)), (1, .inl x1)] [.inl 1] m Q
    refine hx_if .eq 20 (by decide +kernel) (fun c2 => ?_) (fun c2 => ?_)
    · have c2 : (1 : Int) = 0 := c2
      exfalso; omega
    · have c2 : (1 : Int) ≠ 0 := c2
      refine hx_blk (npc := 17) (L' := [(0, .inr (.inl 86)), (1, .inl x1)]) (st' := [.inl (gx_w (Int.tdiv (m 86 4) 4)), .inl x1]) (m' := m) [((10, .iload_n 1, 1, 0, 0, 0, 0), (0, 0, 0)), ((11, .aload_n 0, 1, 0, 0, 0, 0), (0, 0, 0)), ((12, .getfield 124, 3, 10, 4, 5117, 0), (0, 86, 0)), ((15, .iconst 4, 1, 0, 0, 0, 0), (0, 0, 0)), ((16, .idiv, 1, 0, 0, 0, 0), (0, 0, 0))] (by decide +kernel) rfl ?_
      refine hx_cmp .le 23 (by decide +kernel) (fun c2 => ?_) (fun c2 => ?_)
      · have c2 : x1 ≤ (gx_w (Int.tdiv (m 86 4) 4)) := c2
        exact hx_pick [0, 1] (h1 c1 c2)
      · have c2 : (gx_w (Int.tdiv (m 86 4) 4)) < x1 := by have h : ¬ (x1 ≤ (gx_w (Int.tdiv (m 86 4) 4))) := c2; omega
        refine hx_blk (npc := 22) (L' := [(0, .inr (.inl 86)), (1, .inl x1)]) (st' := [.inl (-2)]) (m' := m) [((20, .bipush (-2), 2, 0, 0, 0, 0), (0, 0, 0))] (by decide +kernel) rfl ?_
        exact hx_reti (by decide +kernel) (h2 c1 c2)
  · have c1 : ¬ (0 ≤ x1 ∧ x1 ≤ 40) := c1
    show hxn xs n yp_m272 7 [(0, .inr (.inl 86)), (1, .inl x1)] [.inl 0] m Q
    refine hx_if .eq 20 (by decide +kernel) (fun c2 => ?_) (fun c2 => ?_)
    · have c2 : (0 : Int) = 0 := c2
      refine hx_blk (npc := 22) (L' := [(0, .inr (.inl 86)), (1, .inl x1)]) (st' := [.inl (-2)]) (m' := m) [((20, .bipush (-2), 2, 0, 0, 0, 0), (0, 0, 0))] (by decide +kernel) rfl ?_
      exact hx_reti (by decide +kernel) (h3 c1)
    · have c2 : (0 : Int) ≠ 0 := c2
      exfalso; omega

/-- sold from 0 on -/
theorem ht242 {xs : List Int32} {n : Nat} {Q : hQ} {m : gx_M} {x1 x2 x3 : Int}
    (h1 : (1 ≤ x1 ∧ x1 ≤ 6) → (x1 ≤ (m 86 4)) → hxn xs n yp_m242 20 [(0, .inr (.inl 86)), (1, .inl x1), (2, .inl x2), (3, .inl x3)] [] m Q)
    (h2 : (1 ≤ x1 ∧ x1 ≤ 6) → ((m 86 4) < x1) → Q (some (.inl (-1))) m)
    (h3 : (¬ (1 ≤ x1 ∧ x1 ≤ 6)) → Q (some (.inl (-1))) m) : hxn xs (n + 1) yp_m242 0 [(0, .inr (.inl 86)), (1, .inl x1), (2, .inl x2), (3, .inl x3)] [] m Q := by
  refine hx_blks (npc := 4) (L' := [(0, .inr (.inl 86)), (1, .inl x1), (2, .inl x2), (3, .inl x3)]) (st' := [.inl 6, .inl 1, .inl x1]) (m' := m) ((0, .iload_n 1, 1, 0, 0, 0, 0), (0, 0, 0)) [((1, .iconst 1, 1, 0, 0, 0, 0), (0, 0, 0)), ((2, .bipush 6, 2, 0, 0, 0, 0), (0, 0, 0))] (by decide +kernel) rfl ?_
  refine hx_call (E := (4, .invokestatic 108, 3, 162, 0, 6023, 0)) (M' := yp_m162) [.inl x1, .inl 1, .inl 6] [] rfl (by decide +kernel) rfl ⟨rfl, rfl⟩ rfl rfl (hs162 (fun c1 => ?_) (fun c1 => ?_))
  · have c1 : 1 ≤ x1 ∧ x1 ≤ 6 := c1
    show hxn xs n yp_m242 7 [(0, .inr (.inl 86)), (1, .inl x1), (2, .inl x2), (3, .inl x3)] [.inl 1] m Q
    refine hx_if .eq 18 (by decide +kernel) (fun c2 => ?_) (fun c2 => ?_)
    · have c2 : (1 : Int) = 0 := c2
      exfalso; omega
    · have c2 : (1 : Int) ≠ 0 := c2
      refine hx_blk (npc := 15) (L' := [(0, .inr (.inl 86)), (1, .inl x1), (2, .inl x2), (3, .inl x3)]) (st' := [.inl (m 86 4), .inl x1]) (m' := m) [((10, .iload_n 1, 1, 0, 0, 0, 0), (0, 0, 0)), ((11, .aload_n 0, 1, 0, 0, 0, 0), (0, 0, 0)), ((12, .getfield 124, 3, 10, 4, 5117, 0), (0, 86, 0))] (by decide +kernel) rfl ?_
      refine hx_cmp .le 20 (by decide +kernel) (fun c2 => ?_) (fun c2 => ?_)
      · have c2 : x1 ≤ (m 86 4) := c2
        exact hx_pick [0, 1, 2, 3] (h1 c1 c2)
      · have c2 : (m 86 4) < x1 := by have h : ¬ (x1 ≤ (m 86 4)) := c2; omega
        refine hx_blk (npc := 19) (L' := [(0, .inr (.inl 86)), (1, .inl x1), (2, .inl x2), (3, .inl x3)]) (st' := [.inl (-1)]) (m' := m) [((18, .iconst (-1), 1, 0, 0, 0, 0), (0, 0, 0))] (by decide +kernel) rfl ?_
        exact hx_reti (by decide +kernel) (h2 c1 c2)
  · have c1 : ¬ (1 ≤ x1 ∧ x1 ≤ 6) := c1
    show hxn xs n yp_m242 7 [(0, .inr (.inl 86)), (1, .inl x1), (2, .inl x2), (3, .inl x3)] [.inl 0] m Q
    refine hx_if .eq 18 (by decide +kernel) (fun c2 => ?_) (fun c2 => ?_)
    · have c2 : (0 : Int) = 0 := c2
      refine hx_blk (npc := 19) (L' := [(0, .inr (.inl 86)), (1, .inl x1), (2, .inl x2), (3, .inl x3)]) (st' := [.inl (-1)]) (m' := m) [((18, .iconst (-1), 1, 0, 0, 0, 0), (0, 0, 0))] (by decide +kernel) rfl ?_
      exact hx_reti (by decide +kernel) (h3 c1)
    · have c2 : (0 : Int) ≠ 0 := c2
      exfalso; omega

/-- inOrder from 0 on -/
theorem ht213 {xs : List Int32} {n : Nat} {Q : hQ} {m : gx_M} {x1 x2 : Int}
    (h1 : (1 ≤ x1 ∧ x1 ≤ 160) → (x1 ≤ (m 86 4)) → hxn xs n yp_m213 21 [(0, .inr (.inl 86)), (1, .inl x1), (2, .inl x2)] [] m Q)
    (h2 : (1 ≤ x1 ∧ x1 ≤ 160) → ((m 86 4) < x1) → Q (some (.inl (-1))) m)
    (h3 : (¬ (1 ≤ x1 ∧ x1 ≤ 160)) → Q (some (.inl (-1))) m) : hxn xs (n + 1) yp_m213 0 [(0, .inr (.inl 86)), (1, .inl x1), (2, .inl x2)] [] m Q := by
  refine hx_blks (npc := 5) (L' := [(0, .inr (.inl 86)), (1, .inl x1), (2, .inl x2)]) (st' := [.inl 160, .inl 1, .inl x1]) (m' := m) ((0, .iload_n 1, 1, 0, 0, 0, 0), (0, 0, 0)) [((1, .iconst 1, 1, 0, 0, 0, 0), (0, 0, 0)), ((2, .sipush 160, 3, 0, 0, 0, 0), (0, 0, 0))] (by decide +kernel) rfl ?_
  refine hx_call (E := (5, .invokestatic 108, 3, 162, 0, 6023, 0)) (M' := yp_m162) [.inl x1, .inl 1, .inl 160] [] rfl (by decide +kernel) rfl ⟨rfl, rfl⟩ rfl rfl (hs162 (fun c1 => ?_) (fun c1 => ?_))
  · have c1 : 1 ≤ x1 ∧ x1 ≤ 160 := c1
    show hxn xs n yp_m213 8 [(0, .inr (.inl 86)), (1, .inl x1), (2, .inl x2)] [.inl 1] m Q
    refine hx_if .eq 19 (by decide +kernel) (fun c2 => ?_) (fun c2 => ?_)
    · have c2 : (1 : Int) = 0 := c2
      exfalso; omega
    · have c2 : (1 : Int) ≠ 0 := c2
      refine hx_blk (npc := 16) (L' := [(0, .inr (.inl 86)), (1, .inl x1), (2, .inl x2)]) (st' := [.inl (m 86 4), .inl x1]) (m' := m) [((11, .iload_n 1, 1, 0, 0, 0, 0), (0, 0, 0)), ((12, .aload_n 0, 1, 0, 0, 0, 0), (0, 0, 0)), ((13, .getfield 124, 3, 10, 4, 5117, 0), (0, 86, 0))] (by decide +kernel) rfl ?_
      refine hx_cmp .le 21 (by decide +kernel) (fun c2 => ?_) (fun c2 => ?_)
      · have c2 : x1 ≤ (m 86 4) := c2
        exact hx_pick [0, 1, 2] (h1 c1 c2)
      · have c2 : (m 86 4) < x1 := by have h : ¬ (x1 ≤ (m 86 4)) := c2; omega
        refine hx_blk (npc := 20) (L' := [(0, .inr (.inl 86)), (1, .inl x1), (2, .inl x2)]) (st' := [.inl (-1)]) (m' := m) [((19, .iconst (-1), 1, 0, 0, 0, 0), (0, 0, 0))] (by decide +kernel) rfl ?_
        exact hx_reti (by decide +kernel) (h2 c1 c2)
  · have c1 : ¬ (1 ≤ x1 ∧ x1 ≤ 160) := c1
    show hxn xs n yp_m213 8 [(0, .inr (.inl 86)), (1, .inl x1), (2, .inl x2)] [.inl 0] m Q
    refine hx_if .eq 19 (by decide +kernel) (fun c2 => ?_) (fun c2 => ?_)
    · have c2 : (0 : Int) = 0 := c2
      refine hx_blk (npc := 20) (L' := [(0, .inr (.inl 86)), (1, .inl x1), (2, .inl x2)]) (st' := [.inl (-1)]) (m' := m) [((19, .iconst (-1), 1, 0, 0, 0, 0), (0, 0, 0))] (by decide +kernel) rfl ?_
      exact hx_reti (by decide +kernel) (h3 c1)
    · have c2 : (0 : Int) ≠ 0 := c2
      exfalso; omega

/-- feed from 0 on -/
theorem hr20_0 {xs : List Int32} {n : Nat} {Q : hQ} {m : gx_M} {x1 x2 x3 x4 x5 : Int}
    (h1 : ((gx_w ((m 1 1) + 20)) ≤ 260) → hxn xs n yp_m21 0 [(0, .inr (.inl 1)), (1, .inl x1)] [] m (fun r m' => hxn xs n yp_m20 26 [(0, .inr (.inl 0)), (2, .inl x2), (3, .inl x3), (4, .inl x4), (5, .inl x5)] (hrs r ++ []) m' Q))
    (h2 : (260 < (gx_w ((m 1 1) + 20))) → Q (some (.inl (-1))) m) : hxn xs (n + 1) yp_m20 0 [(0, .inr (.inl 0)), (1, .inl x1), (2, .inl x2), (3, .inl x3), (4, .inl x4), (5, .inl x5)] [] m Q := by
  refine hx_blks (npc := 13) (L' := [(0, .inr (.inl 0)), (1, .inl x1), (2, .inl x2), (3, .inl x3), (4, .inl x4), (5, .inl x5)]) (st' := [.inl 260, .inl (gx_w ((m 1 1) + 20))]) (m' := m) ((0, .aload_n 0, 1, 0, 0, 0, 0), (0, 0, 0)) [((1, .getfield 10, 3, 9, 0, 2119, 0), (1, 0, 1)), ((4, .getfield 117, 3, 0, 1, 1035, 0), (0, 1, 0)), ((7, .bipush 20, 2, 0, 0, 0, 0), (0, 0, 0)), ((9, .iadd, 1, 0, 0, 0, 0), (0, 0, 0)), ((10, .sipush 260, 3, 0, 0, 0, 0), (0, 0, 0))] (by decide +kernel) rfl ?_
  refine hx_cmp .le 18 (by decide +kernel) (fun c1 => ?_) (fun c1 => ?_)
  · have c1 : (gx_w ((m 1 1) + 20)) ≤ 260 := c1
    refine hx_blk (npc := 23) (L' := [(0, .inr (.inl 0)), (1, .inl x1), (2, .inl x2), (3, .inl x3), (4, .inl x4), (5, .inl x5)]) (st' := [.inl x1, .inr (.inl 1)]) (m' := m) [((18, .aload_n 0, 1, 0, 0, 0, 0), (0, 0, 0)), ((19, .getfield 10, 3, 9, 0, 2119, 0), (1, 0, 1)), ((22, .iload_n 1, 1, 0, 0, 0, 0), (0, 0, 0))] (by decide +kernel) rfl ?_
    exact hx_call (E := (23, .invokevirtual 120, 3, 21, 0, 2204, 0)) (M' := yp_m21) [.inr (.inl 1), .inl x1] [] rfl (by decide +kernel) rfl ⟨rfl, rfl⟩ rfl rfl (hx_mono (h1 c1) (fun r m' h' => hx_pick [0, 2, 3, 4, 5] h'))
  · have c1 : 260 < (gx_w ((m 1 1) + 20)) := by have h : ¬ ((gx_w ((m 1 1) + 20)) ≤ 260) := c1; omega
    refine hx_blk (npc := 17) (L' := [(0, .inr (.inl 0)), (1, .inl x1), (2, .inl x2), (3, .inl x3), (4, .inl x4), (5, .inl x5)]) (st' := [.inl (-1)]) (m' := m) [((16, .iconst (-1), 1, 0, 0, 0, 0), (0, 0, 0))] (by decide +kernel) rfl ?_
    exact hx_reti (by decide +kernel) (h2 c1)

/-- feed from 26 on -/
theorem hr20_26 {xs : List Int32} {n : Nat} {Q : hQ} {m : gx_M} {x2 x3 x4 x5 : Int}
    (h1 : hxn xs n yp_m21 0 [(0, .inr (.inl 1)), (1, .inl x2)] [] m (fun r m' => hxn xs n yp_m20 34 [(0, .inr (.inl 0)), (3, .inl x3), (4, .inl x4), (5, .inl x5)] (hrs r ++ []) m' Q)) : hxn xs (n + 1) yp_m20 26 [(0, .inr (.inl 0)), (2, .inl x2), (3, .inl x3), (4, .inl x4), (5, .inl x5)] [] m Q := by
  refine hx_blks (npc := 31) (L' := [(0, .inr (.inl 0)), (2, .inl x2), (3, .inl x3), (4, .inl x4), (5, .inl x5)]) (st' := [.inl x2, .inr (.inl 1)]) (m' := m) ((26, .aload_n 0, 1, 0, 0, 0, 0), (0, 0, 0)) [((27, .getfield 10, 3, 9, 0, 2119, 0), (1, 0, 1)), ((30, .iload_n 2, 1, 0, 0, 0, 0), (0, 0, 0))] (by decide +kernel) rfl ?_
  exact hx_call (E := (31, .invokevirtual 120, 3, 21, 0, 2204, 0)) (M' := yp_m21) [.inr (.inl 1), .inl x2] [] rfl (by decide +kernel) rfl ⟨rfl, rfl⟩ rfl rfl (hx_mono h1 (fun r m' h' => hx_pick [0, 3, 4, 5] h'))

/-- feed from 34 on -/
theorem hr20_34 {xs : List Int32} {n : Nat} {Q : hQ} {m : gx_M} {x3 x4 x5 : Int}
    (h1 : hxn xs n yp_m21 0 [(0, .inr (.inl 1)), (1, .inl x3)] [] m (fun r m' => hxn xs n yp_m20 42 [(0, .inr (.inl 0)), (4, .inl x4), (5, .inl x5)] (hrs r ++ []) m' Q)) : hxn xs (n + 1) yp_m20 34 [(0, .inr (.inl 0)), (3, .inl x3), (4, .inl x4), (5, .inl x5)] [] m Q := by
  refine hx_blks (npc := 39) (L' := [(0, .inr (.inl 0)), (3, .inl x3), (4, .inl x4), (5, .inl x5)]) (st' := [.inl x3, .inr (.inl 1)]) (m' := m) ((34, .aload_n 0, 1, 0, 0, 0, 0), (0, 0, 0)) [((35, .getfield 10, 3, 9, 0, 2119, 0), (1, 0, 1)), ((38, .iload_n 3, 1, 0, 0, 0, 0), (0, 0, 0))] (by decide +kernel) rfl ?_
  exact hx_call (E := (39, .invokevirtual 120, 3, 21, 0, 2204, 0)) (M' := yp_m21) [.inr (.inl 1), .inl x3] [] rfl (by decide +kernel) rfl ⟨rfl, rfl⟩ rfl rfl (hx_mono h1 (fun r m' h' => hx_pick [0, 4, 5] h'))

/-- feed from 42 on -/
theorem hr20_42 {xs : List Int32} {n : Nat} {Q : hQ} {m : gx_M} {x4 x5 : Int}
    (h1 : hxn xs n yp_m21 0 [(0, .inr (.inl 1)), (1, .inl x4)] [] m (fun r m' => hxn xs n yp_m20 51 [(0, .inr (.inl 0)), (5, .inl x5)] (hrs r ++ []) m' Q)) : hxn xs (n + 1) yp_m20 42 [(0, .inr (.inl 0)), (4, .inl x4), (5, .inl x5)] [] m Q := by
  refine hx_blks (npc := 48) (L' := [(0, .inr (.inl 0)), (4, .inl x4), (5, .inl x5)]) (st' := [.inl x4, .inr (.inl 1)]) (m' := m) ((42, .aload_n 0, 1, 0, 0, 0, 0), (0, 0, 0)) [((43, .getfield 10, 3, 9, 0, 2119, 0), (1, 0, 1)), ((46, .iload 4, 2, 0, 0, 0, 0), (0, 0, 0))] (by decide +kernel) rfl ?_
  exact hx_call (E := (48, .invokevirtual 120, 3, 21, 0, 2204, 0)) (M' := yp_m21) [.inr (.inl 1), .inl x4] [] rfl (by decide +kernel) rfl ⟨rfl, rfl⟩ rfl rfl (hx_mono h1 (fun r m' h' => hx_pick [0, 5] h'))

/-- feed from 51 on -/
theorem hr20_51 {xs : List Int32} {n : Nat} {Q : hQ} {m : gx_M} {x5 : Int}
    (h1 : hxn xs n yp_m21 0 [(0, .inr (.inl 1)), (1, .inl x5)] [] m (fun r m' => hxn xs n yp_m20 60 [(0, .inr (.inl 0))] (hrs r ++ []) m' Q)) : hxn xs (n + 1) yp_m20 51 [(0, .inr (.inl 0)), (5, .inl x5)] [] m Q := by
  refine hx_blks (npc := 57) (L' := [(0, .inr (.inl 0)), (5, .inl x5)]) (st' := [.inl x5, .inr (.inl 1)]) (m' := m) ((51, .aload_n 0, 1, 0, 0, 0, 0), (0, 0, 0)) [((52, .getfield 10, 3, 9, 0, 2119, 0), (1, 0, 1)), ((55, .iload 5, 2, 0, 0, 0, 0), (0, 0, 0))] (by decide +kernel) rfl ?_
  exact hx_call (E := (57, .invokevirtual 120, 3, 21, 0, 2204, 0)) (M' := yp_m21) [.inr (.inl 1), .inl x5] [] rfl (by decide +kernel) rfl ⟨rfl, rfl⟩ rfl rfl (hx_mono h1 (fun r m' h' => hx_pick [0] h'))

/-- feed from 60 on -/
theorem hr20_60 {xs : List Int32} {n : Nat} {Q : hQ} {m : gx_M}
    (h1 : Q (some (.inl (m 1 1))) m) : hxn xs (n + 1) yp_m20 60 [(0, .inr (.inl 0))] [] m Q := by
  refine hx_blks (npc := 67) (L' := [(0, .inr (.inl 0))]) (st' := [.inl (m 1 1)]) (m' := m) ((60, .aload_n 0, 1, 0, 0, 0, 0), (0, 0, 0)) [((61, .getfield 10, 3, 9, 0, 2119, 0), (1, 0, 1)), ((64, .getfield 117, 3, 0, 1, 1035, 0), (0, 1, 0))] (by decide +kernel) rfl ?_
  exact hx_reti (by decide +kernel) h1

/-- put from 0 on -/
theorem hr21_0 {xs : List Int32} {n : Nat} {Q : hQ} {m : gx_M} {x1 : Int}
    (h1 : hxn xs n yp_m21 3 [(0, .inr (.inl 1)), (1, .inl x1), (2, .inl 24)] [] m Q) : hxn xs (n + 1) yp_m21 0 [(0, .inr (.inl 1)), (1, .inl x1)] [] m Q := by
  refine hx_blks (npc := 3) (L' := [(0, .inr (.inl 1)), (1, .inl x1), (2, .inl 24)]) (st' := []) (m' := m) ((0, .bipush 24, 2, 0, 0, 0, 0), (0, 0, 0)) [((2, .istore_n 2, 1, 0, 0, 0, 0), (0, 0, 0))] (by decide +kernel) rfl ?_
  exact hx_pick [0, 1, 2] h1

/-- put from 3 on -/
theorem hr21_3 {xs : List Int32} {n : Nat} {Q : hQ} {m : gx_M} {x1 x2 : Int} (r_x2 : (-8) ≤ x2 ∧ x2 ≤ 24)
    (h1 : (x2 < 0) → Q none m)
    (h2 : (0 ≤ x2) → ((m 1 1) < 0) → hxn xs n yp_m21 3 [(0, .inr (.inl 1)), (1, .inl x1), (2, .inl (x2 + (-8)))] [] m Q)
    (h3 : (0 ≤ x2) → (0 ≤ (m 1 1)) → (260 ≤ (m 1 1)) → hxn xs n yp_m21 3 [(0, .inr (.inl 1)), (1, .inl x1), (2, .inl (x2 + (-8)))] [] m Q)
    (h4 : (0 ≤ x2) → (0 ≤ (m 1 1)) → ((m 1 1) < 260) → hxn xs n yp_m21 3 [(0, .inr (.inl 1)), (1, .inl x1), (2, .inl (x2 + (-8)))] [] (gx_u (gx_u m 1 1 ((m 1 1) + 1)) 2 (m 1 1).toNat (gx_and (hushr x1 x2) 255)) Q) : hxn xs (n + 1) yp_m21 3 [(0, .inr (.inl 1)), (1, .inl x1), (2, .inl x2)] [] m Q := by
  refine hx_blks (npc := 4) (L' := [(0, .inr (.inl 1)), (1, .inl x1), (2, .inl x2)]) (st' := [.inl x2]) (m' := m) ((3, .iload_n 2, 1, 0, 0, 0, 0), (0, 0, 0)) [] (by decide +kernel) rfl ?_
  refine hx_if .lt 53 (by decide +kernel) (fun c1 => ?_) (fun c1 => ?_)
  · have c1 : x2 < 0 := c1
    exact hx_ret0 (by decide +kernel) (h1 c1)
  · have c1 : 0 ≤ x2 := by have h : ¬ (x2 < 0) := c1; omega
    refine hx_blk (npc := 11) (L' := [(0, .inr (.inl 1)), (1, .inl x1), (2, .inl x2)]) (st' := [.inl (m 1 1)]) (m' := m) [((7, .aload_n 0, 1, 0, 0, 0, 0), (0, 0, 0)), ((8, .getfield 15, 3, 0, 1, 1033, 0), (0, 1, 0))] (by decide +kernel) rfl ?_
    refine hx_if .lt 47 (by decide +kernel) (fun c2 => ?_) (fun c2 => ?_)
    · have c2 : (m 1 1) < 0 := c2
      have e1 : gx_w (x2 + (-8)) = x2 + (-8) := gx_w_id (by omega) (by omega)
      refine hx_blk (npc := 3) (L' := [(0, .inr (.inl 1)), (1, .inl x1), (2, .inl (gx_w (x2 + (-8))))]) (st' := []) (m' := m) [((47, .iinc 2 (-8), 3, 0, 0, 0, 0), (0, 0, 0)), ((50, .goto (-47), 3, 0, 0, 0, 0), (0, 0, 0))] (by decide +kernel) rfl ?_
      rw [e1]
      exact hx_pick [0, 1, 2] (h2 c1 c2)
    · have c2 : 0 ≤ (m 1 1) := by have h : ¬ ((m 1 1) < 0) := c2; omega
      refine hx_blk (npc := 21) (L' := [(0, .inr (.inl 1)), (1, .inl x1), (2, .inl x2)]) (st' := [.inl 260, .inl (m 1 1)]) (m' := m) [((14, .aload_n 0, 1, 0, 0, 0, 0), (0, 0, 0)), ((15, .getfield 15, 3, 0, 1, 1033, 0), (0, 1, 0)), ((18, .sipush 260, 3, 0, 0, 0, 0), (0, 0, 0))] (by decide +kernel) rfl ?_
      refine hx_cmp .ge 47 (by decide +kernel) (fun c3 => ?_) (fun c3 => ?_)
      · have c3 : 260 ≤ (m 1 1) := c3
        have e2 : gx_w (x2 + (-8)) = x2 + (-8) := gx_w_id (by omega) (by omega)
        refine hx_blk (npc := 3) (L' := [(0, .inr (.inl 1)), (1, .inl x1), (2, .inl (gx_w (x2 + (-8))))]) (st' := []) (m' := m) [((47, .iinc 2 (-8), 3, 0, 0, 0, 0), (0, 0, 0)), ((50, .goto (-47), 3, 0, 0, 0, 0), (0, 0, 0))] (by decide +kernel) rfl ?_
        rw [e2]
        exact hx_pick [0, 1, 2] (h3 c1 c2 c3)
      · have c3 : (m 1 1) < 260 := by have h : ¬ (260 ≤ (m 1 1)) := c3; omega
        have e3 : gx_w ((m 1 1) + 1) = (m 1 1) + 1 := gx_w_id (by omega) (by omega)
        have f4 := gx_and_bd (hushr x1 x2) 255 (by decide)
        have e5 : gx_w (x2 + (-8)) = x2 + (-8) := gx_w_id (by omega) (by omega)
        refine hx_blk (npc := 3) (L' := [(0, .inr (.inl 1)), (1, .inl x1), (2, .inl (gx_w (x2 + (-8))))]) (st' := []) (m' := (gx_u (gx_u m 1 1 (gx_w ((m 1 1) + 1))) 2 (m 1 1).toNat (gx_and (hushr x1 x2) 255))) [((24, .aload_n 0, 1, 0, 0, 0, 0), (0, 0, 0)), ((25, .getfield 9, 3, 0, 0, 1031, 0), (1, 1, 2)), ((28, .aload_n 0, 1, 0, 0, 0, 0), (0, 0, 0)), ((29, .dup, 1, 0, 0, 0, 0), (0, 0, 0)), ((30, .getfield 15, 3, 0, 1, 1033, 0), (0, 1, 0)), ((33, .dup_x1, 1, 0, 0, 0, 0), (0, 0, 0)), ((34, .iconst 1, 1, 0, 0, 0, 0), (0, 0, 0)), ((35, .iadd, 1, 0, 0, 0, 0), (0, 0, 0)), ((36, .putfield 15, 3, 0, 1, 1033, 0), (0, 1, 0)), ((39, .iload_n 1, 1, 0, 0, 0, 0), (0, 0, 0)), ((40, .iload_n 2, 1, 0, 0, 0, 0), (0, 0, 0)), ((41, .iushr, 1, 0, 0, 0, 0), (0, 0, 0)), ((42, .sipush 255, 3, 0, 0, 0, 0), (0, 0, 0)), ((45, .iand, 1, 0, 0, 0, 0), (0, 0, 0)), ((46, .iastore, 1, 0, 0, 0, 0), (0, 2, 0)), ((47, .iinc 2 (-8), 3, 0, 0, 0, 0), (0, 0, 0)), ((50, .goto (-47), 3, 0, 0, 0, 0), (0, 0, 0))] (by decide +kernel) rfl ?_
        rw [e3, e5]
        exact hx_pick [0, 1, 2] (h4 c1 c2 c3)

/-- feed from 0 on -/
theorem hr166_0 {xs : List Int32} {n : Nat} {Q : hQ} {m : gx_M} {x1 x2 x3 x4 x5 : Int}
    (h1 : ((gx_w ((m 86 4) + 20)) ≤ 260) → hxn xs n yp_m167 0 [(0, .inr (.inl 86)), (1, .inl x1)] [] m (fun r m' => hxn xs n yp_m166 20 [(0, .inr (.inl 86)), (2, .inl x2), (3, .inl x3), (4, .inl x4), (5, .inl x5)] (hrs r ++ []) m' Q))
    (h2 : (260 < (gx_w ((m 86 4) + 20))) → Q (some (.inl (-1))) m) : hxn xs (n + 1) yp_m166 0 [(0, .inr (.inl 86)), (1, .inl x1), (2, .inl x2), (3, .inl x3), (4, .inl x4), (5, .inl x5)] [] m Q := by
  refine hx_blks (npc := 10) (L' := [(0, .inr (.inl 86)), (1, .inl x1), (2, .inl x2), (3, .inl x3), (4, .inl x4), (5, .inl x5)]) (st' := [.inl 260, .inl (gx_w ((m 86 4) + 20))]) (m' := m) ((0, .aload_n 0, 1, 0, 0, 0, 0), (0, 0, 0)) [((1, .getfield 124, 3, 10, 4, 5117, 0), (0, 86, 0)), ((4, .bipush 20, 2, 0, 0, 0, 0), (0, 0, 0)), ((6, .iadd, 1, 0, 0, 0, 0), (0, 0, 0)), ((7, .sipush 260, 3, 0, 0, 0, 0), (0, 0, 0))] (by decide +kernel) rfl ?_
  refine hx_cmp .le 15 (by decide +kernel) (fun c1 => ?_) (fun c1 => ?_)
  · have c1 : (gx_w ((m 86 4) + 20)) ≤ 260 := c1
    refine hx_blk (npc := 17) (L' := [(0, .inr (.inl 86)), (1, .inl x1), (2, .inl x2), (3, .inl x3), (4, .inl x4), (5, .inl x5)]) (st' := [.inl x1, .inr (.inl 86)]) (m' := m) [((15, .aload_n 0, 1, 0, 0, 0, 0), (0, 0, 0)), ((16, .iload_n 1, 1, 0, 0, 0, 0), (0, 0, 0))] (by decide +kernel) rfl ?_
    exact hx_call (E := (17, .invokevirtual 128, 3, 167, 0, 6042, 0)) (M' := yp_m167) [.inr (.inl 86), .inl x1] [] rfl (by decide +kernel) rfl ⟨rfl, rfl⟩ rfl rfl (hx_mono (h1 c1) (fun r m' h' => hx_pick [0, 2, 3, 4, 5] h'))
  · have c1 : 260 < (gx_w ((m 86 4) + 20)) := by have h : ¬ ((gx_w ((m 86 4) + 20)) ≤ 260) := c1; omega
    refine hx_blk (npc := 14) (L' := [(0, .inr (.inl 86)), (1, .inl x1), (2, .inl x2), (3, .inl x3), (4, .inl x4), (5, .inl x5)]) (st' := [.inl (-1)]) (m' := m) [((13, .iconst (-1), 1, 0, 0, 0, 0), (0, 0, 0))] (by decide +kernel) rfl ?_
    exact hx_reti (by decide +kernel) (h2 c1)

/-- feed from 20 on -/
theorem hr166_20 {xs : List Int32} {n : Nat} {Q : hQ} {m : gx_M} {x2 x3 x4 x5 : Int}
    (h1 : hxn xs n yp_m167 0 [(0, .inr (.inl 86)), (1, .inl x2)] [] m (fun r m' => hxn xs n yp_m166 25 [(0, .inr (.inl 86)), (3, .inl x3), (4, .inl x4), (5, .inl x5)] (hrs r ++ []) m' Q)) : hxn xs (n + 1) yp_m166 20 [(0, .inr (.inl 86)), (2, .inl x2), (3, .inl x3), (4, .inl x4), (5, .inl x5)] [] m Q := by
  refine hx_blks (npc := 22) (L' := [(0, .inr (.inl 86)), (2, .inl x2), (3, .inl x3), (4, .inl x4), (5, .inl x5)]) (st' := [.inl x2, .inr (.inl 86)]) (m' := m) ((20, .aload_n 0, 1, 0, 0, 0, 0), (0, 0, 0)) [((21, .iload_n 2, 1, 0, 0, 0, 0), (0, 0, 0))] (by decide +kernel) rfl ?_
  exact hx_call (E := (22, .invokevirtual 128, 3, 167, 0, 6042, 0)) (M' := yp_m167) [.inr (.inl 86), .inl x2] [] rfl (by decide +kernel) rfl ⟨rfl, rfl⟩ rfl rfl (hx_mono h1 (fun r m' h' => hx_pick [0, 3, 4, 5] h'))

/-- feed from 25 on -/
theorem hr166_25 {xs : List Int32} {n : Nat} {Q : hQ} {m : gx_M} {x3 x4 x5 : Int}
    (h1 : hxn xs n yp_m167 0 [(0, .inr (.inl 86)), (1, .inl x3)] [] m (fun r m' => hxn xs n yp_m166 30 [(0, .inr (.inl 86)), (4, .inl x4), (5, .inl x5)] (hrs r ++ []) m' Q)) : hxn xs (n + 1) yp_m166 25 [(0, .inr (.inl 86)), (3, .inl x3), (4, .inl x4), (5, .inl x5)] [] m Q := by
  refine hx_blks (npc := 27) (L' := [(0, .inr (.inl 86)), (3, .inl x3), (4, .inl x4), (5, .inl x5)]) (st' := [.inl x3, .inr (.inl 86)]) (m' := m) ((25, .aload_n 0, 1, 0, 0, 0, 0), (0, 0, 0)) [((26, .iload_n 3, 1, 0, 0, 0, 0), (0, 0, 0))] (by decide +kernel) rfl ?_
  exact hx_call (E := (27, .invokevirtual 128, 3, 167, 0, 6042, 0)) (M' := yp_m167) [.inr (.inl 86), .inl x3] [] rfl (by decide +kernel) rfl ⟨rfl, rfl⟩ rfl rfl (hx_mono h1 (fun r m' h' => hx_pick [0, 4, 5] h'))

/-- feed from 30 on -/
theorem hr166_30 {xs : List Int32} {n : Nat} {Q : hQ} {m : gx_M} {x4 x5 : Int}
    (h1 : hxn xs n yp_m167 0 [(0, .inr (.inl 86)), (1, .inl x4)] [] m (fun r m' => hxn xs n yp_m166 36 [(0, .inr (.inl 86)), (5, .inl x5)] (hrs r ++ []) m' Q)) : hxn xs (n + 1) yp_m166 30 [(0, .inr (.inl 86)), (4, .inl x4), (5, .inl x5)] [] m Q := by
  refine hx_blks (npc := 33) (L' := [(0, .inr (.inl 86)), (4, .inl x4), (5, .inl x5)]) (st' := [.inl x4, .inr (.inl 86)]) (m' := m) ((30, .aload_n 0, 1, 0, 0, 0, 0), (0, 0, 0)) [((31, .iload 4, 2, 0, 0, 0, 0), (0, 0, 0))] (by decide +kernel) rfl ?_
  exact hx_call (E := (33, .invokevirtual 128, 3, 167, 0, 6042, 0)) (M' := yp_m167) [.inr (.inl 86), .inl x4] [] rfl (by decide +kernel) rfl ⟨rfl, rfl⟩ rfl rfl (hx_mono h1 (fun r m' h' => hx_pick [0, 5] h'))

/-- feed from 36 on -/
theorem hr166_36 {xs : List Int32} {n : Nat} {Q : hQ} {m : gx_M} {x5 : Int}
    (h1 : hxn xs n yp_m167 0 [(0, .inr (.inl 86)), (1, .inl x5)] [] m (fun r m' => hxn xs n yp_m166 42 [(0, .inr (.inl 86))] (hrs r ++ []) m' Q)) : hxn xs (n + 1) yp_m166 36 [(0, .inr (.inl 86)), (5, .inl x5)] [] m Q := by
  refine hx_blks (npc := 39) (L' := [(0, .inr (.inl 86)), (5, .inl x5)]) (st' := [.inl x5, .inr (.inl 86)]) (m' := m) ((36, .aload_n 0, 1, 0, 0, 0, 0), (0, 0, 0)) [((37, .iload 5, 2, 0, 0, 0, 0), (0, 0, 0))] (by decide +kernel) rfl ?_
  exact hx_call (E := (39, .invokevirtual 128, 3, 167, 0, 6042, 0)) (M' := yp_m167) [.inr (.inl 86), .inl x5] [] rfl (by decide +kernel) rfl ⟨rfl, rfl⟩ rfl rfl (hx_mono h1 (fun r m' h' => hx_pick [0] h'))

/-- feed from 42 on -/
theorem hr166_42 {xs : List Int32} {n : Nat} {Q : hQ} {m : gx_M}
    (h1 : Q (some (.inl (m 86 4))) m) : hxn xs (n + 1) yp_m166 42 [(0, .inr (.inl 86))] [] m Q := by
  refine hx_blks (npc := 46) (L' := [(0, .inr (.inl 86))]) (st' := [.inl (m 86 4)]) (m' := m) ((42, .aload_n 0, 1, 0, 0, 0, 0), (0, 0, 0)) [((43, .getfield 124, 3, 10, 4, 5117, 0), (0, 86, 0))] (by decide +kernel) rfl ?_
  exact hx_reti (by decide +kernel) h1

/-- types from 0 on -/
theorem hr167_0 {xs : List Int32} {n : Nat} {Q : hQ} {m : gx_M} {x1 : Int}
    (h1 : hxn xs n yp_m167 2 [(0, .inr (.inl 86)), (1, .inl x1), (2, .inl 3)] [] m Q) : hxn xs (n + 1) yp_m167 0 [(0, .inr (.inl 86)), (1, .inl x1)] [] m Q := by
  refine hx_blks (npc := 2) (L' := [(0, .inr (.inl 86)), (1, .inl x1), (2, .inl 3)]) (st' := []) (m' := m) ((0, .iconst 3, 1, 0, 0, 0, 0), (0, 0, 0)) [((1, .istore_n 2, 1, 0, 0, 0, 0), (0, 0, 0))] (by decide +kernel) rfl ?_
  exact hx_pick [0, 1, 2] h1

/-- types from 2 on -/
theorem hr167_2 {xs : List Int32} {n : Nat} {Q : hQ} {m : gx_M} {x1 x2 : Int} (r_x2 : (-1) ≤ x2 ∧ x2 ≤ 3)
    (h1 : (x2 < 0) → Q none m)
    (h2 : (0 ≤ x2) → hxn xs n yp_m167 2 [(0, .inr (.inl 86)), (1, .inl x1), (2, .inl (x2 + (-1)))] [] (gx_u (gx_u m 90 (m 86 4).toNat (hbyte (hi2b (gx_shr x1 (8 * x2))))) 86 4 (gx_w ((m 86 4) + 1))) Q) : hxn xs (n + 1) yp_m167 2 [(0, .inr (.inl 86)), (1, .inl x1), (2, .inl x2)] [] m Q := by
  refine hx_blks (npc := 3) (L' := [(0, .inr (.inl 86)), (1, .inl x1), (2, .inl x2)]) (st' := [.inl x2]) (m' := m) ((2, .iload_n 2, 1, 0, 0, 0, 0), (0, 0, 0)) [] (by decide +kernel) rfl ?_
  refine hx_if .lt 38 (by decide +kernel) (fun c1 => ?_) (fun c1 => ?_)
  · have c1 : x2 < 0 := c1
    exact hx_ret0 (by decide +kernel) (h1 c1)
  · have c1 : 0 ≤ x2 := by have h : ¬ (x2 < 0) := c1; omega
    have e1 : gx_w (8 * x2) = 8 * x2 := gx_w_id (by omega) (by omega)
    have e2 : gx_w (x2 + (-1)) = x2 + (-1) := gx_w_id (by omega) (by omega)
    refine hx_blk (npc := 2) (L' := [(0, .inr (.inl 86)), (1, .inl x1), (2, .inl (gx_w (x2 + (-1))))]) (st' := []) (m' := (gx_u (gx_u m 90 (m 86 4).toNat (hbyte (hi2b (gx_shr x1 (gx_w (8 * x2)))))) 86 4 (gx_w ((m 86 4) + 1)))) [((6, .aload_n 0, 1, 0, 0, 0, 0), (0, 0, 0)), ((7, .getfield 19, 3, 10, 3, 5116, 0), (1, 86, 90)), ((10, .aload_n 0, 1, 0, 0, 0, 0), (0, 0, 0)), ((11, .getfield 124, 3, 10, 4, 5117, 0), (0, 86, 0)), ((14, .iload_n 1, 1, 0, 0, 0, 0), (0, 0, 0)), ((15, .bipush 8, 2, 0, 0, 0, 0), (0, 0, 0)), ((17, .iload_n 2, 1, 0, 0, 0, 0), (0, 0, 0)), ((18, .imul, 1, 0, 0, 0, 0), (0, 0, 0)), ((19, .ishr, 1, 0, 0, 0, 0), (0, 0, 0)), ((20, .i2b, 1, 0, 0, 0, 0), (0, 0, 0)), ((21, .bastore, 1, 0, 0, 0, 0), (0, 90, 0)), ((22, .aload_n 0, 1, 0, 0, 0, 0), (0, 0, 0)), ((23, .aload_n 0, 1, 0, 0, 0, 0), (0, 0, 0)), ((24, .getfield 124, 3, 10, 4, 5117, 0), (0, 86, 0)), ((27, .iconst 1, 1, 0, 0, 0, 0), (0, 0, 0)), ((28, .iadd, 1, 0, 0, 0, 0), (0, 0, 0)), ((29, .putfield 124, 3, 10, 4, 5117, 0), (0, 86, 0)), ((32, .iinc 2 (-1), 3, 0, 0, 0, 0), (0, 0, 0)), ((35, .goto (-33), 3, 0, 0, 0, 0), (0, 0, 0))] (by decide +kernel) rfl ?_
    rw [e1, e2]
    exact hx_pick [0, 1, 2] (h2 c1)

