/-! the reference: persons, years, what is kept and put back -/
/-- person from 0 on -/
theorem hr161_0 {xs : List Int32} {n : Nat} {Q : hQ} {m : gx_M} {x1 x2 : Int}
    (h1 : (0 ≤ x1 ∧ x1 ≤ 7) → (0 ≤ x2 ∧ x2 ≤ 99999) → Q (some (.inl 1)) (gx_u (gx_u m 87 1128 (gx_or (m 87 1128) (gx_shl 1 x1))) 87 (gx_w (1120 + x1)).toNat x2))
    (h2 : (0 ≤ x1 ∧ x1 ≤ 7) → (¬ (0 ≤ x2 ∧ x2 ≤ 99999)) → Q (some (.inl 0)) m)
    (h3 : (¬ (0 ≤ x1 ∧ x1 ≤ 7)) → Q (some (.inl 0)) m) : hxn xs (n + 1) yp_m161 0 [(0, .inr (.inl 86)), (1, .inl x1), (2, .inl x2)] [] m Q := by
  refine hx_blks (npc := 4) (L' := [(0, .inr (.inl 86)), (1, .inl x1), (2, .inl x2)]) (st' := [.inl 7, .inl 0, .inl x1]) (m' := m) ((0, .iload_n 1, 1, 0, 0, 0, 0), (0, 0, 0)) [((1, .iconst 0, 1, 0, 0, 0, 0), (0, 0, 0)), ((2, .bipush 7, 2, 0, 0, 0, 0), (0, 0, 0))] (by decide +kernel) rfl ?_
  refine hx_call (E := (4, .invokestatic 108, 3, 162, 0, 6023, 0)) (M' := yp_m162) [.inl x1, .inl 0, .inl 7] [] rfl (by decide +kernel) rfl ⟨rfl, rfl⟩ rfl rfl (hs162 (fun c1 => ?_) (fun c1 => ?_))
  · have c1 : 0 ≤ x1 ∧ x1 ≤ 7 := c1
    show hxn xs n yp_m161 7 [(0, .inr (.inl 86)), (1, .inl x1), (2, .inl x2)] [.inl 1] m Q
    refine hx_if .eq 20 (by decide +kernel) (fun c2 => ?_) (fun c2 => ?_)
    · have c2 : (1 : Int) = 0 := c2
      exfalso; omega
    · have c2 : (1 : Int) ≠ 0 := c2
      refine hx_blk (npc := 14) (L' := [(0, .inr (.inl 86)), (1, .inl x1), (2, .inl x2)]) (st' := [.inl 99999, .inl 0, .inl x2]) (m' := m) [((10, .iload_n 2, 1, 0, 0, 0, 0), (0, 0, 0)), ((11, .iconst 0, 1, 0, 0, 0, 0), (0, 0, 0)), ((12, .ldc 112, 2, 0, 0, 6026, 99999), (0, 0, 0))] (by decide +kernel) rfl ?_
      refine hx_call (E := (14, .invokestatic 108, 3, 162, 0, 6023, 0)) (M' := yp_m162) [.inl x2, .inl 0, .inl 99999] [] rfl (by decide +kernel) rfl ⟨rfl, rfl⟩ rfl rfl (hs162 (fun c2 => ?_) (fun c2 => ?_))
      · have c2 : 0 ≤ x2 ∧ x2 ≤ 99999 := c2
        show hxn xs n yp_m161 17 [(0, .inr (.inl 86)), (1, .inl x1), (2, .inl x2)] [.inl 1] m Q
        refine hx_if .ne 22 (by decide +kernel) (fun c3 => ?_) (fun c3 => ?_)
        · have c3 : (1 : Int) ≠ 0 := c3
          refine hx_blk (npc := 54) (L' := [(0, .inr (.inl 86)), (1, .inl x1), (2, .inl x2)]) (st' := [.inl 1]) (m' := (gx_u (gx_u m 87 1128 (gx_or (m 87 1128) (gx_shl 1 x1))) 87 (gx_w (1120 + x1)).toNat x2)) [((22, .aload_n 0, 1, 0, 0, 0, 0), (0, 0, 0)), ((23, .getfield 7, 3, 10, 0, 5113, 0), (1, 86, 87)), ((26, .sipush 1128, 3, 0, 0, 0, 0), (0, 0, 0)), ((29, .aload_n 0, 1, 0, 0, 0, 0), (0, 0, 0)), ((30, .getfield 7, 3, 10, 0, 5113, 0), (1, 86, 87)), ((33, .sipush 1128, 3, 0, 0, 0, 0), (0, 0, 0)), ((36, .iaload, 1, 0, 0, 0, 0), (0, 87, 0)), ((37, .iconst 1, 1, 0, 0, 0, 0), (0, 0, 0)), ((38, .iload_n 1, 1, 0, 0, 0, 0), (0, 0, 0)), ((39, .ishl, 1, 0, 0, 0, 0), (0, 0, 0)), ((40, .ior, 1, 0, 0, 0, 0), (0, 0, 0)), ((41, .iastore, 1, 0, 0, 0, 0), (0, 87, 0)), ((42, .aload_n 0, 1, 0, 0, 0, 0), (0, 0, 0)), ((43, .getfield 7, 3, 10, 0, 5113, 0), (1, 86, 87)), ((46, .sipush 1120, 3, 0, 0, 0, 0), (0, 0, 0)), ((49, .iload_n 1, 1, 0, 0, 0, 0), (0, 0, 0)), ((50, .iadd, 1, 0, 0, 0, 0), (0, 0, 0)), ((51, .iload_n 2, 1, 0, 0, 0, 0), (0, 0, 0)), ((52, .iastore, 1, 0, 0, 0, 0), (0, 87, 0)), ((53, .iconst 1, 1, 0, 0, 0, 0), (0, 0, 0))] (by decide +kernel) rfl ?_
          exact hx_reti (by decide +kernel) (h1 c1 c2)
        · have c3 : (1 : Int) = 0 := by have h : ¬ ((1 : Int) ≠ 0) := c3; omega
          exfalso; omega
      · have c2 : ¬ (0 ≤ x2 ∧ x2 ≤ 99999) := c2
        show hxn xs n yp_m161 17 [(0, .inr (.inl 86)), (1, .inl x1), (2, .inl x2)] [.inl 0] m Q
        refine hx_if .ne 22 (by decide +kernel) (fun c3 => ?_) (fun c3 => ?_)
        · have c3 : (0 : Int) ≠ 0 := c3
          exfalso; omega
        · have c3 : (0 : Int) = 0 := by have h : ¬ ((0 : Int) ≠ 0) := c3; omega
          refine hx_blk (npc := 21) (L' := [(0, .inr (.inl 86)), (1, .inl x1), (2, .inl x2)]) (st' := [.inl 0]) (m' := m) [((20, .iconst 0, 1, 0, 0, 0, 0), (0, 0, 0))] (by decide +kernel) rfl ?_
          exact hx_reti (by decide +kernel) (h2 c1 c2)
  · have c1 : ¬ (0 ≤ x1 ∧ x1 ≤ 7) := c1
    show hxn xs n yp_m161 7 [(0, .inr (.inl 86)), (1, .inl x1), (2, .inl x2)] [.inl 0] m Q
    refine hx_if .eq 20 (by decide +kernel) (fun c2 => ?_) (fun c2 => ?_)
    · have c2 : (0 : Int) = 0 := c2
      refine hx_blk (npc := 21) (L' := [(0, .inr (.inl 86)), (1, .inl x1), (2, .inl x2)]) (st' := [.inl 0]) (m' := m) [((20, .iconst 0, 1, 0, 0, 0, 0), (0, 0, 0))] (by decide +kernel) rfl ?_
      exact hx_reti (by decide +kernel) (h3 c1)
    · have c2 : (0 : Int) ≠ 0 := c2
      exfalso; omega

/-- year from 0 on -/
theorem hr163_0 {xs : List Int32} {n : Nat} {Q : hQ} {m : gx_M} {x1 x2 x3 x4 x5 x6 x7 : Int}
    (h1 : (0 ≤ x1 ∧ x1 ≤ 39) → (0 ≤ x2 ∧ x2 ≤ 99) → (aPers (m 87) x3) → (0 ≤ x4 ∧ x4 ≤ 4095) → (0 ≤ x5 ∧ x5 ≤ 255) → (gx_and (gx_shr x5 x3) 1 = 1) → Q (some (.inl 0)) m)
    (h2 : (0 ≤ x1 ∧ x1 ≤ 39) → (0 ≤ x2 ∧ x2 ≤ 99) → (aPers (m 87) x3) → (0 ≤ x4 ∧ x4 ≤ 4095) → (0 ≤ x5 ∧ x5 ≤ 255) → (¬ (gx_and (gx_shr x5 x3) 1 = 1)) → ((gx_and x5 (gx_xor (m 87 1128) (-1))) ≠ 0) → Q (some (.inl 0)) m)
    (h3 : (0 ≤ x1 ∧ x1 ≤ 39) → (0 ≤ x2 ∧ x2 ≤ 99) → (aPers (m 87) x3) → (0 ≤ x4 ∧ x4 ≤ 4095) → (0 ≤ x5 ∧ x5 ≤ 255) → (¬ (gx_and (gx_shr x5 x3) 1 = 1)) → ((gx_and x5 (gx_xor (m 87 1128) (-1))) = 0) → (0 ≤ x7 ∧ x7 ≤ 9) → (x6 = 0) → Q (some (.inl 1)) (gx_u (gx_u (gx_u (gx_u (gx_u (gx_u (gx_u (gx_u (gx_u (gx_u (gx_u (gx_u (gx_u m 87 (gx_w (440 + x1)).toNat 1) 87 (gx_w (0 + x1)).toNat x2) 87 (gx_w (40 + x1)).toNat x3) 87 (gx_w (80 + x1)).toNat x4) 87 (gx_w (120 + x1)).toNat x5) 87 (gx_w (160 + x1)).toNat 0) 87 (gx_w (200 + x1)).toNat x7) 87 (gx_w (240 + x1)).toNat x3) 87 (gx_w (280 + x1)).toNat (-2)) 87 (gx_w (320 + x1)).toNat 0) 87 (gx_w (360 + x1)).toNat 0) 87 (gx_w (400 + x1)).toNat 1) 87 (gx_w (480 + (gx_w (16 * x1)))).toNat x3))
    (h4 : (0 ≤ x1 ∧ x1 ≤ 39) → (0 ≤ x2 ∧ x2 ≤ 99) → (aPers (m 87) x3) → (0 ≤ x4 ∧ x4 ≤ 4095) → (0 ≤ x5 ∧ x5 ≤ 255) → (¬ (gx_and (gx_shr x5 x3) 1 = 1)) → ((gx_and x5 (gx_xor (m 87 1128) (-1))) = 0) → (0 ≤ x7 ∧ x7 ≤ 9) → (x6 ≠ 0) → Q (some (.inl 1)) (gx_u (gx_u (gx_u (gx_u (gx_u (gx_u (gx_u (gx_u (gx_u (gx_u (gx_u (gx_u (gx_u m 87 (gx_w (440 + x1)).toNat 1) 87 (gx_w (0 + x1)).toNat x2) 87 (gx_w (40 + x1)).toNat x3) 87 (gx_w (80 + x1)).toNat x4) 87 (gx_w (120 + x1)).toNat x5) 87 (gx_w (160 + x1)).toNat 1) 87 (gx_w (200 + x1)).toNat x7) 87 (gx_w (240 + x1)).toNat x3) 87 (gx_w (280 + x1)).toNat (-2)) 87 (gx_w (320 + x1)).toNat 0) 87 (gx_w (360 + x1)).toNat 0) 87 (gx_w (400 + x1)).toNat 1) 87 (gx_w (480 + (gx_w (16 * x1)))).toNat x3))
    (h5 : (0 ≤ x1 ∧ x1 ≤ 39) → (0 ≤ x2 ∧ x2 ≤ 99) → (aPers (m 87) x3) → (0 ≤ x4 ∧ x4 ≤ 4095) → (0 ≤ x5 ∧ x5 ≤ 255) → (¬ (gx_and (gx_shr x5 x3) 1 = 1)) → ((gx_and x5 (gx_xor (m 87 1128) (-1))) = 0) → (¬ (0 ≤ x7 ∧ x7 ≤ 9)) → Q (some (.inl 0)) m)
    (h6 : (0 ≤ x1 ∧ x1 ≤ 39) → (0 ≤ x2 ∧ x2 ≤ 99) → (aPers (m 87) x3) → (0 ≤ x4 ∧ x4 ≤ 4095) → (¬ (0 ≤ x5 ∧ x5 ≤ 255)) → Q (some (.inl 0)) m)
    (h7 : (0 ≤ x1 ∧ x1 ≤ 39) → (0 ≤ x2 ∧ x2 ≤ 99) → (aPers (m 87) x3) → (¬ (0 ≤ x4 ∧ x4 ≤ 4095)) → Q (some (.inl 0)) m)
    (h8 : (0 ≤ x1 ∧ x1 ≤ 39) → (0 ≤ x2 ∧ x2 ≤ 99) → (¬ (aPers (m 87) x3)) → Q (some (.inl 0)) m)
    (h9 : (0 ≤ x1 ∧ x1 ≤ 39) → (¬ (0 ≤ x2 ∧ x2 ≤ 99)) → Q (some (.inl 0)) m)
    (h10 : (¬ (0 ≤ x1 ∧ x1 ≤ 39)) → Q (some (.inl 0)) m) : hxn xs (n + 1) yp_m163 0 [(0, .inr (.inl 86)), (1, .inl x1), (2, .inl x2), (3, .inl x3), (4, .inl x4), (5, .inl x5), (6, .inl x6), (7, .inl x7)] [] m Q := by
  refine hx_blks (npc := 4) (L' := [(0, .inr (.inl 86)), (1, .inl x1), (2, .inl x2), (3, .inl x3), (4, .inl x4), (5, .inl x5), (6, .inl x6), (7, .inl x7)]) (st' := [.inl 39, .inl 0, .inl x1]) (m' := m) ((0, .iload_n 1, 1, 0, 0, 0, 0), (0, 0, 0)) [((1, .iconst 0, 1, 0, 0, 0, 0), (0, 0, 0)), ((2, .bipush 39, 2, 0, 0, 0, 0), (0, 0, 0))] (by decide +kernel) rfl ?_
  refine hx_call (E := (4, .invokestatic 108, 3, 162, 0, 6023, 0)) (M' := yp_m162) [.inl x1, .inl 0, .inl 39] [] rfl (by decide +kernel) rfl ⟨rfl, rfl⟩ rfl rfl (hs162 (fun c1 => ?_) (fun c1 => ?_))
  · have c1 : 0 ≤ x1 ∧ x1 ≤ 39 := c1
    show hxn xs n yp_m163 7 [(0, .inr (.inl 86)), (1, .inl x1), (2, .inl x2), (3, .inl x3), (4, .inl x4), (5, .inl x5), (6, .inl x6), (7, .inl x7)] [.inl 1] m Q
    refine hx_if .eq 88 (by decide +kernel) (fun c2 => ?_) (fun c2 => ?_)
    · have c2 : (1 : Int) = 0 := c2
      exfalso; omega
    · have c2 : (1 : Int) ≠ 0 := c2
      refine hx_blk (npc := 14) (L' := [(0, .inr (.inl 86)), (1, .inl x1), (2, .inl x2), (3, .inl x3), (4, .inl x4), (5, .inl x5), (6, .inl x6), (7, .inl x7)]) (st' := [.inl 99, .inl 0, .inl x2]) (m' := m) [((10, .iload_n 2, 1, 0, 0, 0, 0), (0, 0, 0)), ((11, .iconst 0, 1, 0, 0, 0, 0), (0, 0, 0)), ((12, .bipush 99, 2, 0, 0, 0, 0), (0, 0, 0))] (by decide +kernel) rfl ?_
      refine hx_call (E := (14, .invokestatic 108, 3, 162, 0, 6023, 0)) (M' := yp_m162) [.inl x2, .inl 0, .inl 99] [] rfl (by decide +kernel) rfl ⟨rfl, rfl⟩ rfl rfl (hs162 (fun c2 => ?_) (fun c2 => ?_))
      · have c2 : 0 ≤ x2 ∧ x2 ≤ 99 := c2
        show hxn xs n yp_m163 17 [(0, .inr (.inl 86)), (1, .inl x1), (2, .inl x2), (3, .inl x3), (4, .inl x4), (5, .inl x5), (6, .inl x6), (7, .inl x7)] [.inl 1] m Q
        refine hx_if .eq 88 (by decide +kernel) (fun c3 => ?_) (fun c3 => ?_)
        · have c3 : (1 : Int) = 0 := c3
          exfalso; omega
        · have c3 : (1 : Int) ≠ 0 := c3
          refine hx_blk (npc := 22) (L' := [(0, .inr (.inl 86)), (1, .inl x1), (2, .inl x2), (3, .inl x3), (4, .inl x4), (5, .inl x5), (6, .inl x6), (7, .inl x7)]) (st' := [.inl x3, .inr (.inl 86)]) (m' := m) [((20, .aload_n 0, 1, 0, 0, 0, 0), (0, 0, 0)), ((21, .iload_n 3, 1, 0, 0, 0, 0), (0, 0, 0))] (by decide +kernel) rfl ?_
          refine hx_call (E := (22, .invokevirtual 113, 3, 164, 0, 6031, 0)) (M' := yp_m164) [.inr (.inl 86), .inl x3] [] rfl (by decide +kernel) rfl ⟨rfl, rfl⟩ rfl rfl (hs164 (fun c3 => ?_) (fun c3 => ?_))
          · have c3 : aPers (m 87) x3 := c3
            show hxn xs n yp_m163 25 [(0, .inr (.inl 86)), (1, .inl x1), (2, .inl x2), (3, .inl x3), (4, .inl x4), (5, .inl x5), (6, .inl x6), (7, .inl x7)] [.inl 1] m Q
            refine hx_if .eq 88 (by decide +kernel) (fun c4 => ?_) (fun c4 => ?_)
            · have c4 : (1 : Int) = 0 := c4
              exfalso; omega
            · have c4 : (1 : Int) ≠ 0 := c4
              refine hx_blk (npc := 34) (L' := [(0, .inr (.inl 86)), (1, .inl x1), (2, .inl x2), (3, .inl x3), (4, .inl x4), (5, .inl x5), (6, .inl x6), (7, .inl x7)]) (st' := [.inl 4095, .inl 0, .inl x4]) (m' := m) [((28, .iload 4, 2, 0, 0, 0, 0), (0, 0, 0)), ((30, .iconst 0, 1, 0, 0, 0, 0), (0, 0, 0)), ((31, .sipush 4095, 3, 0, 0, 0, 0), (0, 0, 0))] (by decide +kernel) rfl ?_
              refine hx_call (E := (34, .invokestatic 108, 3, 162, 0, 6023, 0)) (M' := yp_m162) [.inl x4, .inl 0, .inl 4095] [] rfl (by decide +kernel) rfl ⟨rfl, rfl⟩ rfl rfl (hs162 (fun c4 => ?_) (fun c4 => ?_))
              · have c4 : 0 ≤ x4 ∧ x4 ≤ 4095 := c4
                show hxn xs n yp_m163 37 [(0, .inr (.inl 86)), (1, .inl x1), (2, .inl x2), (3, .inl x3), (4, .inl x4), (5, .inl x5), (6, .inl x6), (7, .inl x7)] [.inl 1] m Q
                refine hx_if .eq 88 (by decide +kernel) (fun c5 => ?_) (fun c5 => ?_)
                · have c5 : (1 : Int) = 0 := c5
                  exfalso; omega
                · have c5 : (1 : Int) ≠ 0 := c5
                  refine hx_blk (npc := 46) (L' := [(0, .inr (.inl 86)), (1, .inl x1), (2, .inl x2), (3, .inl x3), (4, .inl x4), (5, .inl x5), (6, .inl x6), (7, .inl x7)]) (st' := [.inl 255, .inl 0, .inl x5]) (m' := m) [((40, .iload 5, 2, 0, 0, 0, 0), (0, 0, 0)), ((42, .iconst 0, 1, 0, 0, 0, 0), (0, 0, 0)), ((43, .sipush 255, 3, 0, 0, 0, 0), (0, 0, 0))] (by decide +kernel) rfl ?_
                  refine hx_call (E := (46, .invokestatic 108, 3, 162, 0, 6023, 0)) (M' := yp_m162) [.inl x5, .inl 0, .inl 255] [] rfl (by decide +kernel) rfl ⟨rfl, rfl⟩ rfl rfl (hs162 (fun c5 => ?_) (fun c5 => ?_))
                  · have c5 : 0 ≤ x5 ∧ x5 ≤ 255 := c5
                    show hxn xs n yp_m163 49 [(0, .inr (.inl 86)), (1, .inl x1), (2, .inl x2), (3, .inl x3), (4, .inl x4), (5, .inl x5), (6, .inl x6), (7, .inl x7)] [.inl 1] m Q
                    refine hx_if .eq 88 (by decide +kernel) (fun c6 => ?_) (fun c6 => ?_)
                    · have c6 : (1 : Int) = 0 := c6
                      exfalso; omega
                    · have c6 : (1 : Int) ≠ 0 := c6
                      refine hx_blk (npc := 55) (L' := [(0, .inr (.inl 86)), (1, .inl x1), (2, .inl x2), (3, .inl x3), (4, .inl x4), (5, .inl x5), (6, .inl x6), (7, .inl x7)]) (st' := [.inl x3, .inl x5]) (m' := m) [((52, .iload 5, 2, 0, 0, 0, 0), (0, 0, 0)), ((54, .iload_n 3, 1, 0, 0, 0, 0), (0, 0, 0))] (by decide +kernel) rfl ?_
                      refine hx_call (E := (55, .invokestatic 104, 3, 165, 0, 6035, 0)) (M' := yp_m165) [.inl x5, .inl x3] [] rfl (by decide +kernel) rfl ⟨rfl, rfl⟩ rfl rfl (hs165 (fun c6 => ?_) (fun c6 => ?_))
                      · have c6 : gx_and (gx_shr x5 x3) 1 = 1 := c6
                        show hxn xs n yp_m163 58 [(0, .inr (.inl 86)), (1, .inl x1), (2, .inl x2), (3, .inl x3), (4, .inl x4), (5, .inl x5), (6, .inl x6), (7, .inl x7)] [.inl 1] m Q
                        refine hx_if .ne 88 (by decide +kernel) (fun c7 => ?_) (fun c7 => ?_)
                        · have c7 : (1 : Int) ≠ 0 := c7
                          refine hx_blk (npc := 89) (L' := [(0, .inr (.inl 86)), (1, .inl x1), (2, .inl x2), (3, .inl x3), (4, .inl x4), (5, .inl x5), (6, .inl x6), (7, .inl x7)]) (st' := [.inl 0]) (m' := m) [((88, .iconst 0, 1, 0, 0, 0, 0), (0, 0, 0))] (by decide +kernel) rfl ?_
                          exact hx_reti (by decide +kernel) (h1 c1 c2 c3 c4 c5 c6)
                        · have c7 : (1 : Int) = 0 := by have h : ¬ ((1 : Int) ≠ 0) := c7; omega
                          exfalso; omega
                      · have c6 : ¬ (gx_and (gx_shr x5 x3) 1 = 1) := c6
                        show hxn xs n yp_m163 58 [(0, .inr (.inl 86)), (1, .inl x1), (2, .inl x2), (3, .inl x3), (4, .inl x4), (5, .inl x5), (6, .inl x6), (7, .inl x7)] [.inl 0] m Q
                        refine hx_if .ne 88 (by decide +kernel) (fun c7 => ?_) (fun c7 => ?_)
                        · have c7 : (0 : Int) ≠ 0 := c7
                          exfalso; omega
                        · have c7 : (0 : Int) = 0 := by have h : ¬ ((0 : Int) ≠ 0) := c7; omega
                          refine hx_blk (npc := 74) (L' := [(0, .inr (.inl 86)), (1, .inl x1), (2, .inl x2), (3, .inl x3), (4, .inl x4), (5, .inl x5), (6, .inl x6), (7, .inl x7)]) (st' := [.inl (gx_and x5 (gx_xor (m 87 1128) (-1)))]) (m' := m) [((61, .iload 5, 2, 0, 0, 0, 0), (0, 0, 0)), ((63, .aload_n 0, 1, 0, 0, 0, 0), (0, 0, 0)), ((64, .getfield 7, 3, 10, 0, 5113, 0), (1, 86, 87)), ((67, .sipush 1128, 3, 0, 0, 0, 0), (0, 0, 0)), ((70, .iaload, 1, 0, 0, 0, 0), (0, 87, 0)), ((71, .iconst (-1), 1, 0, 0, 0, 0), (0, 0, 0)), ((72, .ixor, 1, 0, 0, 0, 0), (0, 0, 0)), ((73, .iand, 1, 0, 0, 0, 0), (0, 0, 0))] (by decide +kernel) rfl ?_
                          refine hx_if .ne 88 (by decide +kernel) (fun c7 => ?_) (fun c7 => ?_)
                          · have c7 : (gx_and x5 (gx_xor (m 87 1128) (-1))) ≠ 0 := c7
                            refine hx_blk (npc := 89) (L' := [(0, .inr (.inl 86)), (1, .inl x1), (2, .inl x2), (3, .inl x3), (4, .inl x4), (5, .inl x5), (6, .inl x6), (7, .inl x7)]) (st' := [.inl 0]) (m' := m) [((88, .iconst 0, 1, 0, 0, 0, 0), (0, 0, 0))] (by decide +kernel) rfl ?_
                            exact hx_reti (by decide +kernel) (h2 c1 c2 c3 c4 c5 c6 c7)
                          · have c7 : (gx_and x5 (gx_xor (m 87 1128) (-1))) = 0 := by have h : ¬ ((gx_and x5 (gx_xor (m 87 1128) (-1))) ≠ 0) := c7; omega
                            refine hx_blk (npc := 82) (L' := [(0, .inr (.inl 86)), (1, .inl x1), (2, .inl x2), (3, .inl x3), (4, .inl x4), (5, .inl x5), (6, .inl x6), (7, .inl x7)]) (st' := [.inl 9, .inl 0, .inl x7]) (m' := m) [((77, .iload 7, 2, 0, 0, 0, 0), (0, 0, 0)), ((79, .iconst 0, 1, 0, 0, 0, 0), (0, 0, 0)), ((80, .bipush 9, 2, 0, 0, 0, 0), (0, 0, 0))] (by decide +kernel) rfl ?_
                            refine hx_call (E := (82, .invokestatic 108, 3, 162, 0, 6023, 0)) (M' := yp_m162) [.inl x7, .inl 0, .inl 9] [] rfl (by decide +kernel) rfl ⟨rfl, rfl⟩ rfl rfl (hs162 (fun c8 => ?_) (fun c8 => ?_))
                            · have c8 : 0 ≤ x7 ∧ x7 ≤ 9 := c8
                              show hxn xs n yp_m163 85 [(0, .inr (.inl 86)), (1, .inl x1), (2, .inl x2), (3, .inl x3), (4, .inl x4), (5, .inl x5), (6, .inl x6), (7, .inl x7)] [.inl 1] m Q
                              refine hx_if .ne 90 (by decide +kernel) (fun c9 => ?_) (fun c9 => ?_)
                              · have c9 : (1 : Int) ≠ 0 := c9
                                refine hx_blk (npc := 153) (L' := [(0, .inr (.inl 86)), (1, .inl x1), (2, .inl x2), (3, .inl x3), (4, .inl x4), (5, .inl x5), (6, .inl x6), (7, .inl x7)]) (st' := [.inl x6, .inl (gx_w (160 + x1)), .inr (.inl 87)]) (m' := (gx_u (gx_u (gx_u (gx_u (gx_u m 87 (gx_w (440 + x1)).toNat 1) 87 (gx_w (0 + x1)).toNat x2) 87 (gx_w (40 + x1)).toNat x3) 87 (gx_w (80 + x1)).toNat x4) 87 (gx_w (120 + x1)).toNat x5)) [((90, .aload_n 0, 1, 0, 0, 0, 0), (0, 0, 0)), ((91, .getfield 7, 3, 10, 0, 5113, 0), (1, 86, 87)), ((94, .sipush 440, 3, 0, 0, 0, 0), (0, 0, 0)), ((97, .iload_n 1, 1, 0, 0, 0, 0), (0, 0, 0)), ((98, .iadd, 1, 0, 0, 0, 0), (0, 0, 0)), ((99, .iconst 1, 1, 0, 0, 0, 0), (0, 0, 0)), ((100, .iastore, 1, 0, 0, 0, 0), (0, 87, 0)), ((101, .aload_n 0, 1, 0, 0, 0, 0), (0, 0, 0)), ((102, .getfield 7, 3, 10, 0, 5113, 0), (1, 86, 87)), ((105, .iconst 0, 1, 0, 0, 0, 0), (0, 0, 0)), ((106, .iload_n 1, 1, 0, 0, 0, 0), (0, 0, 0)), ((107, .iadd, 1, 0, 0, 0, 0), (0, 0, 0)), ((108, .iload_n 2, 1, 0, 0, 0, 0), (0, 0, 0)), ((109, .iastore, 1, 0, 0, 0, 0), (0, 87, 0)), ((110, .aload_n 0, 1, 0, 0, 0, 0), (0, 0, 0)), ((111, .getfield 7, 3, 10, 0, 5113, 0), (1, 86, 87)), ((114, .bipush 40, 2, 0, 0, 0, 0), (0, 0, 0)), ((116, .iload_n 1, 1, 0, 0, 0, 0), (0, 0, 0)), ((117, .iadd, 1, 0, 0, 0, 0), (0, 0, 0)), ((118, .iload_n 3, 1, 0, 0, 0, 0), (0, 0, 0)), ((119, .iastore, 1, 0, 0, 0, 0), (0, 87, 0)), ((120, .aload_n 0, 1, 0, 0, 0, 0), (0, 0, 0)), ((121, .getfield 7, 3, 10, 0, 5113, 0), (1, 86, 87)), ((124, .bipush 80, 2, 0, 0, 0, 0), (0, 0, 0)), ((126, .iload_n 1, 1, 0, 0, 0, 0), (0, 0, 0)), ((127, .iadd, 1, 0, 0, 0, 0), (0, 0, 0)), ((128, .iload 4, 2, 0, 0, 0, 0), (0, 0, 0)), ((130, .iastore, 1, 0, 0, 0, 0), (0, 87, 0)), ((131, .aload_n 0, 1, 0, 0, 0, 0), (0, 0, 0)), ((132, .getfield 7, 3, 10, 0, 5113, 0), (1, 86, 87)), ((135, .bipush 120, 2, 0, 0, 0, 0), (0, 0, 0)), ((137, .iload_n 1, 1, 0, 0, 0, 0), (0, 0, 0)), ((138, .iadd, 1, 0, 0, 0, 0), (0, 0, 0)), ((139, .iload 5, 2, 0, 0, 0, 0), (0, 0, 0)), ((141, .iastore, 1, 0, 0, 0, 0), (0, 87, 0)), ((142, .aload_n 0, 1, 0, 0, 0, 0), (0, 0, 0)), ((143, .getfield 7, 3, 10, 0, 5113, 0), (1, 86, 87)), ((146, .sipush 160, 3, 0, 0, 0, 0), (0, 0, 0)), ((149, .iload_n 1, 1, 0, 0, 0, 0), (0, 0, 0)), ((150, .iadd, 1, 0, 0, 0, 0), (0, 0, 0)), ((151, .iload 6, 2, 0, 0, 0, 0), (0, 0, 0))] (by decide +kernel) rfl ?_
                                refine hx_if .eq 160 (by decide +kernel) (fun c9 => ?_) (fun c9 => ?_)
                                · have c9 : x6 = 0 := c9
                                  refine hx_blk (npc := 245) (L' := [(0, .inr (.inl 86)), (1, .inl x1), (2, .inl x2), (3, .inl x3), (4, .inl x4), (5, .inl x5), (6, .inl x6), (7, .inl x7)]) (st' := [.inl 1]) (m' := (gx_u (gx_u (gx_u (gx_u (gx_u (gx_u (gx_u (gx_u (gx_u (gx_u (gx_u (gx_u (gx_u m 87 (gx_w (440 + x1)).toNat 1) 87 (gx_w (0 + x1)).toNat x2) 87 (gx_w (40 + x1)).toNat x3) 87 (gx_w (80 + x1)).toNat x4) 87 (gx_w (120 + x1)).toNat x5) 87 (gx_w (160 + x1)).toNat 0) 87 (gx_w (200 + x1)).toNat x7) 87 (gx_w (240 + x1)).toNat x3) 87 (gx_w (280 + x1)).toNat (-2)) 87 (gx_w (320 + x1)).toNat 0) 87 (gx_w (360 + x1)).toNat 0) 87 (gx_w (400 + x1)).toNat 1) 87 (gx_w (480 + (gx_w (16 * x1)))).toNat x3)) [((160, .iconst 0, 1, 0, 0, 0, 0), (0, 0, 0)), ((161, .iastore, 1, 0, 0, 0, 0), (0, 87, 0)), ((162, .aload_n 0, 1, 0, 0, 0, 0), (0, 0, 0)), ((163, .getfield 7, 3, 10, 0, 5113, 0), (1, 86, 87)), ((166, .sipush 200, 3, 0, 0, 0, 0), (0, 0, 0)), ((169, .iload_n 1, 1, 0, 0, 0, 0), (0, 0, 0)), ((170, .iadd, 1, 0, 0, 0, 0), (0, 0, 0)), ((171, .iload 7, 2, 0, 0, 0, 0), (0, 0, 0)), ((173, .iastore, 1, 0, 0, 0, 0), (0, 87, 0)), ((174, .aload_n 0, 1, 0, 0, 0, 0), (0, 0, 0)), ((175, .getfield 7, 3, 10, 0, 5113, 0), (1, 86, 87)), ((178, .sipush 240, 3, 0, 0, 0, 0), (0, 0, 0)), ((181, .iload_n 1, 1, 0, 0, 0, 0), (0, 0, 0)), ((182, .iadd, 1, 0, 0, 0, 0), (0, 0, 0)), ((183, .iload_n 3, 1, 0, 0, 0, 0), (0, 0, 0)), ((184, .iastore, 1, 0, 0, 0, 0), (0, 87, 0)), ((185, .aload_n 0, 1, 0, 0, 0, 0), (0, 0, 0)), ((186, .getfield 7, 3, 10, 0, 5113, 0), (1, 86, 87)), ((189, .sipush 280, 3, 0, 0, 0, 0), (0, 0, 0)), ((192, .iload_n 1, 1, 0, 0, 0, 0), (0, 0, 0)), ((193, .iadd, 1, 0, 0, 0, 0), (0, 0, 0)), ((194, .bipush (-2), 2, 0, 0, 0, 0), (0, 0, 0)), ((196, .iastore, 1, 0, 0, 0, 0), (0, 87, 0)), ((197, .aload_n 0, 1, 0, 0, 0, 0), (0, 0, 0)), ((198, .getfield 7, 3, 10, 0, 5113, 0), (1, 86, 87)), ((201, .sipush 320, 3, 0, 0, 0, 0), (0, 0, 0)), ((204, .iload_n 1, 1, 0, 0, 0, 0), (0, 0, 0)), ((205, .iadd, 1, 0, 0, 0, 0), (0, 0, 0)), ((206, .iconst 0, 1, 0, 0, 0, 0), (0, 0, 0)), ((207, .iastore, 1, 0, 0, 0, 0), (0, 87, 0)), ((208, .aload_n 0, 1, 0, 0, 0, 0), (0, 0, 0)), ((209, .getfield 7, 3, 10, 0, 5113, 0), (1, 86, 87)), ((212, .sipush 360, 3, 0, 0, 0, 0), (0, 0, 0)), ((215, .iload_n 1, 1, 0, 0, 0, 0), (0, 0, 0)), ((216, .iadd, 1, 0, 0, 0, 0), (0, 0, 0)), ((217, .iconst 0, 1, 0, 0, 0, 0), (0, 0, 0)), ((218, .iastore, 1, 0, 0, 0, 0), (0, 87, 0)), ((219, .aload_n 0, 1, 0, 0, 0, 0), (0, 0, 0)), ((220, .getfield 7, 3, 10, 0, 5113, 0), (1, 86, 87)), ((223, .sipush 400, 3, 0, 0, 0, 0), (0, 0, 0)), ((226, .iload_n 1, 1, 0, 0, 0, 0), (0, 0, 0)), ((227, .iadd, 1, 0, 0, 0, 0), (0, 0, 0)), ((228, .iconst 1, 1, 0, 0, 0, 0), (0, 0, 0)), ((229, .iastore, 1, 0, 0, 0, 0), (0, 87, 0)), ((230, .aload_n 0, 1, 0, 0, 0, 0), (0, 0, 0)), ((231, .getfield 7, 3, 10, 0, 5113, 0), (1, 86, 87)), ((234, .sipush 480, 3, 0, 0, 0, 0), (0, 0, 0)), ((237, .bipush 16, 2, 0, 0, 0, 0), (0, 0, 0)), ((239, .iload_n 1, 1, 0, 0, 0, 0), (0, 0, 0)), ((240, .imul, 1, 0, 0, 0, 0), (0, 0, 0)), ((241, .iadd, 1, 0, 0, 0, 0), (0, 0, 0)), ((242, .iload_n 3, 1, 0, 0, 0, 0), (0, 0, 0)), ((243, .iastore, 1, 0, 0, 0, 0), (0, 87, 0)), ((244, .iconst 1, 1, 0, 0, 0, 0), (0, 0, 0))] (by decide +kernel) rfl ?_
                                  exact hx_reti (by decide +kernel) (h3 c1 c2 c3 c4 c5 c6 c7 c8 c9)
                                · have c9 : x6 ≠ 0 := c9
                                  refine hx_blk (npc := 245) (L' := [(0, .inr (.inl 86)), (1, .inl x1), (2, .inl x2), (3, .inl x3), (4, .inl x4), (5, .inl x5), (6, .inl x6), (7, .inl x7)]) (st' := [.inl 1]) (m' := (gx_u (gx_u (gx_u (gx_u (gx_u (gx_u (gx_u (gx_u (gx_u (gx_u (gx_u (gx_u (gx_u m 87 (gx_w (440 + x1)).toNat 1) 87 (gx_w (0 + x1)).toNat x2) 87 (gx_w (40 + x1)).toNat x3) 87 (gx_w (80 + x1)).toNat x4) 87 (gx_w (120 + x1)).toNat x5) 87 (gx_w (160 + x1)).toNat 1) 87 (gx_w (200 + x1)).toNat x7) 87 (gx_w (240 + x1)).toNat x3) 87 (gx_w (280 + x1)).toNat (-2)) 87 (gx_w (320 + x1)).toNat 0) 87 (gx_w (360 + x1)).toNat 0) 87 (gx_w (400 + x1)).toNat 1) 87 (gx_w (480 + (gx_w (16 * x1)))).toNat x3)) [((156, .iconst 1, 1, 0, 0, 0, 0), (0, 0, 0)), ((157, .goto 4, 3, 0, 0, 0, 0), (0, 0, 0)), ((161, .iastore, 1, 0, 0, 0, 0), (0, 87, 0)), ((162, .aload_n 0, 1, 0, 0, 0, 0), (0, 0, 0)), ((163, .getfield 7, 3, 10, 0, 5113, 0), (1, 86, 87)), ((166, .sipush 200, 3, 0, 0, 0, 0), (0, 0, 0)), ((169, .iload_n 1, 1, 0, 0, 0, 0), (0, 0, 0)), ((170, .iadd, 1, 0, 0, 0, 0), (0, 0, 0)), ((171, .iload 7, 2, 0, 0, 0, 0), (0, 0, 0)), ((173, .iastore, 1, 0, 0, 0, 0), (0, 87, 0)), ((174, .aload_n 0, 1, 0, 0, 0, 0), (0, 0, 0)), ((175, .getfield 7, 3, 10, 0, 5113, 0), (1, 86, 87)), ((178, .sipush 240, 3, 0, 0, 0, 0), (0, 0, 0)), ((181, .iload_n 1, 1, 0, 0, 0, 0), (0, 0, 0)), ((182, .iadd, 1, 0, 0, 0, 0), (0, 0, 0)), ((183, .iload_n 3, 1, 0, 0, 0, 0), (0, 0, 0)), ((184, .iastore, 1, 0, 0, 0, 0), (0, 87, 0)), ((185, .aload_n 0, 1, 0, 0, 0, 0), (0, 0, 0)), ((186, .getfield 7, 3, 10, 0, 5113, 0), (1, 86, 87)), ((189, .sipush 280, 3, 0, 0, 0, 0), (0, 0, 0)), ((192, .iload_n 1, 1, 0, 0, 0, 0), (0, 0, 0)), ((193, .iadd, 1, 0, 0, 0, 0), (0, 0, 0)), ((194, .bipush (-2), 2, 0, 0, 0, 0), (0, 0, 0)), ((196, .iastore, 1, 0, 0, 0, 0), (0, 87, 0)), ((197, .aload_n 0, 1, 0, 0, 0, 0), (0, 0, 0)), ((198, .getfield 7, 3, 10, 0, 5113, 0), (1, 86, 87)), ((201, .sipush 320, 3, 0, 0, 0, 0), (0, 0, 0)), ((204, .iload_n 1, 1, 0, 0, 0, 0), (0, 0, 0)), ((205, .iadd, 1, 0, 0, 0, 0), (0, 0, 0)), ((206, .iconst 0, 1, 0, 0, 0, 0), (0, 0, 0)), ((207, .iastore, 1, 0, 0, 0, 0), (0, 87, 0)), ((208, .aload_n 0, 1, 0, 0, 0, 0), (0, 0, 0)), ((209, .getfield 7, 3, 10, 0, 5113, 0), (1, 86, 87)), ((212, .sipush 360, 3, 0, 0, 0, 0), (0, 0, 0)), ((215, .iload_n 1, 1, 0, 0, 0, 0), (0, 0, 0)), ((216, .iadd, 1, 0, 0, 0, 0), (0, 0, 0)), ((217, .iconst 0, 1, 0, 0, 0, 0), (0, 0, 0)), ((218, .iastore, 1, 0, 0, 0, 0), (0, 87, 0)), ((219, .aload_n 0, 1, 0, 0, 0, 0), (0, 0, 0)), ((220, .getfield 7, 3, 10, 0, 5113, 0), (1, 86, 87)), ((223, .sipush 400, 3, 0, 0, 0, 0), (0, 0, 0)), ((226, .iload_n 1, 1, 0, 0, 0, 0), (0, 0, 0)), ((227, .iadd, 1, 0, 0, 0, 0), (0, 0, 0)), ((228, .iconst 1, 1, 0, 0, 0, 0), (0, 0, 0)), ((229, .iastore, 1, 0, 0, 0, 0), (0, 87, 0)), ((230, .aload_n 0, 1, 0, 0, 0, 0), (0, 0, 0)), ((231, .getfield 7, 3, 10, 0, 5113, 0), (1, 86, 87)), ((234, .sipush 480, 3, 0, 0, 0, 0), (0, 0, 0)), ((237, .bipush 16, 2, 0, 0, 0, 0), (0, 0, 0)), ((239, .iload_n 1, 1, 0, 0, 0, 0), (0, 0, 0)), ((240, .imul, 1, 0, 0, 0, 0), (0, 0, 0)), ((241, .iadd, 1, 0, 0, 0, 0), (0, 0, 0)), ((242, .iload_n 3, 1, 0, 0, 0, 0), (0, 0, 0)), ((243, .iastore, 1, 0, 0, 0, 0), (0, 87, 0)), ((244, .iconst 1, 1, 0, 0, 0, 0), (0, 0, 0))] (by decide +kernel) rfl ?_
                                  exact hx_reti (by decide +kernel) (h4 c1 c2 c3 c4 c5 c6 c7 c8 c9)
                              · have c9 : (1 : Int) = 0 := by have h : ¬ ((1 : Int) ≠ 0) := c9; omega
                                exfalso; omega
                            · have c8 : ¬ (0 ≤ x7 ∧ x7 ≤ 9) := c8
                              show hxn xs n yp_m163 85 [(0, .inr (.inl 86)), (1, .inl x1), (2, .inl x2), (3, .inl x3), (4, .inl x4), (5, .inl x5), (6, .inl x6), (7, .inl x7)] [.inl 0] m Q
                              refine hx_if .ne 90 (by decide +kernel) (fun c9 => ?_) (fun c9 => ?_)
                              · have c9 : (0 : Int) ≠ 0 := c9
                                exfalso; omega
                              · have c9 : (0 : Int) = 0 := by have h : ¬ ((0 : Int) ≠ 0) := c9; omega
                                refine hx_blk (npc := 89) (L' := [(0, .inr (.inl 86)), (1, .inl x1), (2, .inl x2), (3, .inl x3), (4, .inl x4), (5, .inl x5), (6, .inl x6), (7, .inl x7)]) (st' := [.inl 0]) (m' := m) [((88, .iconst 0, 1, 0, 0, 0, 0), (0, 0, 0))] (by decide +kernel) rfl ?_
                                exact hx_reti (by decide +kernel) (h5 c1 c2 c3 c4 c5 c6 c7 c8)
                  · have c5 : ¬ (0 ≤ x5 ∧ x5 ≤ 255) := c5
                    show hxn xs n yp_m163 49 [(0, .inr (.inl 86)), (1, .inl x1), (2, .inl x2), (3, .inl x3), (4, .inl x4), (5, .inl x5), (6, .inl x6), (7, .inl x7)] [.inl 0] m Q
                    refine hx_if .eq 88 (by decide +kernel) (fun c6 => ?_) (fun c6 => ?_)
                    · have c6 : (0 : Int) = 0 := c6
                      refine hx_blk (npc := 89) (L' := [(0, .inr (.inl 86)), (1, .inl x1), (2, .inl x2), (3, .inl x3), (4, .inl x4), (5, .inl x5), (6, .inl x6), (7, .inl x7)]) (st' := [.inl 0]) (m' := m) [((88, .iconst 0, 1, 0, 0, 0, 0), (0, 0, 0))] (by decide +kernel) rfl ?_
                      exact hx_reti (by decide +kernel) (h6 c1 c2 c3 c4 c5)
                    · have c6 : (0 : Int) ≠ 0 := c6
                      exfalso; omega
              · have c4 : ¬ (0 ≤ x4 ∧ x4 ≤ 4095) := c4
                show hxn xs n yp_m163 37 [(0, .inr (.inl 86)), (1, .inl x1), (2, .inl x2), (3, .inl x3), (4, .inl x4), (5, .inl x5), (6, .inl x6), (7, .inl x7)] [.inl 0] m Q
                refine hx_if .eq 88 (by decide +kernel) (fun c5 => ?_) (fun c5 => ?_)
                · have c5 : (0 : Int) = 0 := c5
                  refine hx_blk (npc := 89) (L' := [(0, .inr (.inl 86)), (1, .inl x1), (2, .inl x2), (3, .inl x3), (4, .inl x4), (5, .inl x5), (6, .inl x6), (7, .inl x7)]) (st' := [.inl 0]) (m' := m) [((88, .iconst 0, 1, 0, 0, 0, 0), (0, 0, 0))] (by decide +kernel) rfl ?_
                  exact hx_reti (by decide +kernel) (h7 c1 c2 c3 c4)
                · have c5 : (0 : Int) ≠ 0 := c5
                  exfalso; omega
          · have c3 : ¬ (aPers (m 87) x3) := c3
            show hxn xs n yp_m163 25 [(0, .inr (.inl 86)), (1, .inl x1), (2, .inl x2), (3, .inl x3), (4, .inl x4), (5, .inl x5), (6, .inl x6), (7, .inl x7)] [.inl 0] m Q
            refine hx_if .eq 88 (by decide +kernel) (fun c4 => ?_) (fun c4 => ?_)
            · have c4 : (0 : Int) = 0 := c4
              refine hx_blk (npc := 89) (L' := [(0, .inr (.inl 86)), (1, .inl x1), (2, .inl x2), (3, .inl x3), (4, .inl x4), (5, .inl x5), (6, .inl x6), (7, .inl x7)]) (st' := [.inl 0]) (m' := m) [((88, .iconst 0, 1, 0, 0, 0, 0), (0, 0, 0))] (by decide +kernel) rfl ?_
              exact hx_reti (by decide +kernel) (h8 c1 c2 c3)
            · have c4 : (0 : Int) ≠ 0 := c4
              exfalso; omega
      · have c2 : ¬ (0 ≤ x2 ∧ x2 ≤ 99) := c2
        show hxn xs n yp_m163 17 [(0, .inr (.inl 86)), (1, .inl x1), (2, .inl x2), (3, .inl x3), (4, .inl x4), (5, .inl x5), (6, .inl x6), (7, .inl x7)] [.inl 0] m Q
        refine hx_if .eq 88 (by decide +kernel) (fun c3 => ?_) (fun c3 => ?_)
        · have c3 : (0 : Int) = 0 := c3
          refine hx_blk (npc := 89) (L' := [(0, .inr (.inl 86)), (1, .inl x1), (2, .inl x2), (3, .inl x3), (4, .inl x4), (5, .inl x5), (6, .inl x6), (7, .inl x7)]) (st' := [.inl 0]) (m' := m) [((88, .iconst 0, 1, 0, 0, 0, 0), (0, 0, 0))] (by decide +kernel) rfl ?_
          exact hx_reti (by decide +kernel) (h9 c1 c2)
        · have c3 : (0 : Int) ≠ 0 := c3
          exfalso; omega
  · have c1 : ¬ (0 ≤ x1 ∧ x1 ≤ 39) := c1
    show hxn xs n yp_m163 7 [(0, .inr (.inl 86)), (1, .inl x1), (2, .inl x2), (3, .inl x3), (4, .inl x4), (5, .inl x5), (6, .inl x6), (7, .inl x7)] [.inl 0] m Q
    refine hx_if .eq 88 (by decide +kernel) (fun c2 => ?_) (fun c2 => ?_)
    · have c2 : (0 : Int) = 0 := c2
      refine hx_blk (npc := 89) (L' := [(0, .inr (.inl 86)), (1, .inl x1), (2, .inl x2), (3, .inl x3), (4, .inl x4), (5, .inl x5), (6, .inl x6), (7, .inl x7)]) (st' := [.inl 0]) (m' := m) [((88, .iconst 0, 1, 0, 0, 0, 0), (0, 0, 0))] (by decide +kernel) rfl ?_
      exact hx_reti (by decide +kernel) (h10 c1)
    · have c2 : (0 : Int) ≠ 0 := c2
      exfalso; omega

/-- yearMany from 0 on -/
theorem hr270_0 {xs : List Int32} {n : Nat} {Q : hQ} {m : gx_M}
    (h1 : hxn xs n yp_m270 4 [(0, .inr (.inl 86)), (1, .inl 0), (2, .inl 0)] [] m Q) : hxn xs (n + 1) yp_m270 0 [(0, .inr (.inl 86))] [] m Q := by
  refine hx_blks (npc := 4) (L' := [(0, .inr (.inl 86)), (1, .inl 0), (2, .inl 0)]) (st' := []) (m' := m) ((0, .iconst 0, 1, 0, 0, 0, 0), (0, 0, 0)) [((1, .istore_n 1, 1, 0, 0, 0, 0), (0, 0, 0)), ((2, .iconst 0, 1, 0, 0, 0, 0), (0, 0, 0)), ((3, .istore_n 2, 1, 0, 0, 0, 0), (0, 0, 0))] (by decide +kernel) rfl ?_
  exact hx_pick [0, 1, 2] h1

/-- yearMany from 4 on -/
theorem hr270_4 {xs : List Int32} {n : Nat} {Q : hQ} {m : gx_M} {x1 x2 : Int} (r_x1 : 0 ≤ x1 ∧ x1 ≤ 40) (r_x2 : 0 ≤ x2 ∧ x2 ≤ 40)
    (h1 : (40 ≤ x2) → Q (some (.inl x1)) m)
    (h2 : (x2 < 40) → hxn xs n yp_m270 4 [(0, .inr (.inl 86)), (1, .inl (gx_w (x1 + (m 87 (440 + x2).toNat)))), (2, .inl (x2 + 1))] [] m Q) : hxn xs (n + 1) yp_m270 4 [(0, .inr (.inl 86)), (1, .inl x1), (2, .inl x2)] [] m Q := by
  refine hx_blks (npc := 7) (L' := [(0, .inr (.inl 86)), (1, .inl x1), (2, .inl x2)]) (st' := [.inl 40, .inl x2]) (m' := m) ((4, .iload_n 2, 1, 0, 0, 0, 0), (0, 0, 0)) [((5, .bipush 40, 2, 0, 0, 0, 0), (0, 0, 0))] (by decide +kernel) rfl ?_
  refine hx_cmp .ge 29 (by decide +kernel) (fun c1 => ?_) (fun c1 => ?_)
  · have c1 : 40 ≤ x2 := c1
    refine hx_blk (npc := 30) (L' := [(0, .inr (.inl 86)), (1, .inl x1), (2, .inl x2)]) (st' := [.inl x1]) (m' := m) [((29, .iload_n 1, 1, 0, 0, 0, 0), (0, 0, 0))] (by decide +kernel) rfl ?_
    exact hx_reti (by decide +kernel) (h1 c1)
  · have c1 : x2 < 40 := by have h : ¬ (40 ≤ x2) := c1; omega
    have e1 : gx_w (440 + x2) = 440 + x2 := gx_w_id (by omega) (by omega)
    have e2 : gx_w (x2 + 1) = x2 + 1 := gx_w_id (by omega) (by omega)
    refine hx_blk (npc := 4) (L' := [(0, .inr (.inl 86)), (1, .inl (gx_w (x1 + (m 87 (gx_w (440 + x2)).toNat)))), (2, .inl (gx_w (x2 + 1)))]) (st' := []) (m' := m) [((10, .iload_n 1, 1, 0, 0, 0, 0), (0, 0, 0)), ((11, .aload_n 0, 1, 0, 0, 0, 0), (0, 0, 0)), ((12, .getfield 7, 3, 10, 0, 5113, 0), (1, 86, 87)), ((15, .sipush 440, 3, 0, 0, 0, 0), (0, 0, 0)), ((18, .iload_n 2, 1, 0, 0, 0, 0), (0, 0, 0)), ((19, .iadd, 1, 0, 0, 0, 0), (0, 0, 0)), ((20, .iaload, 1, 0, 0, 0, 0), (0, 87, 0)), ((21, .iadd, 1, 0, 0, 0, 0), (0, 0, 0)), ((22, .istore_n 1, 1, 0, 0, 0, 0), (0, 0, 0)), ((23, .iinc 2 1, 3, 0, 0, 0, 0), (0, 0, 0)), ((26, .goto (-22), 3, 0, 0, 0, 0), (0, 0, 0))] (by decide +kernel) rfl ?_
    rw [e1, e2]
    exact hx_pick [0, 1, 2] (h2 c1)

/-- keep from 0 on -/
theorem hr269_0 {xs : List Int32} {n : Nat} {Q : hQ} {m : gx_M}
    (h1 : hxn xs n yp_m270 0 [(0, .inr (.inl 86))] [] (hcopy (gx_u m 86 47 1) 87 0 89 0 1131) (fun r m' => hxn xs n yp_m269 20 [] (hrs r ++ []) m' Q)) : hxn xs (n + 1) yp_m269 0 [(0, .inr (.inl 86))] [] m Q := by
  refine hx_blks (npc := 13) (L' := [(0, .inr (.inl 86))]) (st' := [.inr (.inl 89), .inr (.inl 87)]) (m' := (gx_u m 86 47 1)) ((0, .aload_n 0, 1, 0, 0, 0, 0), (0, 0, 0)) [((1, .iconst 1, 1, 0, 0, 0, 0), (0, 0, 0)), ((2, .putfield 416, 3, 10, 47, 5160, 0), (0, 86, 0)), ((5, .aload_n 0, 1, 0, 0, 0, 0), (0, 0, 0)), ((6, .getfield 7, 3, 10, 0, 5113, 0), (1, 86, 87)), ((9, .aload_n 0, 1, 0, 0, 0, 0), (0, 0, 0)), ((10, .getfield 16, 3, 10, 2, 5115, 0), (1, 86, 89))] (by decide +kernel) rfl ?_
  refine hx_call (E := (13, .invokestatic 290, 3, 212, 0, 6217, 0)) (M' := yp_m212) [.inr (.inl 87), .inr (.inl 89)] [] rfl (by decide +kernel) rfl ⟨rfl, rfl⟩ rfl rfl (hs212_87_89 ?_)
  show hxn xs n yp_m269 16 [(0, .inr (.inl 86))] [] (hcopy (gx_u m 86 47 1) 87 0 89 0 1131) Q
  refine hx_blk (npc := 17) (L' := [(0, .inr (.inl 86))]) (st' := [.inr (.inl 86)]) (m' := (hcopy (gx_u m 86 47 1) 87 0 89 0 1131)) [((16, .aload_n 0, 1, 0, 0, 0, 0), (0, 0, 0))] (by decide +kernel) rfl ?_
  exact hx_call (E := (17, .invokevirtual 420, 3, 270, 0, 7210, 0)) (M' := yp_m270) [.inr (.inl 86)] [] rfl (by decide +kernel) rfl ⟨rfl, rfl⟩ rfl rfl (hx_mono h1 (fun r m' h' => hx_pick [] h'))

/-- keep from 20 on -/
theorem hr269_20 {xs : List Int32} {n : Nat} {Q : hQ} {m : gx_M} {s0 : Int}
    (h1 : Q (some (.inl s0)) m) : hxn xs (n + 1) yp_m269 20 [] [.inl s0] m Q := by
  exact hx_reti (by decide +kernel) h1

/-- undo from 0 on -/
theorem hr271_0 {xs : List Int32} {n : Nat} {Q : hQ} {m : gx_M}
    (h1 : ((m 86 47) ≠ 0) → Q (some (.inl 1)) (hcopy m 89 0 87 0 1131))
    (h2 : ((m 86 47) = 0) → Q (some (.inl 0)) m) : hxn xs (n + 1) yp_m271 0 [(0, .inr (.inl 86))] [] m Q := by
  refine hx_blks (npc := 4) (L' := [(0, .inr (.inl 86))]) (st' := [.inl (m 86 47)]) (m' := m) ((0, .aload_n 0, 1, 0, 0, 0, 0), (0, 0, 0)) [((1, .getfield 416, 3, 10, 47, 5160, 0), (0, 86, 0))] (by decide +kernel) rfl ?_
  refine hx_if .ne 9 (by decide +kernel) (fun c1 => ?_) (fun c1 => ?_)
  · have c1 : (m 86 47) ≠ 0 := c1
    refine hx_blk (npc := 17) (L' := [(0, .inr (.inl 86))]) (st' := [.inr (.inl 87), .inr (.inl 89)]) (m' := m) [((9, .aload_n 0, 1, 0, 0, 0, 0), (0, 0, 0)), ((10, .getfield 16, 3, 10, 2, 5115, 0), (1, 86, 89)), ((13, .aload_n 0, 1, 0, 0, 0, 0), (0, 0, 0)), ((14, .getfield 7, 3, 10, 0, 5113, 0), (1, 86, 87))] (by decide +kernel) rfl ?_
    refine hx_call (E := (17, .invokestatic 290, 3, 212, 0, 6217, 0)) (M' := yp_m212) [.inr (.inl 89), .inr (.inl 87)] [] rfl (by decide +kernel) rfl ⟨rfl, rfl⟩ rfl rfl (hs212_89_87 ?_)
    show hxn xs n yp_m271 20 [(0, .inr (.inl 86))] [] (hcopy m 89 0 87 0 1131) Q
    refine hx_blk (npc := 21) (L' := [(0, .inr (.inl 86))]) (st' := [.inl 1]) (m' := (hcopy m 89 0 87 0 1131)) [((20, .iconst 1, 1, 0, 0, 0, 0), (0, 0, 0))] (by decide +kernel) rfl ?_
    exact hx_reti (by decide +kernel) (h1 c1)
  · have c1 : (m 86 47) = 0 := by have h : ¬ ((m 86 47) ≠ 0) := c1; omega
    refine hx_blk (npc := 8) (L' := [(0, .inr (.inl 86))]) (st' := [.inl 0]) (m' := m) [((7, .iconst 0, 1, 0, 0, 0, 0), (0, 0, 0))] (by decide +kernel) rfl ?_
    exact hx_reti (by decide +kernel) (h2 c1)

/-- seed from 0 on -/
theorem hr268_0 {xs : List Int32} {n : Nat} {Q : hQ} {m : gx_M} {x1 : Int}
    (h1 : (0 ≤ x1 ∧ x1 ≤ 65535) → Q (some (.inl 1)) (gx_u m 87 1130 x1))
    (h2 : (¬ (0 ≤ x1 ∧ x1 ≤ 65535)) → Q (some (.inl 0)) m) : hxn xs (n + 1) yp_m268 0 [(0, .inr (.inl 86)), (1, .inl x1)] [] m Q := by
  refine hx_blks (npc := 5) (L' := [(0, .inr (.inl 86)), (1, .inl x1)]) (st' := [.inl 65535, .inl 0, .inl x1]) (m' := m) ((0, .iload_n 1, 1, 0, 0, 0, 0), (0, 0, 0)) [((1, .iconst 0, 1, 0, 0, 0, 0), (0, 0, 0)), ((2, .ldc_w 415, 3, 0, 0, 7205, 65535), (0, 0, 0))] (by decide +kernel) rfl ?_
  refine hx_call (E := (5, .invokestatic 108, 3, 162, 0, 6023, 0)) (M' := yp_m162) [.inl x1, .inl 0, .inl 65535] [] rfl (by decide +kernel) rfl ⟨rfl, rfl⟩ rfl rfl (hs162 (fun c1 => ?_) (fun c1 => ?_))
  · have c1 : 0 ≤ x1 ∧ x1 ≤ 65535 := c1
    show hxn xs n yp_m268 8 [(0, .inr (.inl 86)), (1, .inl x1)] [.inl 1] m Q
    refine hx_if .ne 13 (by decide +kernel) (fun c2 => ?_) (fun c2 => ?_)
    · have c2 : (1 : Int) ≠ 0 := c2
      refine hx_blk (npc := 23) (L' := [(0, .inr (.inl 86)), (1, .inl x1)]) (st' := [.inl 1]) (m' := (gx_u m 87 1130 x1)) [((13, .aload_n 0, 1, 0, 0, 0, 0), (0, 0, 0)), ((14, .getfield 7, 3, 10, 0, 5113, 0), (1, 86, 87)), ((17, .sipush 1130, 3, 0, 0, 0, 0), (0, 0, 0)), ((20, .iload_n 1, 1, 0, 0, 0, 0), (0, 0, 0)), ((21, .iastore, 1, 0, 0, 0, 0), (0, 87, 0)), ((22, .iconst 1, 1, 0, 0, 0, 0), (0, 0, 0))] (by decide +kernel) rfl ?_
      exact hx_reti (by decide +kernel) (h1 c1)
    · have c2 : (1 : Int) = 0 := by have h : ¬ ((1 : Int) ≠ 0) := c2; omega
      exfalso; omega
  · have c1 : ¬ (0 ≤ x1 ∧ x1 ≤ 65535) := c1
    show hxn xs n yp_m268 8 [(0, .inr (.inl 86)), (1, .inl x1)] [.inl 0] m Q
    refine hx_if .ne 13 (by decide +kernel) (fun c2 => ?_) (fun c2 => ?_)
    · have c2 : (0 : Int) ≠ 0 := c2
      exfalso; omega
    · have c2 : (0 : Int) = 0 := by have h : ¬ ((0 : Int) ≠ 0) := c2; omega
      refine hx_blk (npc := 12) (L' := [(0, .inr (.inl 86)), (1, .inl x1)]) (st' := [.inl 0]) (m' := m) [((11, .iconst 0, 1, 0, 0, 0, 0), (0, 0, 0))] (by decide +kernel) rfl ?_
      exact hx_reti (by decide +kernel) (h2 c1)

