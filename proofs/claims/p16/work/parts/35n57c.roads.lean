/-! deals as the reference reads and does them: roads -/
/-- isYear from 0 on -/
theorem hs196 {xs : List Int32} {n : Nat} {Q : hQ} {m : gx_M} {x1 : Int}
    (h1 : aYr (m 87) x1 → Q (some (.inl 1)) m) (h0 : ¬ (aYr (m 87) x1) → Q (some (.inl 0)) m) : hxn xs n yp_m196 0 [(0, .inr (.inl 86)), (1, .inl x1)] [] m Q := by
  refine hx_dn ?_
  refine hx_blks (npc := 1) (L' := [(0, .inr (.inl 86)), (1, .inl x1)]) (st' := [.inl x1]) (m' := m) ((0, .iload_n 1, 1, 0, 0, 0, 0), (0, 0, 0)) [] (by decide +kernel) rfl ?_
  refine hx_if .lt 28 (by decide +kernel) (fun c1 => ?_) (fun c1 => ?_)
  · have c1 : x1 < 0 := c1
    refine hx_blk (npc := 29) (L' := [(0, .inr (.inl 86)), (1, .inl x1)]) (st' := [.inl 0]) (m' := m) [((28, .iconst 0, 1, 0, 0, 0, 0), (0, 0, 0))] (by decide +kernel) rfl ?_
    exact hx_reti (by decide +kernel) (h0 (by unfold aYr; omega))
  · have c1 : 0 ≤ x1 := by have h : ¬ (x1 < 0) := c1; omega
    refine hx_blk (npc := 7) (L' := [(0, .inr (.inl 86)), (1, .inl x1)]) (st' := [.inl 40, .inl x1]) (m' := m) [((4, .iload_n 1, 1, 0, 0, 0, 0), (0, 0, 0)), ((5, .bipush 40, 2, 0, 0, 0, 0), (0, 0, 0))] (by decide +kernel) rfl ?_
    refine hx_cmp .ge 28 (by decide +kernel) (fun c2 => ?_) (fun c2 => ?_)
    · have c2 : 40 ≤ x1 := c2
      refine hx_blk (npc := 29) (L' := [(0, .inr (.inl 86)), (1, .inl x1)]) (st' := [.inl 0]) (m' := m) [((28, .iconst 0, 1, 0, 0, 0, 0), (0, 0, 0))] (by decide +kernel) rfl ?_
      exact hx_reti (by decide +kernel) (h0 (by unfold aYr; omega))
    · have c2 : x1 < 40 := by have h : ¬ (40 ≤ x1) := c2; omega
      have e1 : gx_w (440 + x1) = 440 + x1 := gx_w_id (by omega) (by omega)
      refine hx_blk (npc := 21) (L' := [(0, .inr (.inl 86)), (1, .inl x1)]) (st' := [.inl 1, .inl (m 87 (gx_w (440 + x1)).toNat)]) (m' := m) [((10, .aload_n 0, 1, 0, 0, 0, 0), (0, 0, 0)), ((11, .getfield 7, 3, 10, 0, 5113, 0), (1, 86, 87)), ((14, .sipush 440, 3, 0, 0, 0, 0), (0, 0, 0)), ((17, .iload_n 1, 1, 0, 0, 0, 0), (0, 0, 0)), ((18, .iadd, 1, 0, 0, 0, 0), (0, 0, 0)), ((19, .iaload, 1, 0, 0, 0, 0), (0, 87, 0)), ((20, .iconst 1, 1, 0, 0, 0, 0), (0, 0, 0))] (by decide +kernel) rfl ?_
      rw [e1]
      refine hx_cmp .ne 28 (by decide +kernel) (fun c3 => ?_) (fun c3 => ?_)
      · have c3 : (m 87 (440 + x1).toNat) ≠ 1 := c3
        refine hx_blk (npc := 29) (L' := [(0, .inr (.inl 86)), (1, .inl x1)]) (st' := [.inl 0]) (m' := m) [((28, .iconst 0, 1, 0, 0, 0, 0), (0, 0, 0))] (by decide +kernel) rfl ?_
        exact hx_reti (by decide +kernel) (h0 (by unfold aYr; omega))
      · have c3 : (m 87 (440 + x1).toNat) = 1 := by have h : ¬ ((m 87 (440 + x1).toNat) ≠ 1) := c3; omega
        refine hx_blk (npc := 29) (L' := [(0, .inr (.inl 86)), (1, .inl x1)]) (st' := [.inl 1]) (m' := m) [((24, .iconst 1, 1, 0, 0, 0, 0), (0, 0, 0)), ((25, .goto 4, 3, 0, 0, 0, 0), (0, 0, 0))] (by decide +kernel) rfl ?_
        exact hx_reti (by decide +kernel) (h1 (by unfold aYr; omega))

/-- isOne from 0 on -/
theorem hs194 {xs : List Int32} {n : Nat} {Q : hQ} {m : gx_M}
    (h1 : isPn (aHere m) → Q (some (.inl 1)) m) (h0 : ¬ (isPn (aHere m)) → Q (some (.inl 0)) m) : hxn xs n yp_m194 0 [(0, .inr (.inl 86))] [] m Q := by
  refine hx_dn ?_
  refine hx_blks (npc := 1) (L' := [(0, .inr (.inl 86))]) (st' := [.inr (.inl 86)]) (m' := m) ((0, .aload_n 0, 1, 0, 0, 0, 0), (0, 0, 0)) [] (by decide +kernel) rfl ?_
  refine hx_call (E := (1, .invokevirtual 138, 3, 170, 0, 6054, 0)) (M' := yp_m170) [.inr (.inl 86)] [] rfl (by decide +kernel) rfl ⟨rfl, rfl⟩ rfl rfl (hs170 ?_)
  show hxn xs n yp_m194 4 [(0, .inr (.inl 86))] [.inl (aHere m)] m Q
  refine hx_blk (npc := 8) (L' := [(0, .inr (.inl 86))]) (st' := [.inl 104, .inl 97, .inl (aHere m)]) (m' := m) [((4, .bipush 97, 2, 0, 0, 0, 0), (0, 0, 0)), ((6, .bipush 104, 2, 0, 0, 0, 0), (0, 0, 0))] (by decide +kernel) rfl ?_
  refine hx_call (E := (8, .invokestatic 108, 3, 162, 0, 6023, 0)) (M' := yp_m162) [.inl (aHere m), .inl 97, .inl 104] [] rfl (by decide +kernel) rfl ⟨rfl, rfl⟩ rfl rfl (hs162 (fun c1 => ?_) (fun c1 => ?_))
  · have c1 : 97 ≤ (aHere m) ∧ (aHere m) ≤ 104 := c1
    show hxn xs n yp_m194 11 [(0, .inr (.inl 86))] [.inl 1] m Q
    exact hx_reti (by decide +kernel) (h1 (by unfold isPn; omega))
  · have c1 : ¬ (97 ≤ (aHere m) ∧ (aHere m) ≤ 104) := c1
    show hxn xs n yp_m194 11 [(0, .inr (.inl 86))] [.inl 0] m Q
    exact hx_reti (by decide +kernel) (h0 (by unfold isPn; omega))

/-- readsDigits from 0 on -/
theorem hr193_0 {xs : List Int32} {n : Nat} {Q : hQ} {m : gx_M} {x1 : Int}
    (h1 : hxn xs n yp_m193 10 [(0, .inr (.inl 86)), (1, .inl x1), (2, .inl (m 86 5))] [] (gx_u m 86 8 0) Q) : hxn xs (n + 1) yp_m193 0 [(0, .inr (.inl 86)), (1, .inl x1)] [] m Q := by
  refine hx_blks (npc := 10) (L' := [(0, .inr (.inl 86)), (1, .inl x1), (2, .inl (m 86 5))]) (st' := []) (m' := (gx_u m 86 8 0)) ((0, .aload_n 0, 1, 0, 0, 0, 0), (0, 0, 0)) [((1, .getfield 132, 3, 10, 5, 5118, 0), (0, 86, 0)), ((4, .istore_n 2, 1, 0, 0, 0, 0), (0, 0, 0)), ((5, .aload_n 0, 1, 0, 0, 0, 0), (0, 0, 0)), ((6, .iconst 0, 1, 0, 0, 0, 0), (0, 0, 0)), ((7, .putfield 148, 3, 10, 8, 5121, 0), (0, 86, 0))] (by decide +kernel) rfl ?_
  exact hx_pick [0, 1, 2] h1

/-- readsDigits from 10 on -/
theorem hr193_10 {xs : List Int32} {n : Nat} {Q : hQ} {m : gx_M} {x1 x2 : Int} (g0 : 0 ≤ (m 86 5) ∧ (m 86 5) ≤ 260)
    (h1 : (isDg (aHere m)) → ((gx_w (x2 + x1)) ≤ (m 86 5)) → (x2 < (m 86 5)) → Q (some (.inl 1)) m)
    (h2 : (isDg (aHere m)) → ((gx_w (x2 + x1)) ≤ (m 86 5)) → ((m 86 5) ≤ x2) → hxn xs n yp_m172 0 [(0, .inr (.inl 86)), (1, .inl 1), (2, .inl (m 86 5))] [] m (fun r m' => hxn xs n yp_m193 76 [] (hrs r ++ []) m' Q))
    (h3 : (isDg (aHere m)) → ((m 86 5) < (gx_w (x2 + x1))) → hxn xs n yp_m193 10 [(0, .inr (.inl 86)), (1, .inl x1), (2, .inl x2)] [] (gx_u (gx_u m 86 8 (gx_w ((gx_w ((gx_w (10 * (m 86 8))) + (aHere m))) - 48))) 86 5 ((m 86 5) + 1)) Q)
    (h4 : (¬ (isDg (aHere m))) → (x2 < (m 86 5)) → Q (some (.inl 1)) m)
    (h5 : (¬ (isDg (aHere m))) → ((m 86 5) ≤ x2) → hxn xs n yp_m172 0 [(0, .inr (.inl 86)), (1, .inl 1), (2, .inl (m 86 5))] [] m (fun r m' => hxn xs n yp_m193 76 [] (hrs r ++ []) m' Q)) : hxn xs (n + 1) yp_m193 10 [(0, .inr (.inl 86)), (1, .inl x1), (2, .inl x2)] [] m Q := by
  refine hx_blks (npc := 11) (L' := [(0, .inr (.inl 86)), (1, .inl x1), (2, .inl x2)]) (st' := [.inr (.inl 86)]) (m' := m) ((10, .aload_n 0, 1, 0, 0, 0, 0), (0, 0, 0)) [] (by decide +kernel) rfl ?_
  refine hx_call (E := (11, .invokevirtual 151, 3, 176, 0, 6078, 0)) (M' := yp_m176) [.inr (.inl 86)] [] rfl (by decide +kernel) rfl ⟨rfl, rfl⟩ rfl rfl (hs176 (fun c1 => ?_) (fun c1 => ?_))
  · have c1 : isDg (aHere m) := c1
    show hxn xs n yp_m193 14 [(0, .inr (.inl 86)), (1, .inl x1), (2, .inl x2)] [.inl 1] m Q
    refine hx_if .eq 59 (by decide +kernel) (fun c2 => ?_) (fun c2 => ?_)
    · have c2 : (1 : Int) = 0 := c2
      exfalso; omega
    · have c2 : (1 : Int) ≠ 0 := c2
      refine hx_blk (npc := 24) (L' := [(0, .inr (.inl 86)), (1, .inl x1), (2, .inl x2)]) (st' := [.inl (gx_w (x2 + x1)), .inl (m 86 5)]) (m' := m) [((17, .aload_n 0, 1, 0, 0, 0, 0), (0, 0, 0)), ((18, .getfield 132, 3, 10, 5, 5118, 0), (0, 86, 0)), ((21, .iload_n 2, 1, 0, 0, 0, 0), (0, 0, 0)), ((22, .iload_n 1, 1, 0, 0, 0, 0), (0, 0, 0)), ((23, .iadd, 1, 0, 0, 0, 0), (0, 0, 0))] (by decide +kernel) rfl ?_
      refine hx_cmp .ge 59 (by decide +kernel) (fun c2 => ?_) (fun c2 => ?_)
      · have c2 : (gx_w (x2 + x1)) ≤ (m 86 5) := c2
        refine hx_blk (npc := 64) (L' := [(0, .inr (.inl 86)), (1, .inl x1), (2, .inl x2)]) (st' := [.inl x2, .inl (m 86 5)]) (m' := m) [((59, .aload_n 0, 1, 0, 0, 0, 0), (0, 0, 0)), ((60, .getfield 132, 3, 10, 5, 5118, 0), (0, 86, 0)), ((63, .iload_n 2, 1, 0, 0, 0, 0), (0, 0, 0))] (by decide +kernel) rfl ?_
        refine hx_cmp .gt 79 (by decide +kernel) (fun c3 => ?_) (fun c3 => ?_)
        · have c3 : x2 < (m 86 5) := c3
          refine hx_blk (npc := 84) (L' := [(0, .inr (.inl 86)), (1, .inl x1), (2, .inl x2)]) (st' := [.inl 1]) (m' := m) [((79, .iconst 1, 1, 0, 0, 0, 0), (0, 0, 0)), ((80, .goto 4, 3, 0, 0, 0, 0), (0, 0, 0))] (by decide +kernel) rfl ?_
          exact hx_reti (by decide +kernel) (h1 c1 c2 c3)
        · have c3 : (m 86 5) ≤ x2 := by have h : ¬ (x2 < (m 86 5)) := c3; omega
          refine hx_blk (npc := 73) (L' := [(0, .inr (.inl 86)), (1, .inl x1), (2, .inl x2)]) (st' := [.inl (m 86 5), .inl 1, .inr (.inl 86)]) (m' := m) [((67, .aload_n 0, 1, 0, 0, 0, 0), (0, 0, 0)), ((68, .iconst 1, 1, 0, 0, 0, 0), (0, 0, 0)), ((69, .aload_n 0, 1, 0, 0, 0, 0), (0, 0, 0)), ((70, .getfield 132, 3, 10, 5, 5118, 0), (0, 86, 0))] (by decide +kernel) rfl ?_
          exact hx_call (E := (73, .invokevirtual 145, 3, 172, 0, 6061, 0)) (M' := yp_m172) [.inr (.inl 86), .inl 1, .inl (m 86 5)] [] rfl (by decide +kernel) rfl ⟨rfl, rfl⟩ rfl rfl (hx_mono (h2 c1 c2 c3) (fun r m' h' => hx_pick [] h'))
      · have c2 : (m 86 5) < (gx_w (x2 + x1)) := by have h : ¬ ((gx_w (x2 + x1)) ≤ (m 86 5)) := c2; omega
        refine hx_blk (npc := 36) (L' := [(0, .inr (.inl 86)), (1, .inl x1), (2, .inl x2)]) (st' := [.inr (.inl 86), .inl (gx_w (10 * (m 86 8))), .inr (.inl 86)]) (m' := m) [((27, .aload_n 0, 1, 0, 0, 0, 0), (0, 0, 0)), ((28, .bipush 10, 2, 0, 0, 0, 0), (0, 0, 0)), ((30, .aload_n 0, 1, 0, 0, 0, 0), (0, 0, 0)), ((31, .getfield 148, 3, 10, 8, 5121, 0), (0, 86, 0)), ((34, .imul, 1, 0, 0, 0, 0), (0, 0, 0)), ((35, .aload_n 0, 1, 0, 0, 0, 0), (0, 0, 0))] (by decide +kernel) rfl ?_
        refine hx_call (E := (36, .invokevirtual 138, 3, 170, 0, 6054, 0)) (M' := yp_m170) [.inr (.inl 86)] [.inl (gx_w (10 * (m 86 8))), .inr (.inl 86)] rfl (by decide +kernel) rfl ⟨rfl, rfl⟩ rfl rfl (hs170 ?_)
        show hxn xs n yp_m193 39 [(0, .inr (.inl 86)), (1, .inl x1), (2, .inl x2)] [.inl (aHere m), .inl (gx_w (10 * (m 86 8))), .inr (.inl 86)] m Q
        have e1 : gx_w ((m 86 5) + 1) = (m 86 5) + 1 := gx_w_id (by omega) (by omega)
        refine hx_blk (npc := 10) (L' := [(0, .inr (.inl 86)), (1, .inl x1), (2, .inl x2)]) (st' := []) (m' := (gx_u (gx_u m 86 8 (gx_w ((gx_w ((gx_w (10 * (m 86 8))) + (aHere m))) - 48))) 86 5 (gx_w ((m 86 5) + 1)))) [((39, .iadd, 1, 0, 0, 0, 0), (0, 0, 0)), ((40, .bipush 48, 2, 0, 0, 0, 0), (0, 0, 0)), ((42, .isub, 1, 0, 0, 0, 0), (0, 0, 0)), ((43, .putfield 148, 3, 10, 8, 5121, 0), (0, 86, 0)), ((46, .aload_n 0, 1, 0, 0, 0, 0), (0, 0, 0)), ((47, .aload_n 0, 1, 0, 0, 0, 0), (0, 0, 0)), ((48, .getfield 132, 3, 10, 5, 5118, 0), (0, 86, 0)), ((51, .iconst 1, 1, 0, 0, 0, 0), (0, 0, 0)), ((52, .iadd, 1, 0, 0, 0, 0), (0, 0, 0)), ((53, .putfield 132, 3, 10, 5, 5118, 0), (0, 86, 0)), ((56, .goto (-46), 3, 0, 0, 0, 0), (0, 0, 0))] (by decide +kernel) rfl ?_
        rw [e1]
        exact hx_pick [0, 1, 2] (h3 c1 c2)
  · have c1 : ¬ (isDg (aHere m)) := c1
    show hxn xs n yp_m193 14 [(0, .inr (.inl 86)), (1, .inl x1), (2, .inl x2)] [.inl 0] m Q
    refine hx_if .eq 59 (by decide +kernel) (fun c2 => ?_) (fun c2 => ?_)
    · have c2 : (0 : Int) = 0 := c2
      refine hx_blk (npc := 64) (L' := [(0, .inr (.inl 86)), (1, .inl x1), (2, .inl x2)]) (st' := [.inl x2, .inl (m 86 5)]) (m' := m) [((59, .aload_n 0, 1, 0, 0, 0, 0), (0, 0, 0)), ((60, .getfield 132, 3, 10, 5, 5118, 0), (0, 86, 0)), ((63, .iload_n 2, 1, 0, 0, 0, 0), (0, 0, 0))] (by decide +kernel) rfl ?_
      refine hx_cmp .gt 79 (by decide +kernel) (fun c2 => ?_) (fun c2 => ?_)
      · have c2 : x2 < (m 86 5) := c2
        refine hx_blk (npc := 84) (L' := [(0, .inr (.inl 86)), (1, .inl x1), (2, .inl x2)]) (st' := [.inl 1]) (m' := m) [((79, .iconst 1, 1, 0, 0, 0, 0), (0, 0, 0)), ((80, .goto 4, 3, 0, 0, 0, 0), (0, 0, 0))] (by decide +kernel) rfl ?_
        exact hx_reti (by decide +kernel) (h4 c1 c2)
      · have c2 : (m 86 5) ≤ x2 := by have h : ¬ (x2 < (m 86 5)) := c2; omega
        refine hx_blk (npc := 73) (L' := [(0, .inr (.inl 86)), (1, .inl x1), (2, .inl x2)]) (st' := [.inl (m 86 5), .inl 1, .inr (.inl 86)]) (m' := m) [((67, .aload_n 0, 1, 0, 0, 0, 0), (0, 0, 0)), ((68, .iconst 1, 1, 0, 0, 0, 0), (0, 0, 0)), ((69, .aload_n 0, 1, 0, 0, 0, 0), (0, 0, 0)), ((70, .getfield 132, 3, 10, 5, 5118, 0), (0, 86, 0))] (by decide +kernel) rfl ?_
        exact hx_call (E := (73, .invokevirtual 145, 3, 172, 0, 6061, 0)) (M' := yp_m172) [.inr (.inl 86), .inl 1, .inl (m 86 5)] [] rfl (by decide +kernel) rfl ⟨rfl, rfl⟩ rfl rfl (hx_mono (h5 c1 c2) (fun r m' h' => hx_pick [] h'))
    · have c2 : (0 : Int) ≠ 0 := c2
      exfalso; omega

/-- readsDigits from 76 on -/
theorem hr193_76 {xs : List Int32} {n : Nat} {Q : hQ} {m : gx_M} {s0 : Int}
    (h1 : (s0 = 0) → Q (some (.inl 0)) m)
    (h2 : (s0 ≠ 0) → Q (some (.inl 1)) m) : hxn xs (n + 1) yp_m193 76 [] [.inl s0] m Q := by
  refine hx_ifs .eq 83 (by decide +kernel) (fun c1 => ?_) (fun c1 => ?_)
  · have c1 : s0 = 0 := c1
    refine hx_blk (npc := 84) (L' := []) (st' := [.inl 0]) (m' := m) [((83, .iconst 0, 1, 0, 0, 0, 0), (0, 0, 0))] (by decide +kernel) rfl ?_
    exact hx_reti (by decide +kernel) (h1 c1)
  · have c1 : s0 ≠ 0 := c1
    refine hx_blk (npc := 84) (L' := []) (st' := [.inl 1]) (m' := m) [((79, .iconst 1, 1, 0, 0, 0, 0), (0, 0, 0)), ((80, .goto 4, 3, 0, 0, 0, 0), (0, 0, 0))] (by decide +kernel) rfl ?_
    exact hx_reti (by decide +kernel) (h2 c1)

/-- wrongAt from 0 on -/
theorem hr172_0 {xs : List Int32} {n : Nat} {Q : hQ} {m : gx_M} {x1 x2 : Int}
    (h1 : Q (some (.inl 0)) (gx_u m 86 7 (gx_w ((gx_w ((-1000) * x1)) - x2)))) : hxn xs (n + 1) yp_m172 0 [(0, .inr (.inl 86)), (1, .inl x1), (2, .inl x2)] [] m Q := by
  refine hx_blks (npc := 12) (L' := [(0, .inr (.inl 86)), (1, .inl x1), (2, .inl x2)]) (st' := [.inl 0]) (m' := (gx_u m 86 7 (gx_w ((gx_w ((-1000) * x1)) - x2)))) ((0, .aload_n 0, 1, 0, 0, 0, 0), (0, 0, 0)) [((1, .sipush (-1000), 3, 0, 0, 0, 0), (0, 0, 0)), ((4, .iload_n 1, 1, 0, 0, 0, 0), (0, 0, 0)), ((5, .imul, 1, 0, 0, 0, 0), (0, 0, 0)), ((6, .iload_n 2, 1, 0, 0, 0, 0), (0, 0, 0)), ((7, .isub, 1, 0, 0, 0, 0), (0, 0, 0)), ((8, .putfield 142, 3, 10, 7, 5120, 0), (0, 86, 0)), ((11, .iconst 0, 1, 0, 0, 0, 0), (0, 0, 0))] (by decide +kernel) rfl ?_
  exact hx_reti (by decide +kernel) h1

/-- readsAct from 0 on -/
theorem hr192_0 {xs : List Int32} {n : Nat} {Q : hQ} {m : gx_M}
    (h1 : (isDg (aHere m)) → ((m 86 32) ≠ 16) → hxn xs n yp_m193 0 [(0, .inr (.inl 86)), (1, .inl 2)] [] m (fun r m' => hxn xs n yp_m192 46 [(0, .inr (.inl 86)), (1, .inl (m 86 5))] (hrs r ++ []) m' Q))
    (h2 : (isDg (aHere m)) → ((m 86 32) = 16) → hxn xs n yp_m172 0 [(0, .inr (.inl 86)), (1, .inl 4), (2, .inl (m 86 5))] [] m (fun r m' => hxn xs n yp_m192 40 [] (hrs r ++ []) m' Q))
    (h3 : (¬ (isDg (aHere m))) → hxn xs n yp_m172 0 [(0, .inr (.inl 86)), (1, .inl 1), (2, .inl (m 86 5))] [] m (fun r m' => hxn xs n yp_m192 21 [] (hrs r ++ []) m' Q)) : hxn xs (n + 1) yp_m192 0 [(0, .inr (.inl 86))] [] m Q := by
  refine hx_blks (npc := 6) (L' := [(0, .inr (.inl 86)), (1, .inl (m 86 5))]) (st' := [.inr (.inl 86)]) (m' := m) ((0, .aload_n 0, 1, 0, 0, 0, 0), (0, 0, 0)) [((1, .getfield 132, 3, 10, 5, 5118, 0), (0, 86, 0)), ((4, .istore_n 1, 1, 0, 0, 0, 0), (0, 0, 0)), ((5, .aload_n 0, 1, 0, 0, 0, 0), (0, 0, 0))] (by decide +kernel) rfl ?_
  refine hx_call (E := (6, .invokevirtual 151, 3, 176, 0, 6078, 0)) (M' := yp_m176) [.inr (.inl 86)] [] rfl (by decide +kernel) rfl ⟨rfl, rfl⟩ rfl rfl (hs176 (fun c1 => ?_) (fun c1 => ?_))
  · have c1 : isDg (aHere m) := c1
    show hxn xs n yp_m192 9 [(0, .inr (.inl 86)), (1, .inl (m 86 5))] [.inl 1] m Q
    refine hx_if .ne 22 (by decide +kernel) (fun c2 => ?_) (fun c2 => ?_)
    · have c2 : (1 : Int) ≠ 0 := c2
      refine hx_blk (npc := 28) (L' := [(0, .inr (.inl 86)), (1, .inl (m 86 5))]) (st' := [.inl 16, .inl (m 86 32)]) (m' := m) [((22, .aload_n 0, 1, 0, 0, 0, 0), (0, 0, 0)), ((23, .getfield 254, 3, 10, 32, 5145, 0), (0, 86, 0)), ((26, .bipush 16, 2, 0, 0, 0, 0), (0, 0, 0))] (by decide +kernel) rfl ?_
      refine hx_cmp .ne 41 (by decide +kernel) (fun c2 => ?_) (fun c2 => ?_)
      · have c2 : (m 86 32) ≠ 16 := c2
        refine hx_blk (npc := 43) (L' := [(0, .inr (.inl 86)), (1, .inl (m 86 5))]) (st' := [.inl 2, .inr (.inl 86)]) (m' := m) [((41, .aload_n 0, 1, 0, 0, 0, 0), (0, 0, 0)), ((42, .iconst 2, 1, 0, 0, 0, 0), (0, 0, 0))] (by decide +kernel) rfl ?_
        exact hx_call (E := (43, .invokevirtual 257, 3, 193, 0, 6144, 0)) (M' := yp_m193) [.inr (.inl 86), .inl 2] [] rfl (by decide +kernel) rfl ⟨rfl, rfl⟩ rfl rfl (hx_mono (h1 c1 c2) (fun r m' h' => hx_pick [0, 1] h'))
      · have c2 : (m 86 32) = 16 := by have h : ¬ ((m 86 32) ≠ 16) := c2; omega
        refine hx_blk (npc := 37) (L' := [(0, .inr (.inl 86)), (1, .inl (m 86 5))]) (st' := [.inl (m 86 5), .inl 4, .inr (.inl 86)]) (m' := m) [((31, .aload_n 0, 1, 0, 0, 0, 0), (0, 0, 0)), ((32, .iconst 4, 1, 0, 0, 0, 0), (0, 0, 0)), ((33, .aload_n 0, 1, 0, 0, 0, 0), (0, 0, 0)), ((34, .getfield 132, 3, 10, 5, 5118, 0), (0, 86, 0))] (by decide +kernel) rfl ?_
        exact hx_call (E := (37, .invokevirtual 145, 3, 172, 0, 6061, 0)) (M' := yp_m172) [.inr (.inl 86), .inl 4, .inl (m 86 5)] [] rfl (by decide +kernel) rfl ⟨rfl, rfl⟩ rfl rfl (hx_mono (h2 c1 c2) (fun r m' h' => hx_pick [] h'))
    · have c2 : (1 : Int) = 0 := by have h : ¬ ((1 : Int) ≠ 0) := c2; omega
      exfalso; omega
  · have c1 : ¬ (isDg (aHere m)) := c1
    show hxn xs n yp_m192 9 [(0, .inr (.inl 86)), (1, .inl (m 86 5))] [.inl 0] m Q
    refine hx_if .ne 22 (by decide +kernel) (fun c2 => ?_) (fun c2 => ?_)
    · have c2 : (0 : Int) ≠ 0 := c2
      exfalso; omega
    · have c2 : (0 : Int) = 0 := by have h : ¬ ((0 : Int) ≠ 0) := c2; omega
      refine hx_blk (npc := 18) (L' := [(0, .inr (.inl 86)), (1, .inl (m 86 5))]) (st' := [.inl (m 86 5), .inl 1, .inr (.inl 86)]) (m' := m) [((12, .aload_n 0, 1, 0, 0, 0, 0), (0, 0, 0)), ((13, .iconst 1, 1, 0, 0, 0, 0), (0, 0, 0)), ((14, .aload_n 0, 1, 0, 0, 0, 0), (0, 0, 0)), ((15, .getfield 132, 3, 10, 5, 5118, 0), (0, 86, 0))] (by decide +kernel) rfl ?_
      exact hx_call (E := (18, .invokevirtual 145, 3, 172, 0, 6061, 0)) (M' := yp_m172) [.inr (.inl 86), .inl 1, .inl (m 86 5)] [] rfl (by decide +kernel) rfl ⟨rfl, rfl⟩ rfl rfl (hx_mono (h3 c1) (fun r m' h' => hx_pick [] h'))

/-- readsAct from 21 on -/
theorem hr192_21 {xs : List Int32} {n : Nat} {Q : hQ} {m : gx_M} {s0 : Int}
    (h1 : Q (some (.inl s0)) m) : hxn xs (n + 1) yp_m192 21 [] [.inl s0] m Q := by
  exact hx_reti (by decide +kernel) h1

/-- readsAct from 40 on -/
theorem hr192_40 {xs : List Int32} {n : Nat} {Q : hQ} {m : gx_M} {s0 : Int}
    (h1 : Q (some (.inl s0)) m) : hxn xs (n + 1) yp_m192 40 [] [.inl s0] m Q := by
  exact hx_reti (by decide +kernel) h1

/-- readsAct from 46 on -/
theorem hr192_46 {xs : List Int32} {n : Nat} {Q : hQ} {m : gx_M} {x1 s0 : Int}
    (h1 : ((m 86 8) < 40) → (isPn (aHere (gx_u m 104 (m 86 32).toNat (m 86 8)))) → hxn xs n yp_m170 0 [(0, .inr (.inl 86))] [] (gx_u m 104 (m 86 32).toNat (m 86 8)) (fun r m' => hxn xs n yp_m192 105 [(0, .inr (.inl 86))] (hrs r ++ [.inl (m 86 32), .inr (.inl 105)]) m' Q))
    (h2 : ((m 86 8) < 40) → (¬ (isPn (aHere (gx_u m 104 (m 86 32).toNat (m 86 8))))) → hxn xs n yp_m172 0 [(0, .inr (.inl 86)), (1, .inl 1), (2, .inl (m 86 5))] [] (gx_u m 104 (m 86 32).toNat (m 86 8)) (fun r m' => hxn xs n yp_m192 92 [] (hrs r ++ []) m' Q))
    (h3 : (40 ≤ (m 86 8)) → hxn xs n yp_m172 0 [(0, .inr (.inl 86)), (1, .inl 3), (2, .inl x1)] [] m (fun r m' => hxn xs n yp_m192 62 [] (hrs r ++ []) m' Q)) : hxn xs (n + 1) yp_m192 46 [(0, .inr (.inl 86)), (1, .inl x1)] [.inl s0] m Q := by
  refine hx_blks (npc := 53) (L' := [(0, .inr (.inl 86)), (1, .inl x1)]) (st' := [.inl 40, .inl (m 86 8)]) (m' := m) ((46, .pop, 1, 0, 0, 0, 0), (0, 0, 0)) [((47, .aload_n 0, 1, 0, 0, 0, 0), (0, 0, 0)), ((48, .getfield 148, 3, 10, 8, 5121, 0), (0, 86, 0)), ((51, .bipush 40, 2, 0, 0, 0, 0), (0, 0, 0))] (by decide +kernel) rfl ?_
  refine hx_cmp .lt 63 (by decide +kernel) (fun c1 => ?_) (fun c1 => ?_)
  · have c1 : (m 86 8) < 40 := c1
    refine hx_blk (npc := 77) (L' := [(0, .inr (.inl 86)), (1, .inl x1)]) (st' := [.inr (.inl 86)]) (m' := (gx_u m 104 (m 86 32).toNat (m 86 8))) [((63, .aload_n 0, 1, 0, 0, 0, 0), (0, 0, 0)), ((64, .getfield 62, 3, 10, 27, 5140, 0), (1, 86, 104)), ((67, .aload_n 0, 1, 0, 0, 0, 0), (0, 0, 0)), ((68, .getfield 254, 3, 10, 32, 5145, 0), (0, 86, 0)), ((71, .aload_n 0, 1, 0, 0, 0, 0), (0, 0, 0)), ((72, .getfield 148, 3, 10, 8, 5121, 0), (0, 86, 0)), ((75, .iastore, 1, 0, 0, 0, 0), (0, 104, 0)), ((76, .aload_n 0, 1, 0, 0, 0, 0), (0, 0, 0))] (by decide +kernel) rfl ?_
    refine hx_call (E := (77, .invokevirtual 260, 3, 194, 0, 6148, 0)) (M' := yp_m194) [.inr (.inl 86)] [] rfl (by decide +kernel) rfl ⟨rfl, rfl⟩ rfl rfl (hs194 (fun c2 => ?_) (fun c2 => ?_))
    · have c2 : isPn (aHere (gx_u m 104 (m 86 32).toNat (m 86 8))) := c2
      show hxn xs n yp_m192 80 [(0, .inr (.inl 86)), (1, .inl x1)] [.inl 1] (gx_u m 104 (m 86 32).toNat (m 86 8)) Q
      refine hx_if .ne 93 (by decide +kernel) (fun c3 => ?_) (fun c3 => ?_)
      · have c3 : (1 : Int) ≠ 0 := c3
        refine hx_blk (npc := 102) (L' := [(0, .inr (.inl 86)), (1, .inl x1)]) (st' := [.inr (.inl 86), .inl (m 86 32), .inr (.inl 105)]) (m' := (gx_u m 104 (m 86 32).toNat (m 86 8))) [((93, .aload_n 0, 1, 0, 0, 0, 0), (0, 0, 0)), ((94, .getfield 65, 3, 10, 28, 5141, 0), (1, 86, 105)), ((97, .aload_n 0, 1, 0, 0, 0, 0), (0, 0, 0)), ((98, .getfield 254, 3, 10, 32, 5145, 0), (0, 86, 0)), ((101, .aload_n 0, 1, 0, 0, 0, 0), (0, 0, 0))] (by decide +kernel) rfl ?_
        exact hx_call (E := (102, .invokevirtual 138, 3, 170, 0, 6054, 0)) (M' := yp_m170) [.inr (.inl 86)] [.inl (m 86 32), .inr (.inl 105)] rfl (by decide +kernel) rfl ⟨rfl, rfl⟩ rfl rfl (hx_mono (h1 c1 c2) (fun r m' h' => hx_pick [0] h'))
      · have c3 : (1 : Int) = 0 := by have h : ¬ ((1 : Int) ≠ 0) := c3; omega
        exfalso; omega
    · have c2 : ¬ (isPn (aHere (gx_u m 104 (m 86 32).toNat (m 86 8)))) := c2
      show hxn xs n yp_m192 80 [(0, .inr (.inl 86)), (1, .inl x1)] [.inl 0] (gx_u m 104 (m 86 32).toNat (m 86 8)) Q
      refine hx_if .ne 93 (by decide +kernel) (fun c3 => ?_) (fun c3 => ?_)
      · have c3 : (0 : Int) ≠ 0 := c3
        exfalso; omega
      · have c3 : (0 : Int) = 0 := by have h : ¬ ((0 : Int) ≠ 0) := c3; omega
        refine hx_blk (npc := 89) (L' := [(0, .inr (.inl 86)), (1, .inl x1)]) (st' := [.inl (m 86 5), .inl 1, .inr (.inl 86)]) (m' := (gx_u m 104 (m 86 32).toNat (m 86 8))) [((83, .aload_n 0, 1, 0, 0, 0, 0), (0, 0, 0)), ((84, .iconst 1, 1, 0, 0, 0, 0), (0, 0, 0)), ((85, .aload_n 0, 1, 0, 0, 0, 0), (0, 0, 0)), ((86, .getfield 132, 3, 10, 5, 5118, 0), (0, 86, 0))] (by decide +kernel) rfl ?_
        exact hx_call (E := (89, .invokevirtual 145, 3, 172, 0, 6061, 0)) (M' := yp_m172) [.inr (.inl 86), .inl 1, .inl (m 86 5)] [] rfl (by decide +kernel) rfl ⟨rfl, rfl⟩ rfl rfl (hx_mono (h2 c1 c2) (fun r m' h' => hx_pick [] h'))
  · have c1 : 40 ≤ (m 86 8) := by have h : ¬ ((m 86 8) < 40) := c1; omega
    refine hx_blk (npc := 59) (L' := [(0, .inr (.inl 86)), (1, .inl x1)]) (st' := [.inl x1, .inl 3, .inr (.inl 86)]) (m' := m) [((56, .aload_n 0, 1, 0, 0, 0, 0), (0, 0, 0)), ((57, .iconst 3, 1, 0, 0, 0, 0), (0, 0, 0)), ((58, .iload_n 1, 1, 0, 0, 0, 0), (0, 0, 0))] (by decide +kernel) rfl ?_
    exact hx_call (E := (59, .invokevirtual 145, 3, 172, 0, 6061, 0)) (M' := yp_m172) [.inr (.inl 86), .inl 3, .inl x1] [] rfl (by decide +kernel) rfl ⟨rfl, rfl⟩ rfl rfl (hx_mono (h3 c1) (fun r m' h' => hx_pick [] h'))

/-- readsAct from 62 on -/
theorem hr192_62 {xs : List Int32} {n : Nat} {Q : hQ} {m : gx_M} {s0 : Int}
    (h1 : Q (some (.inl s0)) m) : hxn xs (n + 1) yp_m192 62 [] [.inl s0] m Q := by
  exact hx_reti (by decide +kernel) h1

/-- readsAct from 92 on -/
theorem hr192_92 {xs : List Int32} {n : Nat} {Q : hQ} {m : gx_M} {s0 : Int}
    (h1 : Q (some (.inl s0)) m) : hxn xs (n + 1) yp_m192 92 [] [.inl s0] m Q := by
  exact hx_reti (by decide +kernel) h1

/-- readsAct from 105 on -/
theorem hr192_105 {xs : List Int32} {n : Nat} {Q : hQ} {m : gx_M} {s1 s2 : Int}
    (h1 : hxn xs n yp_m170 0 [(0, .inr (.inl 86))] [] (gx_u (gx_u m 105 (s1).toNat (gx_w (s2 - 97))) 86 5 (gx_w ((m 86 5) + 1))) (fun r m' => hxn xs n yp_m192 123 [(0, .inr (.inl 86))] (hrs r ++ []) m' Q)) : hxn xs (n + 1) yp_m192 105 [(0, .inr (.inl 86))] [.inl s2, .inl s1, .inr (.inl 105)] m Q := by
  refine hx_blks (npc := 120) (L' := [(0, .inr (.inl 86))]) (st' := [.inr (.inl 86)]) (m' := (gx_u (gx_u m 105 (s1).toNat (gx_w (s2 - 97))) 86 5 (gx_w ((m 86 5) + 1)))) ((105, .bipush 97, 2, 0, 0, 0, 0), (0, 0, 0)) [((107, .isub, 1, 0, 0, 0, 0), (0, 0, 0)), ((108, .iastore, 1, 0, 0, 0, 0), (0, 105, 0)), ((109, .aload_n 0, 1, 0, 0, 0, 0), (0, 0, 0)), ((110, .aload_n 0, 1, 0, 0, 0, 0), (0, 0, 0)), ((111, .getfield 132, 3, 10, 5, 5118, 0), (0, 86, 0)), ((114, .iconst 1, 1, 0, 0, 0, 0), (0, 0, 0)), ((115, .iadd, 1, 0, 0, 0, 0), (0, 0, 0)), ((116, .putfield 132, 3, 10, 5, 5118, 0), (0, 86, 0)), ((119, .aload_n 0, 1, 0, 0, 0, 0), (0, 0, 0))] (by decide +kernel) rfl ?_
  exact hx_call (E := (120, .invokevirtual 138, 3, 170, 0, 6054, 0)) (M' := yp_m170) [.inr (.inl 86)] [] rfl (by decide +kernel) rfl ⟨rfl, rfl⟩ rfl rfl (hx_mono h1 (fun r m' h' => hx_pick [0] h'))

/-- readsAct from 123 on -/
theorem hr192_123 {xs : List Int32} {n : Nat} {Q : hQ} {m : gx_M} {s0 : Int}
    (h1 : (s0 = 62) → (isPn (aHere (gx_u (gx_u m 106 (m 86 32).toNat s0) 86 5 (gx_w ((m 86 5) + 1))))) → hxn xs n yp_m170 0 [(0, .inr (.inl 86))] [] (gx_u (gx_u m 106 (m 86 32).toNat s0) 86 5 (gx_w ((m 86 5) + 1))) (fun r m' => hxn xs n yp_m192 207 [(0, .inr (.inl 86)), (2, .inl s0)] (hrs r ++ [.inl (m 86 32), .inr (.inl 107)]) m' Q))
    (h2 : (s0 = 62) → (¬ (isPn (aHere (gx_u (gx_u m 106 (m 86 32).toNat s0) 86 5 (gx_w ((m 86 5) + 1)))))) → hxn xs n yp_m172 0 [(0, .inr (.inl 86)), (1, .inl 1), (2, .inl (gx_w ((m 86 5) + 1)))] [] (gx_u (gx_u m 106 (m 86 32).toNat s0) 86 5 (gx_w ((m 86 5) + 1))) (fun r m' => hxn xs n yp_m192 194 [] (hrs r ++ []) m' Q))
    (h3 : (s0 ≠ 62) → (s0 = 93) → (isPn (aHere (gx_u (gx_u m 106 (m 86 32).toNat s0) 86 5 (gx_w ((m 86 5) + 1))))) → hxn xs n yp_m170 0 [(0, .inr (.inl 86))] [] (gx_u (gx_u m 106 (m 86 32).toNat s0) 86 5 (gx_w ((m 86 5) + 1))) (fun r m' => hxn xs n yp_m192 207 [(0, .inr (.inl 86)), (2, .inl s0)] (hrs r ++ [.inl (m 86 32), .inr (.inl 107)]) m' Q))
    (h4 : (s0 ≠ 62) → (s0 = 93) → (¬ (isPn (aHere (gx_u (gx_u m 106 (m 86 32).toNat s0) 86 5 (gx_w ((m 86 5) + 1)))))) → hxn xs n yp_m172 0 [(0, .inr (.inl 86)), (1, .inl 1), (2, .inl (gx_w ((m 86 5) + 1)))] [] (gx_u (gx_u m 106 (m 86 32).toNat s0) 86 5 (gx_w ((m 86 5) + 1))) (fun r m' => hxn xs n yp_m192 194 [] (hrs r ++ []) m' Q))
    (h5 : (s0 ≠ 62) → (s0 ≠ 93) → (s0 = 91) → (isPn (aHere (gx_u (gx_u m 106 (m 86 32).toNat s0) 86 5 (gx_w ((m 86 5) + 1))))) → hxn xs n yp_m170 0 [(0, .inr (.inl 86))] [] (gx_u (gx_u m 106 (m 86 32).toNat s0) 86 5 (gx_w ((m 86 5) + 1))) (fun r m' => hxn xs n yp_m192 207 [(0, .inr (.inl 86)), (2, .inl s0)] (hrs r ++ [.inl (m 86 32), .inr (.inl 107)]) m' Q))
    (h6 : (s0 ≠ 62) → (s0 ≠ 93) → (s0 = 91) → (¬ (isPn (aHere (gx_u (gx_u m 106 (m 86 32).toNat s0) 86 5 (gx_w ((m 86 5) + 1)))))) → hxn xs n yp_m172 0 [(0, .inr (.inl 86)), (1, .inl 1), (2, .inl (gx_w ((m 86 5) + 1)))] [] (gx_u (gx_u m 106 (m 86 32).toNat s0) 86 5 (gx_w ((m 86 5) + 1))) (fun r m' => hxn xs n yp_m192 194 [] (hrs r ++ []) m' Q))
    (h7 : (s0 ≠ 62) → (s0 ≠ 93) → (s0 ≠ 91) → (s0 = 61) → (isPn (aHere (gx_u (gx_u m 106 (m 86 32).toNat s0) 86 5 (gx_w ((m 86 5) + 1))))) → hxn xs n yp_m170 0 [(0, .inr (.inl 86))] [] (gx_u (gx_u m 106 (m 86 32).toNat s0) 86 5 (gx_w ((m 86 5) + 1))) (fun r m' => hxn xs n yp_m192 207 [(0, .inr (.inl 86)), (2, .inl s0)] (hrs r ++ [.inl (m 86 32), .inr (.inl 107)]) m' Q))
    (h8 : (s0 ≠ 62) → (s0 ≠ 93) → (s0 ≠ 91) → (s0 = 61) → (¬ (isPn (aHere (gx_u (gx_u m 106 (m 86 32).toNat s0) 86 5 (gx_w ((m 86 5) + 1)))))) → hxn xs n yp_m172 0 [(0, .inr (.inl 86)), (1, .inl 1), (2, .inl (gx_w ((m 86 5) + 1)))] [] (gx_u (gx_u m 106 (m 86 32).toNat s0) 86 5 (gx_w ((m 86 5) + 1))) (fun r m' => hxn xs n yp_m192 194 [] (hrs r ++ []) m' Q))
    (h9 : (s0 ≠ 62) → (s0 ≠ 93) → (s0 ≠ 91) → (s0 ≠ 61) → hxn xs n yp_m172 0 [(0, .inr (.inl 86)), (1, .inl 1), (2, .inl (m 86 5))] [] m (fun r m' => hxn xs n yp_m192 157 [] (hrs r ++ []) m' Q)) : hxn xs (n + 1) yp_m192 123 [(0, .inr (.inl 86))] [.inl s0] m Q := by
  refine hx_blks (npc := 127) (L' := [(0, .inr (.inl 86)), (2, .inl s0)]) (st' := [.inl 62, .inl s0]) (m' := m) ((123, .istore_n 2, 1, 0, 0, 0, 0), (0, 0, 0)) [((124, .iload_n 2, 1, 0, 0, 0, 0), (0, 0, 0)), ((125, .bipush 62, 2, 0, 0, 0, 0), (0, 0, 0))] (by decide +kernel) rfl ?_
  refine hx_cmp .eq 158 (by decide +kernel) (fun c1 => ?_) (fun c1 => ?_)
  · have c1 : s0 = 62 := c1
    refine hx_blk (npc := 179) (L' := [(0, .inr (.inl 86)), (2, .inl s0)]) (st' := [.inr (.inl 86)]) (m' := (gx_u (gx_u m 106 (m 86 32).toNat s0) 86 5 (gx_w ((m 86 5) + 1)))) [((158, .aload_n 0, 1, 0, 0, 0, 0), (0, 0, 0)), ((159, .getfield 68, 3, 10, 29, 5142, 0), (1, 86, 106)), ((162, .aload_n 0, 1, 0, 0, 0, 0), (0, 0, 0)), ((163, .getfield 254, 3, 10, 32, 5145, 0), (0, 86, 0)), ((166, .iload_n 2, 1, 0, 0, 0, 0), (0, 0, 0)), ((167, .iastore, 1, 0, 0, 0, 0), (0, 106, 0)), ((168, .aload_n 0, 1, 0, 0, 0, 0), (0, 0, 0)), ((169, .aload_n 0, 1, 0, 0, 0, 0), (0, 0, 0)), ((170, .getfield 132, 3, 10, 5, 5118, 0), (0, 86, 0)), ((173, .iconst 1, 1, 0, 0, 0, 0), (0, 0, 0)), ((174, .iadd, 1, 0, 0, 0, 0), (0, 0, 0)), ((175, .putfield 132, 3, 10, 5, 5118, 0), (0, 86, 0)), ((178, .aload_n 0, 1, 0, 0, 0, 0), (0, 0, 0))] (by decide +kernel) rfl ?_
    refine hx_call (E := (179, .invokevirtual 260, 3, 194, 0, 6148, 0)) (M' := yp_m194) [.inr (.inl 86)] [] rfl (by decide +kernel) rfl ⟨rfl, rfl⟩ rfl rfl (hs194 (fun c2 => ?_) (fun c2 => ?_))
    · have c2 : isPn (aHere (gx_u (gx_u m 106 (m 86 32).toNat s0) 86 5 (gx_w ((m 86 5) + 1)))) := c2
      show hxn xs n yp_m192 182 [(0, .inr (.inl 86)), (2, .inl s0)] [.inl 1] (gx_u (gx_u m 106 (m 86 32).toNat s0) 86 5 (gx_w ((m 86 5) + 1))) Q
      refine hx_if .ne 195 (by decide +kernel) (fun c3 => ?_) (fun c3 => ?_)
      · have c3 : (1 : Int) ≠ 0 := c3
        refine hx_blk (npc := 204) (L' := [(0, .inr (.inl 86)), (2, .inl s0)]) (st' := [.inr (.inl 86), .inl (m 86 32), .inr (.inl 107)]) (m' := (gx_u (gx_u m 106 (m 86 32).toNat s0) 86 5 (gx_w ((m 86 5) + 1)))) [((195, .aload_n 0, 1, 0, 0, 0, 0), (0, 0, 0)), ((196, .getfield 71, 3, 10, 30, 5143, 0), (1, 86, 107)), ((199, .aload_n 0, 1, 0, 0, 0, 0), (0, 0, 0)), ((200, .getfield 254, 3, 10, 32, 5145, 0), (0, 86, 0)), ((203, .aload_n 0, 1, 0, 0, 0, 0), (0, 0, 0))] (by decide +kernel) rfl ?_
        exact hx_call (E := (204, .invokevirtual 138, 3, 170, 0, 6054, 0)) (M' := yp_m170) [.inr (.inl 86)] [.inl (m 86 32), .inr (.inl 107)] rfl (by decide +kernel) rfl ⟨rfl, rfl⟩ rfl rfl (hx_mono (h1 c1 c2) (fun r m' h' => hx_pick [0, 2] h'))
      · have c3 : (1 : Int) = 0 := by have h : ¬ ((1 : Int) ≠ 0) := c3; omega
        exfalso; omega
    · have c2 : ¬ (isPn (aHere (gx_u (gx_u m 106 (m 86 32).toNat s0) 86 5 (gx_w ((m 86 5) + 1))))) := c2
      show hxn xs n yp_m192 182 [(0, .inr (.inl 86)), (2, .inl s0)] [.inl 0] (gx_u (gx_u m 106 (m 86 32).toNat s0) 86 5 (gx_w ((m 86 5) + 1))) Q
      refine hx_if .ne 195 (by decide +kernel) (fun c3 => ?_) (fun c3 => ?_)
      · have c3 : (0 : Int) ≠ 0 := c3
        exfalso; omega
      · have c3 : (0 : Int) = 0 := by have h : ¬ ((0 : Int) ≠ 0) := c3; omega
        refine hx_blk (npc := 191) (L' := [(0, .inr (.inl 86)), (2, .inl s0)]) (st' := [.inl (gx_w ((m 86 5) + 1)), .inl 1, .inr (.inl 86)]) (m' := (gx_u (gx_u m 106 (m 86 32).toNat s0) 86 5 (gx_w ((m 86 5) + 1)))) [((185, .aload_n 0, 1, 0, 0, 0, 0), (0, 0, 0)), ((186, .iconst 1, 1, 0, 0, 0, 0), (0, 0, 0)), ((187, .aload_n 0, 1, 0, 0, 0, 0), (0, 0, 0)), ((188, .getfield 132, 3, 10, 5, 5118, 0), (0, 86, 0))] (by decide +kernel) rfl ?_
        exact hx_call (E := (191, .invokevirtual 145, 3, 172, 0, 6061, 0)) (M' := yp_m172) [.inr (.inl 86), .inl 1, .inl (gx_w ((m 86 5) + 1))] [] rfl (by decide +kernel) rfl ⟨rfl, rfl⟩ rfl rfl (hx_mono (h2 c1 c2) (fun r m' h' => hx_pick [] h'))
  · have c1 : s0 ≠ 62 := c1
    refine hx_blk (npc := 133) (L' := [(0, .inr (.inl 86)), (2, .inl s0)]) (st' := [.inl 93, .inl s0]) (m' := m) [((130, .iload_n 2, 1, 0, 0, 0, 0), (0, 0, 0)), ((131, .bipush 93, 2, 0, 0, 0, 0), (0, 0, 0))] (by decide +kernel) rfl ?_
    refine hx_cmp .eq 158 (by decide +kernel) (fun c2 => ?_) (fun c2 => ?_)
    · have c2 : s0 = 93 := c2
      refine hx_blk (npc := 179) (L' := [(0, .inr (.inl 86)), (2, .inl s0)]) (st' := [.inr (.inl 86)]) (m' := (gx_u (gx_u m 106 (m 86 32).toNat s0) 86 5 (gx_w ((m 86 5) + 1)))) [((158, .aload_n 0, 1, 0, 0, 0, 0), (0, 0, 0)), ((159, .getfield 68, 3, 10, 29, 5142, 0), (1, 86, 106)), ((162, .aload_n 0, 1, 0, 0, 0, 0), (0, 0, 0)), ((163, .getfield 254, 3, 10, 32, 5145, 0), (0, 86, 0)), ((166, .iload_n 2, 1, 0, 0, 0, 0), (0, 0, 0)), ((167, .iastore, 1, 0, 0, 0, 0), (0, 106, 0)), ((168, .aload_n 0, 1, 0, 0, 0, 0), (0, 0, 0)), ((169, .aload_n 0, 1, 0, 0, 0, 0), (0, 0, 0)), ((170, .getfield 132, 3, 10, 5, 5118, 0), (0, 86, 0)), ((173, .iconst 1, 1, 0, 0, 0, 0), (0, 0, 0)), ((174, .iadd, 1, 0, 0, 0, 0), (0, 0, 0)), ((175, .putfield 132, 3, 10, 5, 5118, 0), (0, 86, 0)), ((178, .aload_n 0, 1, 0, 0, 0, 0), (0, 0, 0))] (by decide +kernel) rfl ?_
      refine hx_call (E := (179, .invokevirtual 260, 3, 194, 0, 6148, 0)) (M' := yp_m194) [.inr (.inl 86)] [] rfl (by decide +kernel) rfl ⟨rfl, rfl⟩ rfl rfl (hs194 (fun c3 => ?_) (fun c3 => ?_))
      · have c3 : isPn (aHere (gx_u (gx_u m 106 (m 86 32).toNat s0) 86 5 (gx_w ((m 86 5) + 1)))) := c3
        show hxn xs n yp_m192 182 [(0, .inr (.inl 86)), (2, .inl s0)] [.inl 1] (gx_u (gx_u m 106 (m 86 32).toNat s0) 86 5 (gx_w ((m 86 5) + 1))) Q
        refine hx_if .ne 195 (by decide +kernel) (fun c4 => ?_) (fun c4 => ?_)
        · have c4 : (1 : Int) ≠ 0 := c4
          refine hx_blk (npc := 204) (L' := [(0, .inr (.inl 86)), (2, .inl s0)]) (st' := [.inr (.inl 86), .inl (m 86 32), .inr (.inl 107)]) (m' := (gx_u (gx_u m 106 (m 86 32).toNat s0) 86 5 (gx_w ((m 86 5) + 1)))) [((195, .aload_n 0, 1, 0, 0, 0, 0), (0, 0, 0)), ((196, .getfield 71, 3, 10, 30, 5143, 0), (1, 86, 107)), ((199, .aload_n 0, 1, 0, 0, 0, 0), (0, 0, 0)), ((200, .getfield 254, 3, 10, 32, 5145, 0), (0, 86, 0)), ((203, .aload_n 0, 1, 0, 0, 0, 0), (0, 0, 0))] (by decide +kernel) rfl ?_
          exact hx_call (E := (204, .invokevirtual 138, 3, 170, 0, 6054, 0)) (M' := yp_m170) [.inr (.inl 86)] [.inl (m 86 32), .inr (.inl 107)] rfl (by decide +kernel) rfl ⟨rfl, rfl⟩ rfl rfl (hx_mono (h3 c1 c2 c3) (fun r m' h' => hx_pick [0, 2] h'))
        · have c4 : (1 : Int) = 0 := by have h : ¬ ((1 : Int) ≠ 0) := c4; omega
          exfalso; omega
      · have c3 : ¬ (isPn (aHere (gx_u (gx_u m 106 (m 86 32).toNat s0) 86 5 (gx_w ((m 86 5) + 1))))) := c3
        show hxn xs n yp_m192 182 [(0, .inr (.inl 86)), (2, .inl s0)] [.inl 0] (gx_u (gx_u m 106 (m 86 32).toNat s0) 86 5 (gx_w ((m 86 5) + 1))) Q
        refine hx_if .ne 195 (by decide +kernel) (fun c4 => ?_) (fun c4 => ?_)
        · have c4 : (0 : Int) ≠ 0 := c4
          exfalso; omega
        · have c4 : (0 : Int) = 0 := by have h : ¬ ((0 : Int) ≠ 0) := c4; omega
          refine hx_blk (npc := 191) (L' := [(0, .inr (.inl 86)), (2, .inl s0)]) (st' := [.inl (gx_w ((m 86 5) + 1)), .inl 1, .inr (.inl 86)]) (m' := (gx_u (gx_u m 106 (m 86 32).toNat s0) 86 5 (gx_w ((m 86 5) + 1)))) [((185, .aload_n 0, 1, 0, 0, 0, 0), (0, 0, 0)), ((186, .iconst 1, 1, 0, 0, 0, 0), (0, 0, 0)), ((187, .aload_n 0, 1, 0, 0, 0, 0), (0, 0, 0)), ((188, .getfield 132, 3, 10, 5, 5118, 0), (0, 86, 0))] (by decide +kernel) rfl ?_
          exact hx_call (E := (191, .invokevirtual 145, 3, 172, 0, 6061, 0)) (M' := yp_m172) [.inr (.inl 86), .inl 1, .inl (gx_w ((m 86 5) + 1))] [] rfl (by decide +kernel) rfl ⟨rfl, rfl⟩ rfl rfl (hx_mono (h4 c1 c2 c3) (fun r m' h' => hx_pick [] h'))
    · have c2 : s0 ≠ 93 := c2
      refine hx_blk (npc := 139) (L' := [(0, .inr (.inl 86)), (2, .inl s0)]) (st' := [.inl 91, .inl s0]) (m' := m) [((136, .iload_n 2, 1, 0, 0, 0, 0), (0, 0, 0)), ((137, .bipush 91, 2, 0, 0, 0, 0), (0, 0, 0))] (by decide +kernel) rfl ?_
      refine hx_cmp .eq 158 (by decide +kernel) (fun c3 => ?_) (fun c3 => ?_)
      · have c3 : s0 = 91 := c3
        refine hx_blk (npc := 179) (L' := [(0, .inr (.inl 86)), (2, .inl s0)]) (st' := [.inr (.inl 86)]) (m' := (gx_u (gx_u m 106 (m 86 32).toNat s0) 86 5 (gx_w ((m 86 5) + 1)))) [((158, .aload_n 0, 1, 0, 0, 0, 0), (0, 0, 0)), ((159, .getfield 68, 3, 10, 29, 5142, 0), (1, 86, 106)), ((162, .aload_n 0, 1, 0, 0, 0, 0), (0, 0, 0)), ((163, .getfield 254, 3, 10, 32, 5145, 0), (0, 86, 0)), ((166, .iload_n 2, 1, 0, 0, 0, 0), (0, 0, 0)), ((167, .iastore, 1, 0, 0, 0, 0), (0, 106, 0)), ((168, .aload_n 0, 1, 0, 0, 0, 0), (0, 0, 0)), ((169, .aload_n 0, 1, 0, 0, 0, 0), (0, 0, 0)), ((170, .getfield 132, 3, 10, 5, 5118, 0), (0, 86, 0)), ((173, .iconst 1, 1, 0, 0, 0, 0), (0, 0, 0)), ((174, .iadd, 1, 0, 0, 0, 0), (0, 0, 0)), ((175, .putfield 132, 3, 10, 5, 5118, 0), (0, 86, 0)), ((178, .aload_n 0, 1, 0, 0, 0, 0), (0, 0, 0))] (by decide +kernel) rfl ?_
        refine hx_call (E := (179, .invokevirtual 260, 3, 194, 0, 6148, 0)) (M' := yp_m194) [.inr (.inl 86)] [] rfl (by decide +kernel) rfl ⟨rfl, rfl⟩ rfl rfl (hs194 (fun c4 => ?_) (fun c4 => ?_))
        · have c4 : isPn (aHere (gx_u (gx_u m 106 (m 86 32).toNat s0) 86 5 (gx_w ((m 86 5) + 1)))) := c4
          show hxn xs n yp_m192 182 [(0, .inr (.inl 86)), (2, .inl s0)] [.inl 1] (gx_u (gx_u m 106 (m 86 32).toNat s0) 86 5 (gx_w ((m 86 5) + 1))) Q
          refine hx_if .ne 195 (by decide +kernel) (fun c5 => ?_) (fun c5 => ?_)
          · have c5 : (1 : Int) ≠ 0 := c5
            refine hx_blk (npc := 204) (L' := [(0, .inr (.inl 86)), (2, .inl s0)]) (st' := [.inr (.inl 86), .inl (m 86 32), .inr (.inl 107)]) (m' := (gx_u (gx_u m 106 (m 86 32).toNat s0) 86 5 (gx_w ((m 86 5) + 1)))) [((195, .aload_n 0, 1, 0, 0, 0, 0), (0, 0, 0)), ((196, .getfield 71, 3, 10, 30, 5143, 0), (1, 86, 107)), ((199, .aload_n 0, 1, 0, 0, 0, 0), (0, 0, 0)), ((200, .getfield 254, 3, 10, 32, 5145, 0), (0, 86, 0)), ((203, .aload_n 0, 1, 0, 0, 0, 0), (0, 0, 0))] (by decide +kernel) rfl ?_
            exact hx_call (E := (204, .invokevirtual 138, 3, 170, 0, 6054, 0)) (M' := yp_m170) [.inr (.inl 86)] [.inl (m 86 32), .inr (.inl 107)] rfl (by decide +kernel) rfl ⟨rfl, rfl⟩ rfl rfl (hx_mono (h5 c1 c2 c3 c4) (fun r m' h' => hx_pick [0, 2] h'))
          · have c5 : (1 : Int) = 0 := by have h : ¬ ((1 : Int) ≠ 0) := c5; omega
            exfalso; omega
        · have c4 : ¬ (isPn (aHere (gx_u (gx_u m 106 (m 86 32).toNat s0) 86 5 (gx_w ((m 86 5) + 1))))) := c4
          show hxn xs n yp_m192 182 [(0, .inr (.inl 86)), (2, .inl s0)] [.inl 0] (gx_u (gx_u m 106 (m 86 32).toNat s0) 86 5 (gx_w ((m 86 5) + 1))) Q
          refine hx_if .ne 195 (by decide +kernel) (fun c5 => ?_) (fun c5 => ?_)
          · have c5 : (0 : Int) ≠ 0 := c5
            exfalso; omega
          · have c5 : (0 : Int) = 0 := by have h : ¬ ((0 : Int) ≠ 0) := c5; omega
            refine hx_blk (npc := 191) (L' := [(0, .inr (.inl 86)), (2, .inl s0)]) (st' := [.inl (gx_w ((m 86 5) + 1)), .inl 1, .inr (.inl 86)]) (m' := (gx_u (gx_u m 106 (m 86 32).toNat s0) 86 5 (gx_w ((m 86 5) + 1)))) [((185, .aload_n 0, 1, 0, 0, 0, 0), (0, 0, 0)), ((186, .iconst 1, 1, 0, 0, 0, 0), (0, 0, 0)), ((187, .aload_n 0, 1, 0, 0, 0, 0), (0, 0, 0)), ((188, .getfield 132, 3, 10, 5, 5118, 0), (0, 86, 0))] (by decide +kernel) rfl ?_
            exact hx_call (E := (191, .invokevirtual 145, 3, 172, 0, 6061, 0)) (M' := yp_m172) [.inr (.inl 86), .inl 1, .inl (gx_w ((m 86 5) + 1))] [] rfl (by decide +kernel) rfl ⟨rfl, rfl⟩ rfl rfl (hx_mono (h6 c1 c2 c3 c4) (fun r m' h' => hx_pick [] h'))
      · have c3 : s0 ≠ 91 := c3
        refine hx_blk (npc := 145) (L' := [(0, .inr (.inl 86)), (2, .inl s0)]) (st' := [.inl 61, .inl s0]) (m' := m) [((142, .iload_n 2, 1, 0, 0, 0, 0), (0, 0, 0)), ((143, .bipush 61, 2, 0, 0, 0, 0), (0, 0, 0))] (by decide +kernel) rfl ?_
        refine hx_cmp .eq 158 (by decide +kernel) (fun c4 => ?_) (fun c4 => ?_)
        · have c4 : s0 = 61 := c4
          refine hx_blk (npc := 179) (L' := [(0, .inr (.inl 86)), (2, .inl s0)]) (st' := [.inr (.inl 86)]) (m' := (gx_u (gx_u m 106 (m 86 32).toNat s0) 86 5 (gx_w ((m 86 5) + 1)))) [((158, .aload_n 0, 1, 0, 0, 0, 0), (0, 0, 0)), ((159, .getfield 68, 3, 10, 29, 5142, 0), (1, 86, 106)), ((162, .aload_n 0, 1, 0, 0, 0, 0), (0, 0, 0)), ((163, .getfield 254, 3, 10, 32, 5145, 0), (0, 86, 0)), ((166, .iload_n 2, 1, 0, 0, 0, 0), (0, 0, 0)), ((167, .iastore, 1, 0, 0, 0, 0), (0, 106, 0)), ((168, .aload_n 0, 1, 0, 0, 0, 0), (0, 0, 0)), ((169, .aload_n 0, 1, 0, 0, 0, 0), (0, 0, 0)), ((170, .getfield 132, 3, 10, 5, 5118, 0), (0, 86, 0)), ((173, .iconst 1, 1, 0, 0, 0, 0), (0, 0, 0)), ((174, .iadd, 1, 0, 0, 0, 0), (0, 0, 0)), ((175, .putfield 132, 3, 10, 5, 5118, 0), (0, 86, 0)), ((178, .aload_n 0, 1, 0, 0, 0, 0), (0, 0, 0))] (by decide +kernel) rfl ?_
          refine hx_call (E := (179, .invokevirtual 260, 3, 194, 0, 6148, 0)) (M' := yp_m194) [.inr (.inl 86)] [] rfl (by decide +kernel) rfl ⟨rfl, rfl⟩ rfl rfl (hs194 (fun c5 => ?_) (fun c5 => ?_))
          · have c5 : isPn (aHere (gx_u (gx_u m 106 (m 86 32).toNat s0) 86 5 (gx_w ((m 86 5) + 1)))) := c5
            show hxn xs n yp_m192 182 [(0, .inr (.inl 86)), (2, .inl s0)] [.inl 1] (gx_u (gx_u m 106 (m 86 32).toNat s0) 86 5 (gx_w ((m 86 5) + 1))) Q
            refine hx_if .ne 195 (by decide +kernel) (fun c6 => ?_) (fun c6 => ?_)
            · have c6 : (1 : Int) ≠ 0 := c6
              refine hx_blk (npc := 204) (L' := [(0, .inr (.inl 86)), (2, .inl s0)]) (st' := [.inr (.inl 86), .inl (m 86 32), .inr (.inl 107)]) (m' := (gx_u (gx_u m 106 (m 86 32).toNat s0) 86 5 (gx_w ((m 86 5) + 1)))) [((195, .aload_n 0, 1, 0, 0, 0, 0), (0, 0, 0)), ((196, .getfield 71, 3, 10, 30, 5143, 0), (1, 86, 107)), ((199, .aload_n 0, 1, 0, 0, 0, 0), (0, 0, 0)), ((200, .getfield 254, 3, 10, 32, 5145, 0), (0, 86, 0)), ((203, .aload_n 0, 1, 0, 0, 0, 0), (0, 0, 0))] (by decide +kernel) rfl ?_
              exact hx_call (E := (204, .invokevirtual 138, 3, 170, 0, 6054, 0)) (M' := yp_m170) [.inr (.inl 86)] [.inl (m 86 32), .inr (.inl 107)] rfl (by decide +kernel) rfl ⟨rfl, rfl⟩ rfl rfl (hx_mono (h7 c1 c2 c3 c4 c5) (fun r m' h' => hx_pick [0, 2] h'))
            · have c6 : (1 : Int) = 0 := by have h : ¬ ((1 : Int) ≠ 0) := c6; omega
              exfalso; omega
          · have c5 : ¬ (isPn (aHere (gx_u (gx_u m 106 (m 86 32).toNat s0) 86 5 (gx_w ((m 86 5) + 1))))) := c5
            show hxn xs n yp_m192 182 [(0, .inr (.inl 86)), (2, .inl s0)] [.inl 0] (gx_u (gx_u m 106 (m 86 32).toNat s0) 86 5 (gx_w ((m 86 5) + 1))) Q
            refine hx_if .ne 195 (by decide +kernel) (fun c6 => ?_) (fun c6 => ?_)
            · have c6 : (0 : Int) ≠ 0 := c6
              exfalso; omega
            · have c6 : (0 : Int) = 0 := by have h : ¬ ((0 : Int) ≠ 0) := c6; omega
              refine hx_blk (npc := 191) (L' := [(0, .inr (.inl 86)), (2, .inl s0)]) (st' := [.inl (gx_w ((m 86 5) + 1)), .inl 1, .inr (.inl 86)]) (m' := (gx_u (gx_u m 106 (m 86 32).toNat s0) 86 5 (gx_w ((m 86 5) + 1)))) [((185, .aload_n 0, 1, 0, 0, 0, 0), (0, 0, 0)), ((186, .iconst 1, 1, 0, 0, 0, 0), (0, 0, 0)), ((187, .aload_n 0, 1, 0, 0, 0, 0), (0, 0, 0)), ((188, .getfield 132, 3, 10, 5, 5118, 0), (0, 86, 0))] (by decide +kernel) rfl ?_
              exact hx_call (E := (191, .invokevirtual 145, 3, 172, 0, 6061, 0)) (M' := yp_m172) [.inr (.inl 86), .inl 1, .inl (gx_w ((m 86 5) + 1))] [] rfl (by decide +kernel) rfl ⟨rfl, rfl⟩ rfl rfl (hx_mono (h8 c1 c2 c3 c4 c5) (fun r m' h' => hx_pick [] h'))
        · have c4 : s0 ≠ 61 := c4
          refine hx_blk (npc := 154) (L' := [(0, .inr (.inl 86)), (2, .inl s0)]) (st' := [.inl (m 86 5), .inl 1, .inr (.inl 86)]) (m' := m) [((148, .aload_n 0, 1, 0, 0, 0, 0), (0, 0, 0)), ((149, .iconst 1, 1, 0, 0, 0, 0), (0, 0, 0)), ((150, .aload_n 0, 1, 0, 0, 0, 0), (0, 0, 0)), ((151, .getfield 132, 3, 10, 5, 5118, 0), (0, 86, 0))] (by decide +kernel) rfl ?_
          exact hx_call (E := (154, .invokevirtual 145, 3, 172, 0, 6061, 0)) (M' := yp_m172) [.inr (.inl 86), .inl 1, .inl (m 86 5)] [] rfl (by decide +kernel) rfl ⟨rfl, rfl⟩ rfl rfl (hx_mono (h9 c1 c2 c3 c4) (fun r m' h' => hx_pick [] h'))

/-- readsAct from 157 on -/
theorem hr192_157 {xs : List Int32} {n : Nat} {Q : hQ} {m : gx_M} {s0 : Int}
    (h1 : Q (some (.inl s0)) m) : hxn xs (n + 1) yp_m192 157 [] [.inl s0] m Q := by
  exact hx_reti (by decide +kernel) h1

/-- readsAct from 194 on -/
theorem hr192_194 {xs : List Int32} {n : Nat} {Q : hQ} {m : gx_M} {s0 : Int}
    (h1 : Q (some (.inl s0)) m) : hxn xs (n + 1) yp_m192 194 [] [.inl s0] m Q := by
  exact hx_reti (by decide +kernel) h1

/-- readsAct from 207 on -/
theorem hr192_207 {xs : List Int32} {n : Nat} {Q : hQ} {m : gx_M} {x2 s1 s2 : Int}
    (h1 : (((gx_u m 107 (s1).toNat (gx_w (s2 - 97))) 107 (m 86 32).toNat) ≠ (m 105 (m 86 32).toNat)) → (x2 = 62) → hxn xs n yp_m193 0 [(0, .inr (.inl 86)), (1, .inl 4)] [] (gx_u (gx_u (gx_u m 107 (s1).toNat (gx_w (s2 - 97))) 86 5 (gx_w ((m 86 5) + 1))) 108 (m 86 32).toNat 0) (fun r m' => hxn xs n yp_m192 280 [(0, .inr (.inl 86))] (hrs r ++ []) m' Q))
    (h2 : (((gx_u m 107 (s1).toNat (gx_w (s2 - 97))) 107 (m 86 32).toNat) ≠ (m 105 (m 86 32).toNat)) → (x2 ≠ 62) → (x2 ≠ 93) → Q (some (.inl 1)) (gx_u (gx_u (gx_u (gx_u m 107 (s1).toNat (gx_w (s2 - 97))) 86 5 (gx_w ((m 86 5) + 1))) 108 (m 86 32).toNat 0) 86 32 (gx_w ((m 86 32) + 1))))
    (h3 : (((gx_u m 107 (s1).toNat (gx_w (s2 - 97))) 107 (m 86 32).toNat) ≠ (m 105 (m 86 32).toNat)) → (x2 ≠ 62) → (x2 = 93) → hxn xs n yp_m193 0 [(0, .inr (.inl 86)), (1, .inl 4)] [] (gx_u (gx_u (gx_u m 107 (s1).toNat (gx_w (s2 - 97))) 86 5 (gx_w ((m 86 5) + 1))) 108 (m 86 32).toNat 0) (fun r m' => hxn xs n yp_m192 280 [(0, .inr (.inl 86))] (hrs r ++ []) m' Q))
    (h4 : (((gx_u m 107 (s1).toNat (gx_w (s2 - 97))) 107 (m 86 32).toNat) = (m 105 (m 86 32).toNat)) → hxn xs n yp_m172 0 [(0, .inr (.inl 86)), (1, .inl 6), (2, .inl (m 86 5))] [] (gx_u m 107 (s1).toNat (gx_w (s2 - 97))) (fun r m' => hxn xs n yp_m192 242 [] (hrs r ++ []) m' Q)) : hxn xs (n + 1) yp_m192 207 [(0, .inr (.inl 86)), (2, .inl x2)] [.inl s2, .inl s1, .inr (.inl 107)] m Q := by
  refine hx_blks (npc := 229) (L' := [(0, .inr (.inl 86)), (2, .inl x2)]) (st' := [.inl (m 105 (m 86 32).toNat), .inl ((gx_u m 107 (s1).toNat (gx_w (s2 - 97))) 107 (m 86 32).toNat)]) (m' := (gx_u m 107 (s1).toNat (gx_w (s2 - 97)))) ((207, .bipush 97, 2, 0, 0, 0, 0), (0, 0, 0)) [((209, .isub, 1, 0, 0, 0, 0), (0, 0, 0)), ((210, .iastore, 1, 0, 0, 0, 0), (0, 107, 0)), ((211, .aload_n 0, 1, 0, 0, 0, 0), (0, 0, 0)), ((212, .getfield 71, 3, 10, 30, 5143, 0), (1, 86, 107)), ((215, .aload_n 0, 1, 0, 0, 0, 0), (0, 0, 0)), ((216, .getfield 254, 3, 10, 32, 5145, 0), (0, 86, 0)), ((219, .iaload, 1, 0, 0, 0, 0), (0, 107, 0)), ((220, .aload_n 0, 1, 0, 0, 0, 0), (0, 0, 0)), ((221, .getfield 65, 3, 10, 28, 5141, 0), (1, 86, 105)), ((224, .aload_n 0, 1, 0, 0, 0, 0), (0, 0, 0)), ((225, .getfield 254, 3, 10, 32, 5145, 0), (0, 86, 0)), ((228, .iaload, 1, 0, 0, 0, 0), (0, 105, 0))] (by decide +kernel) rfl ?_
  refine hx_cmp .ne 243 (by decide +kernel) (fun c1 => ?_) (fun c1 => ?_)
  · have c1 : ((gx_u m 107 (s1).toNat (gx_w (s2 - 97))) 107 (m 86 32).toNat) ≠ (m 105 (m 86 32).toNat) := c1
    refine hx_blk (npc := 266) (L' := [(0, .inr (.inl 86)), (2, .inl x2)]) (st' := [.inl 62, .inl x2]) (m' := (gx_u (gx_u (gx_u m 107 (s1).toNat (gx_w (s2 - 97))) 86 5 (gx_w ((m 86 5) + 1))) 108 (m 86 32).toNat 0)) [((243, .aload_n 0, 1, 0, 0, 0, 0), (0, 0, 0)), ((244, .aload_n 0, 1, 0, 0, 0, 0), (0, 0, 0)), ((245, .getfield 132, 3, 10, 5, 5118, 0), (0, 86, 0)), ((248, .iconst 1, 1, 0, 0, 0, 0), (0, 0, 0)), ((249, .iadd, 1, 0, 0, 0, 0), (0, 0, 0)), ((250, .putfield 132, 3, 10, 5, 5118, 0), (0, 86, 0)), ((253, .aload_n 0, 1, 0, 0, 0, 0), (0, 0, 0)), ((254, .getfield 74, 3, 10, 31, 5144, 0), (1, 86, 108)), ((257, .aload_n 0, 1, 0, 0, 0, 0), (0, 0, 0)), ((258, .getfield 254, 3, 10, 32, 5145, 0), (0, 86, 0)), ((261, .iconst 0, 1, 0, 0, 0, 0), (0, 0, 0)), ((262, .iastore, 1, 0, 0, 0, 0), (0, 108, 0)), ((263, .iload_n 2, 1, 0, 0, 0, 0), (0, 0, 0)), ((264, .bipush 62, 2, 0, 0, 0, 0), (0, 0, 0))] (by decide +kernel) rfl ?_
    refine hx_cmp .eq 275 (by decide +kernel) (fun c2 => ?_) (fun c2 => ?_)
    · have c2 : x2 = 62 := c2
      refine hx_blk (npc := 277) (L' := [(0, .inr (.inl 86)), (2, .inl x2)]) (st' := [.inl 4, .inr (.inl 86)]) (m' := (gx_u (gx_u (gx_u m 107 (s1).toNat (gx_w (s2 - 97))) 86 5 (gx_w ((m 86 5) + 1))) 108 (m 86 32).toNat 0)) [((275, .aload_n 0, 1, 0, 0, 0, 0), (0, 0, 0)), ((276, .iconst 4, 1, 0, 0, 0, 0), (0, 0, 0))] (by decide +kernel) rfl ?_
      exact hx_call (E := (277, .invokevirtual 257, 3, 193, 0, 6144, 0)) (M' := yp_m193) [.inr (.inl 86), .inl 4] [] rfl (by decide +kernel) rfl ⟨rfl, rfl⟩ rfl rfl (hx_mono (h1 c1 c2) (fun r m' h' => hx_pick [0] h'))
    · have c2 : x2 ≠ 62 := c2
      refine hx_blk (npc := 272) (L' := [(0, .inr (.inl 86)), (2, .inl x2)]) (st' := [.inl 93, .inl x2]) (m' := (gx_u (gx_u (gx_u m 107 (s1).toNat (gx_w (s2 - 97))) 86 5 (gx_w ((m 86 5) + 1))) 108 (m 86 32).toNat 0)) [((269, .iload_n 2, 1, 0, 0, 0, 0), (0, 0, 0)), ((270, .bipush 93, 2, 0, 0, 0, 0), (0, 0, 0))] (by decide +kernel) rfl ?_
      refine hx_cmp .ne 298 (by decide +kernel) (fun c3 => ?_) (fun c3 => ?_)
      · have c3 : x2 ≠ 93 := c3
        refine hx_blk (npc := 309) (L' := [(0, .inr (.inl 86)), (2, .inl x2)]) (st' := [.inl 1]) (m' := (gx_u (gx_u (gx_u (gx_u m 107 (s1).toNat (gx_w (s2 - 97))) 86 5 (gx_w ((m 86 5) + 1))) 108 (m 86 32).toNat 0) 86 32 (gx_w ((m 86 32) + 1)))) [((298, .aload_n 0, 1, 0, 0, 0, 0), (0, 0, 0)), ((299, .aload_n 0, 1, 0, 0, 0, 0), (0, 0, 0)), ((300, .getfield 254, 3, 10, 32, 5145, 0), (0, 86, 0)), ((303, .iconst 1, 1, 0, 0, 0, 0), (0, 0, 0)), ((304, .iadd, 1, 0, 0, 0, 0), (0, 0, 0)), ((305, .putfield 254, 3, 10, 32, 5145, 0), (0, 86, 0)), ((308, .iconst 1, 1, 0, 0, 0, 0), (0, 0, 0))] (by decide +kernel) rfl ?_
        exact hx_reti (by decide +kernel) (h2 c1 c2 c3)
      · have c3 : x2 = 93 := by have h : ¬ (x2 ≠ 93) := c3; omega
        refine hx_blk (npc := 277) (L' := [(0, .inr (.inl 86)), (2, .inl x2)]) (st' := [.inl 4, .inr (.inl 86)]) (m' := (gx_u (gx_u (gx_u m 107 (s1).toNat (gx_w (s2 - 97))) 86 5 (gx_w ((m 86 5) + 1))) 108 (m 86 32).toNat 0)) [((275, .aload_n 0, 1, 0, 0, 0, 0), (0, 0, 0)), ((276, .iconst 4, 1, 0, 0, 0, 0), (0, 0, 0))] (by decide +kernel) rfl ?_
        exact hx_call (E := (277, .invokevirtual 257, 3, 193, 0, 6144, 0)) (M' := yp_m193) [.inr (.inl 86), .inl 4] [] rfl (by decide +kernel) rfl ⟨rfl, rfl⟩ rfl rfl (hx_mono (h3 c1 c2 c3) (fun r m' h' => hx_pick [0] h'))
  · have c1 : ((gx_u m 107 (s1).toNat (gx_w (s2 - 97))) 107 (m 86 32).toNat) = (m 105 (m 86 32).toNat) := by have h : ¬ (((gx_u m 107 (s1).toNat (gx_w (s2 - 97))) 107 (m 86 32).toNat) ≠ (m 105 (m 86 32).toNat)) := c1; omega
    refine hx_blk (npc := 239) (L' := [(0, .inr (.inl 86)), (2, .inl x2)]) (st' := [.inl (m 86 5), .inl 6, .inr (.inl 86)]) (m' := (gx_u m 107 (s1).toNat (gx_w (s2 - 97)))) [((232, .aload_n 0, 1, 0, 0, 0, 0), (0, 0, 0)), ((233, .bipush 6, 2, 0, 0, 0, 0), (0, 0, 0)), ((235, .aload_n 0, 1, 0, 0, 0, 0), (0, 0, 0)), ((236, .getfield 132, 3, 10, 5, 5118, 0), (0, 86, 0))] (by decide +kernel) rfl ?_
    exact hx_call (E := (239, .invokevirtual 145, 3, 172, 0, 6061, 0)) (M' := yp_m172) [.inr (.inl 86), .inl 6, .inl (m 86 5)] [] rfl (by decide +kernel) rfl ⟨rfl, rfl⟩ rfl rfl (hx_mono (h4 c1) (fun r m' h' => hx_pick [] h'))

/-- readsAct from 242 on -/
theorem hr192_242 {xs : List Int32} {n : Nat} {Q : hQ} {m : gx_M} {s0 : Int}
    (h1 : Q (some (.inl s0)) m) : hxn xs (n + 1) yp_m192 242 [] [.inl s0] m Q := by
  exact hx_reti (by decide +kernel) h1

/-- readsAct from 280 on -/
theorem hr192_280 {xs : List Int32} {n : Nat} {Q : hQ} {m : gx_M} {s0 : Int}
    (h1 : (s0 ≠ 0) → Q (some (.inl 1)) (gx_u (gx_u m 108 (m 86 32).toNat (m 86 8)) 86 32 (gx_w ((m 86 32) + 1))))
    (h2 : (s0 = 0) → Q (some (.inl 0)) m) : hxn xs (n + 1) yp_m192 280 [(0, .inr (.inl 86))] [.inl s0] m Q := by
  refine hx_ifs .ne 285 (by decide +kernel) (fun c1 => ?_) (fun c1 => ?_)
  · have c1 : s0 ≠ 0 := c1
    refine hx_blk (npc := 309) (L' := [(0, .inr (.inl 86))]) (st' := [.inl 1]) (m' := (gx_u (gx_u m 108 (m 86 32).toNat (m 86 8)) 86 32 (gx_w ((m 86 32) + 1)))) [((285, .aload_n 0, 1, 0, 0, 0, 0), (0, 0, 0)), ((286, .getfield 74, 3, 10, 31, 5144, 0), (1, 86, 108)), ((289, .aload_n 0, 1, 0, 0, 0, 0), (0, 0, 0)), ((290, .getfield 254, 3, 10, 32, 5145, 0), (0, 86, 0)), ((293, .aload_n 0, 1, 0, 0, 0, 0), (0, 0, 0)), ((294, .getfield 148, 3, 10, 8, 5121, 0), (0, 86, 0)), ((297, .iastore, 1, 0, 0, 0, 0), (0, 108, 0)), ((298, .aload_n 0, 1, 0, 0, 0, 0), (0, 0, 0)), ((299, .aload_n 0, 1, 0, 0, 0, 0), (0, 0, 0)), ((300, .getfield 254, 3, 10, 32, 5145, 0), (0, 86, 0)), ((303, .iconst 1, 1, 0, 0, 0, 0), (0, 0, 0)), ((304, .iadd, 1, 0, 0, 0, 0), (0, 0, 0)), ((305, .putfield 254, 3, 10, 32, 5145, 0), (0, 86, 0)), ((308, .iconst 1, 1, 0, 0, 0, 0), (0, 0, 0))] (by decide +kernel) rfl ?_
    exact hx_reti (by decide +kernel) (h1 c1)
  · have c1 : s0 = 0 := by have h : ¬ (s0 ≠ 0) := c1; omega
    refine hx_blk (npc := 284) (L' := [(0, .inr (.inl 86))]) (st' := [.inl 0]) (m' := m) [((283, .iconst 0, 1, 0, 0, 0, 0), (0, 0, 0))] (by decide +kernel) rfl ?_
    exact hx_reti (by decide +kernel) (h2 c1)

/-- readsActs from 0 on -/
theorem hr191_0 {xs : List Int32} {n : Nat} {Q : hQ} {m : gx_M} {x1 : Int}
    (h1 : hxn xs n yp_m192 0 [(0, .inr (.inl 86))] [] (gx_u (gx_u (gx_u m 86 5 0) 86 6 x1) 86 32 0) (fun r m' => hxn xs n yp_m191 19 [(0, .inr (.inl 86))] (hrs r ++ []) m' Q)) : hxn xs (n + 1) yp_m191 0 [(0, .inr (.inl 86)), (1, .inl x1)] [] m Q := by
  refine hx_blks (npc := 16) (L' := [(0, .inr (.inl 86)), (1, .inl x1)]) (st' := [.inr (.inl 86)]) (m' := (gx_u (gx_u (gx_u m 86 5 0) 86 6 x1) 86 32 0)) ((0, .aload_n 0, 1, 0, 0, 0, 0), (0, 0, 0)) [((1, .iconst 0, 1, 0, 0, 0, 0), (0, 0, 0)), ((2, .putfield 132, 3, 10, 5, 5118, 0), (0, 86, 0)), ((5, .aload_n 0, 1, 0, 0, 0, 0), (0, 0, 0)), ((6, .iload_n 1, 1, 0, 0, 0, 0), (0, 0, 0)), ((7, .putfield 135, 3, 10, 6, 5119, 0), (0, 86, 0)), ((10, .aload_n 0, 1, 0, 0, 0, 0), (0, 0, 0)), ((11, .iconst 0, 1, 0, 0, 0, 0), (0, 0, 0)), ((12, .putfield 254, 3, 10, 32, 5145, 0), (0, 86, 0)), ((15, .aload_n 0, 1, 0, 0, 0, 0), (0, 0, 0))] (by decide +kernel) rfl ?_
  exact hx_call (E := (16, .invokevirtual 263, 3, 192, 0, 6140, 0)) (M' := yp_m192) [.inr (.inl 86)] [] rfl (by decide +kernel) rfl ⟨rfl, rfl⟩ rfl rfl (hx_mono h1 (fun r m' h' => hx_pick [0] h'))

/-- readsActs from 19 on -/
theorem hr191_19 {xs : List Int32} {n : Nat} {Q : hQ} {m : gx_M} {s0 : Int}
    (h1 : hxn xs n yp_m191 20 [(0, .inr (.inl 86)), (2, .inl s0)] [] m Q) : hxn xs (n + 1) yp_m191 19 [(0, .inr (.inl 86))] [.inl s0] m Q := by
  refine hx_blks (npc := 20) (L' := [(0, .inr (.inl 86)), (2, .inl s0)]) (st' := []) (m' := m) ((19, .istore_n 2, 1, 0, 0, 0, 0), (0, 0, 0)) [] (by decide +kernel) rfl ?_
  exact hx_pick [0, 2] h1

/-- readsActs from 20 on -/
theorem hr191_20 {xs : List Int32} {n : Nat} {Q : hQ} {m : gx_M} {x2 : Int}
    (h1 : (x2 = 0) → Q (some (.inl x2)) (gx_u m 86 4 0))
    (h2 : (x2 ≠ 0) → ((m 86 6) ≤ (m 86 5)) → Q (some (.inl x2)) (gx_u m 86 4 0))
    (h3 : (x2 ≠ 0) → ((m 86 5) < (m 86 6)) → hxn xs n yp_m189 0 [(0, .inr (.inl 86)), (1, .inl 59)] [] m (fun r m' => hxn xs n yp_m191 41 [(0, .inr (.inl 86))] (hrs r ++ []) m' Q)) : hxn xs (n + 1) yp_m191 20 [(0, .inr (.inl 86)), (2, .inl x2)] [] m Q := by
  refine hx_blks (npc := 21) (L' := [(0, .inr (.inl 86)), (2, .inl x2)]) (st' := [.inl x2]) (m' := m) ((20, .iload_n 2, 1, 0, 0, 0, 0), (0, 0, 0)) [] (by decide +kernel) rfl ?_
  refine hx_if .eq 60 (by decide +kernel) (fun c1 => ?_) (fun c1 => ?_)
  · have c1 : x2 = 0 := c1
    refine hx_blk (npc := 66) (L' := [(0, .inr (.inl 86)), (2, .inl x2)]) (st' := [.inl x2]) (m' := (gx_u m 86 4 0)) [((60, .aload_n 0, 1, 0, 0, 0, 0), (0, 0, 0)), ((61, .iconst 0, 1, 0, 0, 0, 0), (0, 0, 0)), ((62, .putfield 124, 3, 10, 4, 5117, 0), (0, 86, 0)), ((65, .iload_n 2, 1, 0, 0, 0, 0), (0, 0, 0))] (by decide +kernel) rfl ?_
    exact hx_reti (by decide +kernel) (h1 c1)
  · have c1 : x2 ≠ 0 := c1
    refine hx_blk (npc := 32) (L' := [(0, .inr (.inl 86)), (2, .inl x2)]) (st' := [.inl (m 86 6), .inl (m 86 5)]) (m' := m) [((24, .aload_n 0, 1, 0, 0, 0, 0), (0, 0, 0)), ((25, .getfield 132, 3, 10, 5, 5118, 0), (0, 86, 0)), ((28, .aload_n 0, 1, 0, 0, 0, 0), (0, 0, 0)), ((29, .getfield 135, 3, 10, 6, 5119, 0), (0, 86, 0))] (by decide +kernel) rfl ?_
    refine hx_cmp .ge 60 (by decide +kernel) (fun c2 => ?_) (fun c2 => ?_)
    · have c2 : (m 86 6) ≤ (m 86 5) := c2
      refine hx_blk (npc := 66) (L' := [(0, .inr (.inl 86)), (2, .inl x2)]) (st' := [.inl x2]) (m' := (gx_u m 86 4 0)) [((60, .aload_n 0, 1, 0, 0, 0, 0), (0, 0, 0)), ((61, .iconst 0, 1, 0, 0, 0, 0), (0, 0, 0)), ((62, .putfield 124, 3, 10, 4, 5117, 0), (0, 86, 0)), ((65, .iload_n 2, 1, 0, 0, 0, 0), (0, 0, 0))] (by decide +kernel) rfl ?_
      exact hx_reti (by decide +kernel) (h2 c1 c2)
    · have c2 : (m 86 5) < (m 86 6) := by have h : ¬ ((m 86 6) ≤ (m 86 5)) := c2; omega
      refine hx_blk (npc := 38) (L' := [(0, .inr (.inl 86)), (2, .inl x2)]) (st' := [.inl 59, .inr (.inl 86)]) (m' := m) [((35, .aload_n 0, 1, 0, 0, 0, 0), (0, 0, 0)), ((36, .bipush 59, 2, 0, 0, 0, 0), (0, 0, 0))] (by decide +kernel) rfl ?_
      exact hx_call (E := (38, .invokevirtual 222, 3, 189, 0, 6128, 0)) (M' := yp_m189) [.inr (.inl 86), .inl 59] [] rfl (by decide +kernel) rfl ⟨rfl, rfl⟩ rfl rfl (hx_mono (h3 c1 c2) (fun r m' h' => hx_pick [0] h'))

/-- readsActs from 41 on -/
theorem hr191_41 {xs : List Int32} {n : Nat} {Q : hQ} {m : gx_M} {s0 : Int}
    (h1 : (s0 = 0) → hxn xs n yp_m191 20 [(0, .inr (.inl 86)), (2, .inl 0)] [] m Q)
    (h2 : (s0 ≠ 0) → hxn xs n yp_m192 0 [(0, .inr (.inl 86))] [] m (fun r m' => hxn xs n yp_m191 48 [(0, .inr (.inl 86))] (hrs r ++ []) m' Q)) : hxn xs (n + 1) yp_m191 41 [(0, .inr (.inl 86))] [.inl s0] m Q := by
  refine hx_ifs .eq 55 (by decide +kernel) (fun c1 => ?_) (fun c1 => ?_)
  · have c1 : s0 = 0 := c1
    refine hx_blk (npc := 20) (L' := [(0, .inr (.inl 86)), (2, .inl 0)]) (st' := []) (m' := m) [((55, .iconst 0, 1, 0, 0, 0, 0), (0, 0, 0)), ((56, .istore_n 2, 1, 0, 0, 0, 0), (0, 0, 0)), ((57, .goto (-37), 3, 0, 0, 0, 0), (0, 0, 0))] (by decide +kernel) rfl ?_
    exact hx_pick [0, 2] (h1 c1)
  · have c1 : s0 ≠ 0 := c1
    refine hx_blk (npc := 45) (L' := [(0, .inr (.inl 86))]) (st' := [.inr (.inl 86)]) (m' := m) [((44, .aload_n 0, 1, 0, 0, 0, 0), (0, 0, 0))] (by decide +kernel) rfl ?_
    exact hx_call (E := (45, .invokevirtual 263, 3, 192, 0, 6140, 0)) (M' := yp_m192) [.inr (.inl 86)] [] rfl (by decide +kernel) rfl ⟨rfl, rfl⟩ rfl rfl (hx_mono (h2 c1) (fun r m' h' => hx_pick [0] h'))

/-- readsActs from 48 on -/
theorem hr191_48 {xs : List Int32} {n : Nat} {Q : hQ} {m : gx_M} {s0 : Int}
    (h1 : (s0 = 0) → hxn xs n yp_m191 20 [(0, .inr (.inl 86)), (2, .inl 0)] [] m Q)
    (h2 : (s0 ≠ 0) → hxn xs n yp_m191 20 [(0, .inr (.inl 86)), (2, .inl 1)] [] m Q) : hxn xs (n + 1) yp_m191 48 [(0, .inr (.inl 86))] [.inl s0] m Q := by
  refine hx_ifs .eq 55 (by decide +kernel) (fun c1 => ?_) (fun c1 => ?_)
  · have c1 : s0 = 0 := c1
    refine hx_blk (npc := 20) (L' := [(0, .inr (.inl 86)), (2, .inl 0)]) (st' := []) (m' := m) [((55, .iconst 0, 1, 0, 0, 0, 0), (0, 0, 0)), ((56, .istore_n 2, 1, 0, 0, 0, 0), (0, 0, 0)), ((57, .goto (-37), 3, 0, 0, 0, 0), (0, 0, 0))] (by decide +kernel) rfl ?_
    exact hx_pick [0, 2] (h1 c1)
  · have c1 : s0 ≠ 0 := c1
    refine hx_blk (npc := 20) (L' := [(0, .inr (.inl 86)), (2, .inl 1)]) (st' := []) (m' := m) [((51, .iconst 1, 1, 0, 0, 0, 0), (0, 0, 0)), ((52, .goto 4, 3, 0, 0, 0, 0), (0, 0, 0)), ((56, .istore_n 2, 1, 0, 0, 0, 0), (0, 0, 0)), ((57, .goto (-37), 3, 0, 0, 0, 0), (0, 0, 0))] (by decide +kernel) rfl ?_
    exact hx_pick [0, 2] (h2 c1)

/-- deals from 0 on -/
theorem hr190_0 {xs : List Int32} {n : Nat} {Q : hQ} {m : gx_M} {x1 : Int}
    (h1 : (1 ≤ x1 ∧ x1 ≤ 160) → (x1 ≤ (m 86 4)) → hxn xs n yp_m191 0 [(0, .inr (.inl 86)), (1, .inl x1)] [] m (fun r m' => hxn xs n yp_m190 26 [(0, .inr (.inl 86))] (hrs r ++ []) m' Q))
    (h2 : (1 ≤ x1 ∧ x1 ≤ 160) → ((m 86 4) < x1) → Q (some (.inl (-1))) m)
    (h3 : (¬ (1 ≤ x1 ∧ x1 ≤ 160)) → Q (some (.inl (-1))) m) : hxn xs (n + 1) yp_m190 0 [(0, .inr (.inl 86)), (1, .inl x1)] [] m Q := by
  refine hx_blks (npc := 5) (L' := [(0, .inr (.inl 86)), (1, .inl x1)]) (st' := [.inl 160, .inl 1, .inl x1]) (m' := m) ((0, .iload_n 1, 1, 0, 0, 0, 0), (0, 0, 0)) [((1, .iconst 1, 1, 0, 0, 0, 0), (0, 0, 0)), ((2, .sipush 160, 3, 0, 0, 0, 0), (0, 0, 0))] (by decide +kernel) rfl ?_
  refine hx_call (E := (5, .invokestatic 108, 3, 162, 0, 6023, 0)) (M' := yp_m162) [.inl x1, .inl 1, .inl 160] [] rfl (by decide +kernel) rfl ⟨rfl, rfl⟩ rfl rfl (hs162 (fun c1 => ?_) (fun c1 => ?_))
  · have c1 : 1 ≤ x1 ∧ x1 ≤ 160 := c1
    show hxn xs n yp_m190 8 [(0, .inr (.inl 86)), (1, .inl x1)] [.inl 1] m Q
    refine hx_if .eq 19 (by decide +kernel) (fun c2 => ?_) (fun c2 => ?_)
    · have c2 : (1 : Int) = 0 := c2
      exfalso; omega
    · have c2 : (1 : Int) ≠ 0 := c2
      refine hx_blk (npc := 16) (L' := [(0, .inr (.inl 86)), (1, .inl x1)]) (st' := [.inl (m 86 4), .inl x1]) (m' := m) [((11, .iload_n 1, 1, 0, 0, 0, 0), (0, 0, 0)), ((12, .aload_n 0, 1, 0, 0, 0, 0), (0, 0, 0)), ((13, .getfield 124, 3, 10, 4, 5117, 0), (0, 86, 0))] (by decide +kernel) rfl ?_
      refine hx_cmp .le 21 (by decide +kernel) (fun c2 => ?_) (fun c2 => ?_)
      · have c2 : x1 ≤ (m 86 4) := c2
        refine hx_blk (npc := 23) (L' := [(0, .inr (.inl 86)), (1, .inl x1)]) (st' := [.inl x1, .inr (.inl 86)]) (m' := m) [((21, .aload_n 0, 1, 0, 0, 0, 0), (0, 0, 0)), ((22, .iload_n 1, 1, 0, 0, 0, 0), (0, 0, 0))] (by decide +kernel) rfl ?_
        exact hx_call (E := (23, .invokevirtual 284, 3, 191, 0, 6136, 0)) (M' := yp_m191) [.inr (.inl 86), .inl x1] [] rfl (by decide +kernel) rfl ⟨rfl, rfl⟩ rfl rfl (hx_mono (h1 c1 c2) (fun r m' h' => hx_pick [0] h'))
      · have c2 : (m 86 4) < x1 := by have h : ¬ (x1 ≤ (m 86 4)) := c2; omega
        refine hx_blk (npc := 20) (L' := [(0, .inr (.inl 86)), (1, .inl x1)]) (st' := [.inl (-1)]) (m' := m) [((19, .iconst (-1), 1, 0, 0, 0, 0), (0, 0, 0))] (by decide +kernel) rfl ?_
        exact hx_reti (by decide +kernel) (h2 c1 c2)
  · have c1 : ¬ (1 ≤ x1 ∧ x1 ≤ 160) := c1
    show hxn xs n yp_m190 8 [(0, .inr (.inl 86)), (1, .inl x1)] [.inl 0] m Q
    refine hx_if .eq 19 (by decide +kernel) (fun c2 => ?_) (fun c2 => ?_)
    · have c2 : (0 : Int) = 0 := c2
      refine hx_blk (npc := 20) (L' := [(0, .inr (.inl 86)), (1, .inl x1)]) (st' := [.inl (-1)]) (m' := m) [((19, .iconst (-1), 1, 0, 0, 0, 0), (0, 0, 0))] (by decide +kernel) rfl ?_
      exact hx_reti (by decide +kernel) (h3 c1)
    · have c2 : (0 : Int) ≠ 0 := c2
      exfalso; omega

/-- deals from 26 on -/
theorem hr190_26 {xs : List Int32} {n : Nat} {Q : hQ} {m : gx_M} {s0 : Int}
    (h1 : (s0 ≠ 0) → hxn xs n yp_m190 38 [(0, .inr (.inl 86)), (2, .inl 0), (3, .inl 0)] [] m Q)
    (h2 : (s0 = 0) → Q (some (.inl (m 86 7))) m) : hxn xs (n + 1) yp_m190 26 [(0, .inr (.inl 86))] [.inl s0] m Q := by
  refine hx_ifs .ne 34 (by decide +kernel) (fun c1 => ?_) (fun c1 => ?_)
  · have c1 : s0 ≠ 0 := c1
    refine hx_blk (npc := 38) (L' := [(0, .inr (.inl 86)), (2, .inl 0), (3, .inl 0)]) (st' := []) (m' := m) [((34, .iconst 0, 1, 0, 0, 0, 0), (0, 0, 0)), ((35, .istore_n 2, 1, 0, 0, 0, 0), (0, 0, 0)), ((36, .iconst 0, 1, 0, 0, 0, 0), (0, 0, 0)), ((37, .istore_n 3, 1, 0, 0, 0, 0), (0, 0, 0))] (by decide +kernel) rfl ?_
    exact hx_pick [0, 2, 3] (h1 c1)
  · have c1 : s0 = 0 := by have h : ¬ (s0 ≠ 0) := c1; omega
    refine hx_blk (npc := 33) (L' := [(0, .inr (.inl 86))]) (st' := [.inl (m 86 7)]) (m' := m) [((29, .aload_n 0, 1, 0, 0, 0, 0), (0, 0, 0)), ((30, .getfield 142, 3, 10, 7, 5120, 0), (0, 86, 0))] (by decide +kernel) rfl ?_
    exact hx_reti (by decide +kernel) (h2 c1)

/-- deals from 38 on -/
theorem hr190_38 {xs : List Int32} {n : Nat} {Q : hQ} {m : gx_M} {x2 x3 : Int}
    (h1 : ((m 86 32) ≤ x3) → Q (some (.inl x2)) m)
    (h2 : (x3 < (m 86 32)) → hxn xs n yp_m195 0 [(0, .inr (.inl 86)), (1, .inl x3)] [] m (fun r m' => hxn xs n yp_m190 52 [(0, .inr (.inl 86)), (3, .inl x3)] (hrs r ++ [.inl x2]) m' Q)) : hxn xs (n + 1) yp_m190 38 [(0, .inr (.inl 86)), (2, .inl x2), (3, .inl x3)] [] m Q := by
  refine hx_blks (npc := 43) (L' := [(0, .inr (.inl 86)), (2, .inl x2), (3, .inl x3)]) (st' := [.inl (m 86 32), .inl x3]) (m' := m) ((38, .iload_n 3, 1, 0, 0, 0, 0), (0, 0, 0)) [((39, .aload_n 0, 1, 0, 0, 0, 0), (0, 0, 0)), ((40, .getfield 254, 3, 10, 32, 5145, 0), (0, 86, 0))] (by decide +kernel) rfl ?_
  refine hx_cmp .ge 68 (by decide +kernel) (fun c1 => ?_) (fun c1 => ?_)
  · have c1 : (m 86 32) ≤ x3 := c1
    refine hx_blk (npc := 69) (L' := [(0, .inr (.inl 86)), (2, .inl x2), (3, .inl x3)]) (st' := [.inl x2]) (m' := m) [((68, .iload_n 2, 1, 0, 0, 0, 0), (0, 0, 0))] (by decide +kernel) rfl ?_
    exact hx_reti (by decide +kernel) (h1 c1)
  · have c1 : x3 < (m 86 32) := by have h : ¬ ((m 86 32) ≤ x3) := c1; omega
    refine hx_blk (npc := 49) (L' := [(0, .inr (.inl 86)), (2, .inl x2), (3, .inl x3)]) (st' := [.inl x3, .inr (.inl 86), .inl x2]) (m' := m) [((46, .iload_n 2, 1, 0, 0, 0, 0), (0, 0, 0)), ((47, .aload_n 0, 1, 0, 0, 0, 0), (0, 0, 0)), ((48, .iload_n 3, 1, 0, 0, 0, 0), (0, 0, 0))] (by decide +kernel) rfl ?_
    exact hx_call (E := (49, .invokevirtual 287, 3, 195, 0, 6152, 0)) (M' := yp_m195) [.inr (.inl 86), .inl x3] [.inl x2] rfl (by decide +kernel) rfl ⟨rfl, rfl⟩ rfl rfl (hx_mono (h2 c1) (fun r m' h' => hx_pick [0, 3] h'))

/-- deals from 52 on -/
theorem hr190_52 {xs : List Int32} {n : Nat} {Q : hQ} {m : gx_M} {x3 s0 s1 : Int}
    (h1 : (s1 = 0) → hxn xs n yp_m190 38 [(0, .inr (.inl 86)), (2, .inl (gx_w (s0 + 0))), (3, .inl (gx_w (x3 + 1)))] [] m Q)
    (h2 : (s1 ≠ 0) → hxn xs n yp_m190 38 [(0, .inr (.inl 86)), (2, .inl (gx_w (s0 + 1))), (3, .inl (gx_w (x3 + 1)))] [] m Q) : hxn xs (n + 1) yp_m190 52 [(0, .inr (.inl 86)), (3, .inl x3)] [.inl s1, .inl s0] m Q := by
  refine hx_ifs .eq 59 (by decide +kernel) (fun c1 => ?_) (fun c1 => ?_)
  · have c1 : s1 = 0 := c1
    refine hx_blk (npc := 38) (L' := [(0, .inr (.inl 86)), (3, .inl (gx_w (x3 + 1))), (2, .inl (gx_w (s0 + 0)))]) (st' := []) (m' := m) [((59, .iconst 0, 1, 0, 0, 0, 0), (0, 0, 0)), ((60, .iadd, 1, 0, 0, 0, 0), (0, 0, 0)), ((61, .istore_n 2, 1, 0, 0, 0, 0), (0, 0, 0)), ((62, .iinc 3 1, 3, 0, 0, 0, 0), (0, 0, 0)), ((65, .goto (-27), 3, 0, 0, 0, 0), (0, 0, 0))] (by decide +kernel) rfl ?_
    exact hx_pick [0, 2, 3] (h1 c1)
  · have c1 : s1 ≠ 0 := c1
    refine hx_blk (npc := 38) (L' := [(0, .inr (.inl 86)), (3, .inl (gx_w (x3 + 1))), (2, .inl (gx_w (s0 + 1)))]) (st' := []) (m' := m) [((55, .iconst 1, 1, 0, 0, 0, 0), (0, 0, 0)), ((56, .goto 4, 3, 0, 0, 0, 0), (0, 0, 0)), ((60, .iadd, 1, 0, 0, 0, 0), (0, 0, 0)), ((61, .istore_n 2, 1, 0, 0, 0, 0), (0, 0, 0)), ((62, .iinc 3 1, 3, 0, 0, 0, 0), (0, 0, 0)), ((65, .goto (-27), 3, 0, 0, 0, 0), (0, 0, 0))] (by decide +kernel) rfl ?_
    exact hx_pick [0, 2, 3] (h2 c1)

/-- min from 0 on -/
theorem hr199_0 {xs : List Int32} {n : Nat} {Q : hQ} {m : gx_M} {x0 x1 : Int}
    (h1 : (x1 ≤ x0) → Q (some (.inl x1)) m)
    (h2 : (x0 < x1) → Q (some (.inl x0)) m) : hxn xs (n + 1) yp_m199 0 [(0, .inl x0), (1, .inl x1)] [] m Q := by
  refine hx_blks (npc := 2) (L' := [(0, .inl x0), (1, .inl x1)]) (st' := [.inl x1, .inl x0]) (m' := m) ((0, .iload_n 0, 1, 0, 0, 0, 0), (0, 0, 0)) [((1, .iload_n 1, 1, 0, 0, 0, 0), (0, 0, 0))] (by decide +kernel) rfl ?_
  refine hx_cmp .ge 9 (by decide +kernel) (fun c1 => ?_) (fun c1 => ?_)
  · have c1 : x1 ≤ x0 := c1
    refine hx_blk (npc := 10) (L' := [(0, .inl x0), (1, .inl x1)]) (st' := [.inl x1]) (m' := m) [((9, .iload_n 1, 1, 0, 0, 0, 0), (0, 0, 0))] (by decide +kernel) rfl ?_
    exact hx_reti (by decide +kernel) (h1 c1)
  · have c1 : x0 < x1 := by have h : ¬ (x1 ≤ x0) := c1; omega
    refine hx_blk (npc := 10) (L' := [(0, .inl x0), (1, .inl x1)]) (st' := [.inl x0]) (m' := m) [((5, .iload_n 0, 1, 0, 0, 0, 0), (0, 0, 0)), ((6, .goto 4, 3, 0, 0, 0, 0), (0, 0, 0))] (by decide +kernel) rfl ?_
    exact hx_reti (by decide +kernel) (h2 c1)

/-- paid from 0 on -/
theorem hr198_0 {xs : List Int32} {n : Nat} {Q : hQ} {m : gx_M} {x1 x2 : Int}
    (h1 : hxn xs n yp_m199 0 [(0, .inl 99999), (1, .inl (gx_w ((m 87 (gx_w (1120 + x1)).toNat) + x2)))] [] m (fun r m' => hxn xs n yp_m198 17 [] (hrs r ++ []) m' Q)) : hxn xs (n + 1) yp_m198 0 [(0, .inr (.inl 86)), (1, .inl x1), (2, .inl x2)] [] m Q := by
  refine hx_blks (npc := 14) (L' := [(0, .inr (.inl 86)), (1, .inl x1), (2, .inl x2)]) (st' := [.inl (gx_w ((m 87 (gx_w (1120 + x1)).toNat) + x2)), .inl 99999]) (m' := m) ((0, .ldc 112, 2, 0, 0, 6026, 99999), (0, 0, 0)) [((2, .aload_n 0, 1, 0, 0, 0, 0), (0, 0, 0)), ((3, .getfield 7, 3, 10, 0, 5113, 0), (1, 86, 87)), ((6, .sipush 1120, 3, 0, 0, 0, 0), (0, 0, 0)), ((9, .iload_n 1, 1, 0, 0, 0, 0), (0, 0, 0)), ((10, .iadd, 1, 0, 0, 0, 0), (0, 0, 0)), ((11, .iaload, 1, 0, 0, 0, 0), (0, 87, 0)), ((12, .iload_n 2, 1, 0, 0, 0, 0), (0, 0, 0)), ((13, .iadd, 1, 0, 0, 0, 0), (0, 0, 0))] (by decide +kernel) rfl ?_
  exact hx_call (E := (14, .invokestatic 120, 3, 199, 0, 6168, 0)) (M' := yp_m199) [.inl 99999, .inl (gx_w ((m 87 (gx_w (1120 + x1)).toNat) + x2))] [] rfl (by decide +kernel) rfl ⟨rfl, rfl⟩ rfl rfl (hx_mono h1 (fun r m' h' => hx_pick [] h'))

/-- paid from 17 on -/
theorem hr198_17 {xs : List Int32} {n : Nat} {Q : hQ} {m : gx_M} {s0 : Int}
    (h1 : Q (some (.inl s0)) m) : hxn xs (n + 1) yp_m198 17 [] [.inl s0] m Q := by
  exact hx_reti (by decide +kernel) h1

/-- isPawned from 0 on -/
theorem hr200_0 {xs : List Int32} {n : Nat} {Q : hQ} {m : gx_M} {x1 : Int}
    (h1 : ((m 87 (gx_w (280 + x1)).toNat) < 0) → Q (some (.inl 0)) m)
    (h2 : (0 ≤ (m 87 (gx_w (280 + x1)).toNat)) → Q (some (.inl 1)) m) : hxn xs (n + 1) yp_m200 0 [(0, .inr (.inl 86)), (1, .inl x1)] [] m Q := by
  refine hx_blks (npc := 10) (L' := [(0, .inr (.inl 86)), (1, .inl x1)]) (st' := [.inl (m 87 (gx_w (280 + x1)).toNat)]) (m' := m) ((0, .aload_n 0, 1, 0, 0, 0, 0), (0, 0, 0)) [((1, .getfield 7, 3, 10, 0, 5113, 0), (1, 86, 87)), ((4, .sipush 280, 3, 0, 0, 0, 0), (0, 0, 0)), ((7, .iload_n 1, 1, 0, 0, 0, 0), (0, 0, 0)), ((8, .iadd, 1, 0, 0, 0, 0), (0, 0, 0)), ((9, .iaload, 1, 0, 0, 0, 0), (0, 87, 0))] (by decide +kernel) rfl ?_
  refine hx_if .lt 17 (by decide +kernel) (fun c1 => ?_) (fun c1 => ?_)
  · have c1 : (m 87 (gx_w (280 + x1)).toNat) < 0 := c1
    refine hx_blk (npc := 18) (L' := [(0, .inr (.inl 86)), (1, .inl x1)]) (st' := [.inl 0]) (m' := m) [((17, .iconst 0, 1, 0, 0, 0, 0), (0, 0, 0))] (by decide +kernel) rfl ?_
    exact hx_reti (by decide +kernel) (h1 c1)
  · have c1 : 0 ≤ (m 87 (gx_w (280 + x1)).toNat) := by have h : ¬ ((m 87 (gx_w (280 + x1)).toNat) < 0) := c1; omega
    refine hx_blk (npc := 18) (L' := [(0, .inr (.inl 86)), (1, .inl x1)]) (st' := [.inl 1]) (m' := m) [((13, .iconst 1, 1, 0, 0, 0, 0), (0, 0, 0)), ((14, .goto 4, 3, 0, 0, 0, 0), (0, 0, 0))] (by decide +kernel) rfl ?_
    exact hx_reti (by decide +kernel) (h2 c1)

/-- fetches from 0 on -/
theorem hr197_0 {xs : List Int32} {n : Nat} {Q : hQ} {m : gx_M} {x1 x2 x3 : Int}
    (h1 : ((m 87 (gx_w (280 + x1)).toNat) ≠ x3) → Q (some (.inl 0)) m)
    (h2 : ((m 87 (gx_w (280 + x1)).toNat) = x3) → ((m 87 (gx_w (360 + x1)).toNat) ≤ (m 87 (gx_w (1120 + x2)).toNat)) → hxn xs n yp_m198 0 [(0, .inr (.inl 86)), (1, .inl x3), (2, .inl ((gx_u m 87 (gx_w (1120 + x2)).toNat (gx_w ((m 87 (gx_w (1120 + x2)).toNat) - (m 87 (gx_w (360 + x1)).toNat)))) 87 (gx_w (360 + x1)).toNat))] [] (gx_u m 87 (gx_w (1120 + x2)).toNat (gx_w ((m 87 (gx_w (1120 + x2)).toNat) - (m 87 (gx_w (360 + x1)).toNat)))) (fun r m' => hxn xs n yp_m197 94 [(0, .inr (.inl 86)), (1, .inl x1)] (hrs r ++ [.inl (gx_w (1120 + x3)), .inr (.inl 87)]) m' Q))
    (h3 : ((m 87 (gx_w (280 + x1)).toNat) = x3) → ((m 87 (gx_w (1120 + x2)).toNat) < (m 87 (gx_w (360 + x1)).toNat)) → Q (some (.inl 0)) m) : hxn xs (n + 1) yp_m197 0 [(0, .inr (.inl 86)), (1, .inl x1), (2, .inl x2), (3, .inl x3)] [] m Q := by
  refine hx_blks (npc := 11) (L' := [(0, .inr (.inl 86)), (1, .inl x1), (2, .inl x2), (3, .inl x3)]) (st' := [.inl x3, .inl (m 87 (gx_w (280 + x1)).toNat)]) (m' := m) ((0, .aload_n 0, 1, 0, 0, 0, 0), (0, 0, 0)) [((1, .getfield 7, 3, 10, 0, 5113, 0), (1, 86, 87)), ((4, .sipush 280, 3, 0, 0, 0, 0), (0, 0, 0)), ((7, .iload_n 1, 1, 0, 0, 0, 0), (0, 0, 0)), ((8, .iadd, 1, 0, 0, 0, 0), (0, 0, 0)), ((9, .iaload, 1, 0, 0, 0, 0), (0, 87, 0)), ((10, .iload_n 3, 1, 0, 0, 0, 0), (0, 0, 0))] (by decide +kernel) rfl ?_
  refine hx_cmp .ne 37 (by decide +kernel) (fun c1 => ?_) (fun c1 => ?_)
  · have c1 : (m 87 (gx_w (280 + x1)).toNat) ≠ x3 := c1
    refine hx_blk (npc := 38) (L' := [(0, .inr (.inl 86)), (1, .inl x1), (2, .inl x2), (3, .inl x3)]) (st' := [.inl 0]) (m' := m) [((37, .iconst 0, 1, 0, 0, 0, 0), (0, 0, 0))] (by decide +kernel) rfl ?_
    exact hx_reti (by decide +kernel) (h1 c1)
  · have c1 : (m 87 (gx_w (280 + x1)).toNat) = x3 := by have h : ¬ ((m 87 (gx_w (280 + x1)).toNat) ≠ x3) := c1; omega
    refine hx_blk (npc := 34) (L' := [(0, .inr (.inl 86)), (1, .inl x1), (2, .inl x2), (3, .inl x3)]) (st' := [.inl (m 87 (gx_w (360 + x1)).toNat), .inl (m 87 (gx_w (1120 + x2)).toNat)]) (m' := m) [((14, .aload_n 0, 1, 0, 0, 0, 0), (0, 0, 0)), ((15, .getfield 7, 3, 10, 0, 5113, 0), (1, 86, 87)), ((18, .sipush 1120, 3, 0, 0, 0, 0), (0, 0, 0)), ((21, .iload_n 2, 1, 0, 0, 0, 0), (0, 0, 0)), ((22, .iadd, 1, 0, 0, 0, 0), (0, 0, 0)), ((23, .iaload, 1, 0, 0, 0, 0), (0, 87, 0)), ((24, .aload_n 0, 1, 0, 0, 0, 0), (0, 0, 0)), ((25, .getfield 7, 3, 10, 0, 5113, 0), (1, 86, 87)), ((28, .sipush 360, 3, 0, 0, 0, 0), (0, 0, 0)), ((31, .iload_n 1, 1, 0, 0, 0, 0), (0, 0, 0)), ((32, .iadd, 1, 0, 0, 0, 0), (0, 0, 0)), ((33, .iaload, 1, 0, 0, 0, 0), (0, 87, 0))] (by decide +kernel) rfl ?_
    refine hx_cmp .ge 39 (by decide +kernel) (fun c2 => ?_) (fun c2 => ?_)
    · have c2 : (m 87 (gx_w (360 + x1)).toNat) ≤ (m 87 (gx_w (1120 + x2)).toNat) := c2
      refine hx_blk (npc := 91) (L' := [(0, .inr (.inl 86)), (1, .inl x1), (2, .inl x2), (3, .inl x3)]) (st' := [.inl ((gx_u m 87 (gx_w (1120 + x2)).toNat (gx_w ((m 87 (gx_w (1120 + x2)).toNat) - (m 87 (gx_w (360 + x1)).toNat)))) 87 (gx_w (360 + x1)).toNat), .inl x3, .inr (.inl 86), .inl (gx_w (1120 + x3)), .inr (.inl 87)]) (m' := (gx_u m 87 (gx_w (1120 + x2)).toNat (gx_w ((m 87 (gx_w (1120 + x2)).toNat) - (m 87 (gx_w (360 + x1)).toNat))))) [((39, .aload_n 0, 1, 0, 0, 0, 0), (0, 0, 0)), ((40, .getfield 7, 3, 10, 0, 5113, 0), (1, 86, 87)), ((43, .sipush 1120, 3, 0, 0, 0, 0), (0, 0, 0)), ((46, .iload_n 2, 1, 0, 0, 0, 0), (0, 0, 0)), ((47, .iadd, 1, 0, 0, 0, 0), (0, 0, 0)), ((48, .aload_n 0, 1, 0, 0, 0, 0), (0, 0, 0)), ((49, .getfield 7, 3, 10, 0, 5113, 0), (1, 86, 87)), ((52, .sipush 1120, 3, 0, 0, 0, 0), (0, 0, 0)), ((55, .iload_n 2, 1, 0, 0, 0, 0), (0, 0, 0)), ((56, .iadd, 1, 0, 0, 0, 0), (0, 0, 0)), ((57, .iaload, 1, 0, 0, 0, 0), (0, 87, 0)), ((58, .aload_n 0, 1, 0, 0, 0, 0), (0, 0, 0)), ((59, .getfield 7, 3, 10, 0, 5113, 0), (1, 86, 87)), ((62, .sipush 360, 3, 0, 0, 0, 0), (0, 0, 0)), ((65, .iload_n 1, 1, 0, 0, 0, 0), (0, 0, 0)), ((66, .iadd, 1, 0, 0, 0, 0), (0, 0, 0)), ((67, .iaload, 1, 0, 0, 0, 0), (0, 87, 0)), ((68, .isub, 1, 0, 0, 0, 0), (0, 0, 0)), ((69, .iastore, 1, 0, 0, 0, 0), (0, 87, 0)), ((70, .aload_n 0, 1, 0, 0, 0, 0), (0, 0, 0)), ((71, .getfield 7, 3, 10, 0, 5113, 0), (1, 86, 87)), ((74, .sipush 1120, 3, 0, 0, 0, 0), (0, 0, 0)), ((77, .iload_n 3, 1, 0, 0, 0, 0), (0, 0, 0)), ((78, .iadd, 1, 0, 0, 0, 0), (0, 0, 0)), ((79, .aload_n 0, 1, 0, 0, 0, 0), (0, 0, 0)), ((80, .iload_n 3, 1, 0, 0, 0, 0), (0, 0, 0)), ((81, .aload_n 0, 1, 0, 0, 0, 0), (0, 0, 0)), ((82, .getfield 7, 3, 10, 0, 5113, 0), (1, 86, 87)), ((85, .sipush 360, 3, 0, 0, 0, 0), (0, 0, 0)), ((88, .iload_n 1, 1, 0, 0, 0, 0), (0, 0, 0)), ((89, .iadd, 1, 0, 0, 0, 0), (0, 0, 0)), ((90, .iaload, 1, 0, 0, 0, 0), (0, 87, 0))] (by decide +kernel) rfl ?_
      exact hx_call (E := (91, .invokevirtual 266, 3, 198, 0, 6164, 0)) (M' := yp_m198) [.inr (.inl 86), .inl x3, .inl ((gx_u m 87 (gx_w (1120 + x2)).toNat (gx_w ((m 87 (gx_w (1120 + x2)).toNat) - (m 87 (gx_w (360 + x1)).toNat)))) 87 (gx_w (360 + x1)).toNat)] [.inl (gx_w (1120 + x3)), .inr (.inl 87)] rfl (by decide +kernel) rfl ⟨rfl, rfl⟩ rfl rfl (hx_mono (h2 c1 c2) (fun r m' h' => hx_pick [0, 1] h'))
    · have c2 : (m 87 (gx_w (1120 + x2)).toNat) < (m 87 (gx_w (360 + x1)).toNat) := by have h : ¬ ((m 87 (gx_w (360 + x1)).toNat) ≤ (m 87 (gx_w (1120 + x2)).toNat)) := c2; omega
      refine hx_blk (npc := 38) (L' := [(0, .inr (.inl 86)), (1, .inl x1), (2, .inl x2), (3, .inl x3)]) (st' := [.inl 0]) (m' := m) [((37, .iconst 0, 1, 0, 0, 0, 0), (0, 0, 0))] (by decide +kernel) rfl ?_
      exact hx_reti (by decide +kernel) (h3 c1 c2)

/-- fetches from 94 on -/
theorem hr197_94 {xs : List Int32} {n : Nat} {Q : hQ} {m : gx_M} {x1 s1 s2 : Int}
    (h1 : Q (some (.inl 1)) (gx_u (gx_u (gx_u (gx_u m 87 (s1).toNat s2) 87 (gx_w (280 + x1)).toNat (-2)) 87 (gx_w (320 + x1)).toNat 0) 87 (gx_w (360 + x1)).toNat 0)) : hxn xs (n + 1) yp_m197 94 [(0, .inr (.inl 86)), (1, .inl x1)] [.inl s2, .inl s1, .inr (.inl 87)] m Q := by
  refine hx_blks (npc := 130) (L' := [(0, .inr (.inl 86)), (1, .inl x1)]) (st' := [.inl 1]) (m' := (gx_u (gx_u (gx_u (gx_u m 87 (s1).toNat s2) 87 (gx_w (280 + x1)).toNat (-2)) 87 (gx_w (320 + x1)).toNat 0) 87 (gx_w (360 + x1)).toNat 0)) ((94, .iastore, 1, 0, 0, 0, 0), (0, 87, 0)) [((95, .aload_n 0, 1, 0, 0, 0, 0), (0, 0, 0)), ((96, .getfield 7, 3, 10, 0, 5113, 0), (1, 86, 87)), ((99, .sipush 280, 3, 0, 0, 0, 0), (0, 0, 0)), ((102, .iload_n 1, 1, 0, 0, 0, 0), (0, 0, 0)), ((103, .iadd, 1, 0, 0, 0, 0), (0, 0, 0)), ((104, .bipush (-2), 2, 0, 0, 0, 0), (0, 0, 0)), ((106, .iastore, 1, 0, 0, 0, 0), (0, 87, 0)), ((107, .aload_n 0, 1, 0, 0, 0, 0), (0, 0, 0)), ((108, .getfield 7, 3, 10, 0, 5113, 0), (1, 86, 87)), ((111, .sipush 320, 3, 0, 0, 0, 0), (0, 0, 0)), ((114, .iload_n 1, 1, 0, 0, 0, 0), (0, 0, 0)), ((115, .iadd, 1, 0, 0, 0, 0), (0, 0, 0)), ((116, .iconst 0, 1, 0, 0, 0, 0), (0, 0, 0)), ((117, .iastore, 1, 0, 0, 0, 0), (0, 87, 0)), ((118, .aload_n 0, 1, 0, 0, 0, 0), (0, 0, 0)), ((119, .getfield 7, 3, 10, 0, 5113, 0), (1, 86, 87)), ((122, .sipush 360, 3, 0, 0, 0, 0), (0, 0, 0)), ((125, .iload_n 1, 1, 0, 0, 0, 0), (0, 0, 0)), ((126, .iadd, 1, 0, 0, 0, 0), (0, 0, 0)), ((127, .iconst 0, 1, 0, 0, 0, 0), (0, 0, 0)), ((128, .iastore, 1, 0, 0, 0, 0), (0, 87, 0)), ((129, .iconst 1, 1, 0, 0, 0, 0), (0, 0, 0))] (by decide +kernel) rfl ?_
  exact hx_reti (by decide +kernel) h1

/-- goesTo from 0 on -/
theorem hr210_0 {xs : List Int32} {n : Nat} {Q : hQ} {m : gx_M} {x1 x2 : Int}
    (h1 : (((gx_u (gx_u (gx_u (gx_u m 87 (gx_w (240 + x1)).toNat x2) 87 (gx_w (280 + x1)).toNat (-2)) 87 (gx_w (320 + x1)).toNat 0) 87 (gx_w (360 + x1)).toNat 0) 87 (gx_w (400 + x1)).toNat) ≠ 16) → Q none (gx_u (gx_u (gx_u (gx_u (gx_u (gx_u m 87 (gx_w (240 + x1)).toNat x2) 87 (gx_w (280 + x1)).toNat (-2)) 87 (gx_w (320 + x1)).toNat 0) 87 (gx_w (360 + x1)).toNat 0) 87 (gx_w ((gx_w (480 + (gx_w (16 * x1)))) + ((gx_u (gx_u (gx_u (gx_u m 87 (gx_w (240 + x1)).toNat x2) 87 (gx_w (280 + x1)).toNat (-2)) 87 (gx_w (320 + x1)).toNat 0) 87 (gx_w (360 + x1)).toNat 0) 87 (gx_w (400 + x1)).toNat))).toNat x2) 87 (gx_w (400 + x1)).toNat (gx_w (((gx_u (gx_u (gx_u (gx_u (gx_u m 87 (gx_w (240 + x1)).toNat x2) 87 (gx_w (280 + x1)).toNat (-2)) 87 (gx_w (320 + x1)).toNat 0) 87 (gx_w (360 + x1)).toNat 0) 87 (gx_w ((gx_w (480 + (gx_w (16 * x1)))) + ((gx_u (gx_u (gx_u (gx_u m 87 (gx_w (240 + x1)).toNat x2) 87 (gx_w (280 + x1)).toNat (-2)) 87 (gx_w (320 + x1)).toNat 0) 87 (gx_w (360 + x1)).toNat 0) 87 (gx_w (400 + x1)).toNat))).toNat x2) 87 (gx_w (400 + x1)).toNat) + 1))))
    (h2 : (((gx_u (gx_u (gx_u (gx_u m 87 (gx_w (240 + x1)).toNat x2) 87 (gx_w (280 + x1)).toNat (-2)) 87 (gx_w (320 + x1)).toNat 0) 87 (gx_w (360 + x1)).toNat 0) 87 (gx_w (400 + x1)).toNat) = 16) → Q none (gx_u (gx_u (gx_u (gx_u m 87 (gx_w (240 + x1)).toNat x2) 87 (gx_w (280 + x1)).toNat (-2)) 87 (gx_w (320 + x1)).toNat 0) 87 (gx_w (360 + x1)).toNat 0)) : hxn xs (n + 1) yp_m210 0 [(0, .inr (.inl 86)), (1, .inl x1), (2, .inl x2)] [] m Q := by
  refine hx_blks (npc := 57) (L' := [(0, .inr (.inl 86)), (1, .inl x1), (2, .inl x2)]) (st' := [.inl 16, .inl ((gx_u (gx_u (gx_u (gx_u m 87 (gx_w (240 + x1)).toNat x2) 87 (gx_w (280 + x1)).toNat (-2)) 87 (gx_w (320 + x1)).toNat 0) 87 (gx_w (360 + x1)).toNat 0) 87 (gx_w (400 + x1)).toNat)]) (m' := (gx_u (gx_u (gx_u (gx_u m 87 (gx_w (240 + x1)).toNat x2) 87 (gx_w (280 + x1)).toNat (-2)) 87 (gx_w (320 + x1)).toNat 0) 87 (gx_w (360 + x1)).toNat 0)) ((0, .aload_n 0, 1, 0, 0, 0, 0), (0, 0, 0)) [((1, .getfield 7, 3, 10, 0, 5113, 0), (1, 86, 87)), ((4, .sipush 240, 3, 0, 0, 0, 0), (0, 0, 0)), ((7, .iload_n 1, 1, 0, 0, 0, 0), (0, 0, 0)), ((8, .iadd, 1, 0, 0, 0, 0), (0, 0, 0)), ((9, .iload_n 2, 1, 0, 0, 0, 0), (0, 0, 0)), ((10, .iastore, 1, 0, 0, 0, 0), (0, 87, 0)), ((11, .aload_n 0, 1, 0, 0, 0, 0), (0, 0, 0)), ((12, .getfield 7, 3, 10, 0, 5113, 0), (1, 86, 87)), ((15, .sipush 280, 3, 0, 0, 0, 0), (0, 0, 0)), ((18, .iload_n 1, 1, 0, 0, 0, 0), (0, 0, 0)), ((19, .iadd, 1, 0, 0, 0, 0), (0, 0, 0)), ((20, .bipush (-2), 2, 0, 0, 0, 0), (0, 0, 0)), ((22, .iastore, 1, 0, 0, 0, 0), (0, 87, 0)), ((23, .aload_n 0, 1, 0, 0, 0, 0), (0, 0, 0)), ((24, .getfield 7, 3, 10, 0, 5113, 0), (1, 86, 87)), ((27, .sipush 320, 3, 0, 0, 0, 0), (0, 0, 0)), ((30, .iload_n 1, 1, 0, 0, 0, 0), (0, 0, 0)), ((31, .iadd, 1, 0, 0, 0, 0), (0, 0, 0)), ((32, .iconst 0, 1, 0, 0, 0, 0), (0, 0, 0)), ((33, .iastore, 1, 0, 0, 0, 0), (0, 87, 0)), ((34, .aload_n 0, 1, 0, 0, 0, 0), (0, 0, 0)), ((35, .getfield 7, 3, 10, 0, 5113, 0), (1, 86, 87)), ((38, .sipush 360, 3, 0, 0, 0, 0), (0, 0, 0)), ((41, .iload_n 1, 1, 0, 0, 0, 0), (0, 0, 0)), ((42, .iadd, 1, 0, 0, 0, 0), (0, 0, 0)), ((43, .iconst 0, 1, 0, 0, 0, 0), (0, 0, 0)), ((44, .iastore, 1, 0, 0, 0, 0), (0, 87, 0)), ((45, .aload_n 0, 1, 0, 0, 0, 0), (0, 0, 0)), ((46, .getfield 7, 3, 10, 0, 5113, 0), (1, 86, 87)), ((49, .sipush 400, 3, 0, 0, 0, 0), (0, 0, 0)), ((52, .iload_n 1, 1, 0, 0, 0, 0), (0, 0, 0)), ((53, .iadd, 1, 0, 0, 0, 0), (0, 0, 0)), ((54, .iaload, 1, 0, 0, 0, 0), (0, 87, 0)), ((55, .bipush 16, 2, 0, 0, 0, 0), (0, 0, 0))] (by decide +kernel) rfl ?_
  refine hx_cmp .ne 61 (by decide +kernel) (fun c1 => ?_) (fun c1 => ?_)
  · have c1 : ((gx_u (gx_u (gx_u (gx_u m 87 (gx_w (240 + x1)).toNat x2) 87 (gx_w (280 + x1)).toNat (-2)) 87 (gx_w (320 + x1)).toNat 0) 87 (gx_w (360 + x1)).toNat 0) 87 (gx_w (400 + x1)).toNat) ≠ 16 := c1
    refine hx_blk (npc := 108) (L' := [(0, .inr (.inl 86)), (1, .inl x1), (2, .inl x2)]) (st' := []) (m' := (gx_u (gx_u (gx_u (gx_u (gx_u (gx_u m 87 (gx_w (240 + x1)).toNat x2) 87 (gx_w (280 + x1)).toNat (-2)) 87 (gx_w (320 + x1)).toNat 0) 87 (gx_w (360 + x1)).toNat 0) 87 (gx_w ((gx_w (480 + (gx_w (16 * x1)))) + ((gx_u (gx_u (gx_u (gx_u m 87 (gx_w (240 + x1)).toNat x2) 87 (gx_w (280 + x1)).toNat (-2)) 87 (gx_w (320 + x1)).toNat 0) 87 (gx_w (360 + x1)).toNat 0) 87 (gx_w (400 + x1)).toNat))).toNat x2) 87 (gx_w (400 + x1)).toNat (gx_w (((gx_u (gx_u (gx_u (gx_u (gx_u m 87 (gx_w (240 + x1)).toNat x2) 87 (gx_w (280 + x1)).toNat (-2)) 87 (gx_w (320 + x1)).toNat 0) 87 (gx_w (360 + x1)).toNat 0) 87 (gx_w ((gx_w (480 + (gx_w (16 * x1)))) + ((gx_u (gx_u (gx_u (gx_u m 87 (gx_w (240 + x1)).toNat x2) 87 (gx_w (280 + x1)).toNat (-2)) 87 (gx_w (320 + x1)).toNat 0) 87 (gx_w (360 + x1)).toNat 0) 87 (gx_w (400 + x1)).toNat))).toNat x2) 87 (gx_w (400 + x1)).toNat) + 1)))) [((61, .aload_n 0, 1, 0, 0, 0, 0), (0, 0, 0)), ((62, .getfield 7, 3, 10, 0, 5113, 0), (1, 86, 87)), ((65, .sipush 480, 3, 0, 0, 0, 0), (0, 0, 0)), ((68, .bipush 16, 2, 0, 0, 0, 0), (0, 0, 0)), ((70, .iload_n 1, 1, 0, 0, 0, 0), (0, 0, 0)), ((71, .imul, 1, 0, 0, 0, 0), (0, 0, 0)), ((72, .iadd, 1, 0, 0, 0, 0), (0, 0, 0)), ((73, .aload_n 0, 1, 0, 0, 0, 0), (0, 0, 0)), ((74, .getfield 7, 3, 10, 0, 5113, 0), (1, 86, 87)), ((77, .sipush 400, 3, 0, 0, 0, 0), (0, 0, 0)), ((80, .iload_n 1, 1, 0, 0, 0, 0), (0, 0, 0)), ((81, .iadd, 1, 0, 0, 0, 0), (0, 0, 0)), ((82, .iaload, 1, 0, 0, 0, 0), (0, 87, 0)), ((83, .iadd, 1, 0, 0, 0, 0), (0, 0, 0)), ((84, .iload_n 2, 1, 0, 0, 0, 0), (0, 0, 0)), ((85, .iastore, 1, 0, 0, 0, 0), (0, 87, 0)), ((86, .aload_n 0, 1, 0, 0, 0, 0), (0, 0, 0)), ((87, .getfield 7, 3, 10, 0, 5113, 0), (1, 86, 87)), ((90, .sipush 400, 3, 0, 0, 0, 0), (0, 0, 0)), ((93, .iload_n 1, 1, 0, 0, 0, 0), (0, 0, 0)), ((94, .iadd, 1, 0, 0, 0, 0), (0, 0, 0)), ((95, .aload_n 0, 1, 0, 0, 0, 0), (0, 0, 0)), ((96, .getfield 7, 3, 10, 0, 5113, 0), (1, 86, 87)), ((99, .sipush 400, 3, 0, 0, 0, 0), (0, 0, 0)), ((102, .iload_n 1, 1, 0, 0, 0, 0), (0, 0, 0)), ((103, .iadd, 1, 0, 0, 0, 0), (0, 0, 0)), ((104, .iaload, 1, 0, 0, 0, 0), (0, 87, 0)), ((105, .iconst 1, 1, 0, 0, 0, 0), (0, 0, 0)), ((106, .iadd, 1, 0, 0, 0, 0), (0, 0, 0)), ((107, .iastore, 1, 0, 0, 0, 0), (0, 87, 0))] (by decide +kernel) rfl ?_
    exact hx_ret0 (by decide +kernel) (h1 c1)
  · have c1 : ((gx_u (gx_u (gx_u (gx_u m 87 (gx_w (240 + x1)).toNat x2) 87 (gx_w (280 + x1)).toNat (-2)) 87 (gx_w (320 + x1)).toNat 0) 87 (gx_w (360 + x1)).toNat 0) 87 (gx_w (400 + x1)).toNat) = 16 := by have h : ¬ (((gx_u (gx_u (gx_u (gx_u m 87 (gx_w (240 + x1)).toNat x2) 87 (gx_w (280 + x1)).toNat (-2)) 87 (gx_w (320 + x1)).toNat 0) 87 (gx_w (360 + x1)).toNat 0) 87 (gx_w (400 + x1)).toNat) ≠ 16) := c1; omega
    exact hx_ret0 (by decide +kernel) (h2 c1)

/-- does from 0 on -/
theorem hr195_0 {xs : List Int32} {n : Nat} {Q : hQ} {m : gx_M} {x1 : Int}
    (h1 : (aYr (m 87) (m 104 (x1).toNat)) → (aPers (m 87) (m 105 (x1).toNat)) → (aPers (m 87) (m 107 (x1).toNat)) → ((m 87 (gx_w (240 + (m 104 (x1).toNat))).toNat) = (m 105 (x1).toNat)) → ((m 106 (x1).toNat) ≠ 91) → hxn xs n yp_m200 0 [(0, .inr (.inl 86)), (1, .inl (m 104 (x1).toNat))] [] m (fun r m' => hxn xs n yp_m195 96 [(0, .inr (.inl 86)), (1, .inl x1), (2, .inl (m 104 (x1).toNat)), (3, .inl (m 105 (x1).toNat)), (4, .inl (m 107 (x1).toNat)), (5, .inl (m 108 (x1).toNat))] (hrs r ++ []) m' Q))
    (h2 : (aYr (m 87) (m 104 (x1).toNat)) → (aPers (m 87) (m 105 (x1).toNat)) → (aPers (m 87) (m 107 (x1).toNat)) → ((m 87 (gx_w (240 + (m 104 (x1).toNat))).toNat) = (m 105 (x1).toNat)) → ((m 106 (x1).toNat) = 91) → hxn xs n yp_m197 0 [(0, .inr (.inl 86)), (1, .inl (m 104 (x1).toNat)), (2, .inl (m 105 (x1).toNat)), (3, .inl (m 107 (x1).toNat))] [] m (fun r m' => hxn xs n yp_m195 90 [] (hrs r ++ []) m' Q))
    (h3 : (aYr (m 87) (m 104 (x1).toNat)) → (aPers (m 87) (m 105 (x1).toNat)) → (aPers (m 87) (m 107 (x1).toNat)) → ((m 87 (gx_w (240 + (m 104 (x1).toNat))).toNat) ≠ (m 105 (x1).toNat)) → Q (some (.inl 0)) m)
    (h4 : (aYr (m 87) (m 104 (x1).toNat)) → (aPers (m 87) (m 105 (x1).toNat)) → (¬ (aPers (m 87) (m 107 (x1).toNat))) → Q (some (.inl 0)) m)
    (h5 : (aYr (m 87) (m 104 (x1).toNat)) → (¬ (aPers (m 87) (m 105 (x1).toNat))) → Q (some (.inl 0)) m)
    (h6 : (¬ (aYr (m 87) (m 104 (x1).toNat))) → Q (some (.inl 0)) m) : hxn xs (n + 1) yp_m195 0 [(0, .inr (.inl 86)), (1, .inl x1)] [] m Q := by
  refine hx_blks (npc := 32) (L' := [(0, .inr (.inl 86)), (1, .inl x1), (2, .inl (m 104 (x1).toNat)), (3, .inl (m 105 (x1).toNat)), (4, .inl (m 107 (x1).toNat)), (5, .inl (m 108 (x1).toNat))]) (st' := [.inl (m 104 (x1).toNat), .inr (.inl 86)]) (m' := m) ((0, .aload_n 0, 1, 0, 0, 0, 0), (0, 0, 0)) [((1, .getfield 62, 3, 10, 27, 5140, 0), (1, 86, 104)), ((4, .iload_n 1, 1, 0, 0, 0, 0), (0, 0, 0)), ((5, .iaload, 1, 0, 0, 0, 0), (0, 104, 0)), ((6, .istore_n 2, 1, 0, 0, 0, 0), (0, 0, 0)), ((7, .aload_n 0, 1, 0, 0, 0, 0), (0, 0, 0)), ((8, .getfield 65, 3, 10, 28, 5141, 0), (1, 86, 105)), ((11, .iload_n 1, 1, 0, 0, 0, 0), (0, 0, 0)), ((12, .iaload, 1, 0, 0, 0, 0), (0, 105, 0)), ((13, .istore_n 3, 1, 0, 0, 0, 0), (0, 0, 0)), ((14, .aload_n 0, 1, 0, 0, 0, 0), (0, 0, 0)), ((15, .getfield 71, 3, 10, 30, 5143, 0), (1, 86, 107)), ((18, .iload_n 1, 1, 0, 0, 0, 0), (0, 0, 0)), ((19, .iaload, 1, 0, 0, 0, 0), (0, 107, 0)), ((20, .istore 4, 2, 0, 0, 0, 0), (0, 0, 0)), ((22, .aload_n 0, 1, 0, 0, 0, 0), (0, 0, 0)), ((23, .getfield 74, 3, 10, 31, 5144, 0), (1, 86, 108)), ((26, .iload_n 1, 1, 0, 0, 0, 0), (0, 0, 0)), ((27, .iaload, 1, 0, 0, 0, 0), (0, 108, 0)), ((28, .istore 5, 2, 0, 0, 0, 0), (0, 0, 0)), ((30, .aload_n 0, 1, 0, 0, 0, 0), (0, 0, 0)), ((31, .iload_n 2, 1, 0, 0, 0, 0), (0, 0, 0))] (by decide +kernel) rfl ?_
  refine hx_call (E := (32, .invokevirtual 269, 3, 196, 0, 6156, 0)) (M' := yp_m196) [.inr (.inl 86), .inl (m 104 (x1).toNat)] [] rfl (by decide +kernel) rfl ⟨rfl, rfl⟩ rfl rfl (hs196 (fun c1 => ?_) (fun c1 => ?_))
  · have c1 : aYr (m 87) (m 104 (x1).toNat) := c1
    show hxn xs n yp_m195 35 [(0, .inr (.inl 86)), (1, .inl x1), (2, .inl (m 104 (x1).toNat)), (3, .inl (m 105 (x1).toNat)), (4, .inl (m 107 (x1).toNat)), (5, .inl (m 108 (x1).toNat))] [.inl 1] m Q
    refine hx_if .eq 69 (by decide +kernel) (fun c2 => ?_) (fun c2 => ?_)
    · have c2 : (1 : Int) = 0 := c2
      exfalso; omega
    · have c2 : (1 : Int) ≠ 0 := c2
      refine hx_blk (npc := 40) (L' := [(0, .inr (.inl 86)), (1, .inl x1), (2, .inl (m 104 (x1).toNat)), (3, .inl (m 105 (x1).toNat)), (4, .inl (m 107 (x1).toNat)), (5, .inl (m 108 (x1).toNat))]) (st' := [.inl (m 105 (x1).toNat), .inr (.inl 86)]) (m' := m) [((38, .aload_n 0, 1, 0, 0, 0, 0), (0, 0, 0)), ((39, .iload_n 3, 1, 0, 0, 0, 0), (0, 0, 0))] (by decide +kernel) rfl ?_
      refine hx_call (E := (40, .invokevirtual 113, 3, 164, 0, 6031, 0)) (M' := yp_m164) [.inr (.inl 86), .inl (m 105 (x1).toNat)] [] rfl (by decide +kernel) rfl ⟨rfl, rfl⟩ rfl rfl (hs164 (fun c2 => ?_) (fun c2 => ?_))
      · have c2 : aPers (m 87) (m 105 (x1).toNat) := c2
        show hxn xs n yp_m195 43 [(0, .inr (.inl 86)), (1, .inl x1), (2, .inl (m 104 (x1).toNat)), (3, .inl (m 105 (x1).toNat)), (4, .inl (m 107 (x1).toNat)), (5, .inl (m 108 (x1).toNat))] [.inl 1] m Q
        refine hx_if .eq 69 (by decide +kernel) (fun c3 => ?_) (fun c3 => ?_)
        · have c3 : (1 : Int) = 0 := c3
          exfalso; omega
        · have c3 : (1 : Int) ≠ 0 := c3
          refine hx_blk (npc := 49) (L' := [(0, .inr (.inl 86)), (1, .inl x1), (2, .inl (m 104 (x1).toNat)), (3, .inl (m 105 (x1).toNat)), (4, .inl (m 107 (x1).toNat)), (5, .inl (m 108 (x1).toNat))]) (st' := [.inl (m 107 (x1).toNat), .inr (.inl 86)]) (m' := m) [((46, .aload_n 0, 1, 0, 0, 0, 0), (0, 0, 0)), ((47, .iload 4, 2, 0, 0, 0, 0), (0, 0, 0))] (by decide +kernel) rfl ?_
          refine hx_call (E := (49, .invokevirtual 113, 3, 164, 0, 6031, 0)) (M' := yp_m164) [.inr (.inl 86), .inl (m 107 (x1).toNat)] [] rfl (by decide +kernel) rfl ⟨rfl, rfl⟩ rfl rfl (hs164 (fun c3 => ?_) (fun c3 => ?_))
          · have c3 : aPers (m 87) (m 107 (x1).toNat) := c3
            show hxn xs n yp_m195 52 [(0, .inr (.inl 86)), (1, .inl x1), (2, .inl (m 104 (x1).toNat)), (3, .inl (m 105 (x1).toNat)), (4, .inl (m 107 (x1).toNat)), (5, .inl (m 108 (x1).toNat))] [.inl 1] m Q
            refine hx_if .eq 69 (by decide +kernel) (fun c4 => ?_) (fun c4 => ?_)
            · have c4 : (1 : Int) = 0 := c4
              exfalso; omega
            · have c4 : (1 : Int) ≠ 0 := c4
              refine hx_blk (npc := 66) (L' := [(0, .inr (.inl 86)), (1, .inl x1), (2, .inl (m 104 (x1).toNat)), (3, .inl (m 105 (x1).toNat)), (4, .inl (m 107 (x1).toNat)), (5, .inl (m 108 (x1).toNat))]) (st' := [.inl (m 105 (x1).toNat), .inl (m 87 (gx_w (240 + (m 104 (x1).toNat))).toNat)]) (m' := m) [((55, .aload_n 0, 1, 0, 0, 0, 0), (0, 0, 0)), ((56, .getfield 7, 3, 10, 0, 5113, 0), (1, 86, 87)), ((59, .sipush 240, 3, 0, 0, 0, 0), (0, 0, 0)), ((62, .iload_n 2, 1, 0, 0, 0, 0), (0, 0, 0)), ((63, .iadd, 1, 0, 0, 0, 0), (0, 0, 0)), ((64, .iaload, 1, 0, 0, 0, 0), (0, 87, 0)), ((65, .iload_n 3, 1, 0, 0, 0, 0), (0, 0, 0))] (by decide +kernel) rfl ?_
              refine hx_cmp .eq 71 (by decide +kernel) (fun c4 => ?_) (fun c4 => ?_)
              · have c4 : (m 87 (gx_w (240 + (m 104 (x1).toNat))).toNat) = (m 105 (x1).toNat) := c4
                refine hx_blk (npc := 79) (L' := [(0, .inr (.inl 86)), (1, .inl x1), (2, .inl (m 104 (x1).toNat)), (3, .inl (m 105 (x1).toNat)), (4, .inl (m 107 (x1).toNat)), (5, .inl (m 108 (x1).toNat))]) (st' := [.inl 91, .inl (m 106 (x1).toNat)]) (m' := m) [((71, .aload_n 0, 1, 0, 0, 0, 0), (0, 0, 0)), ((72, .getfield 68, 3, 10, 29, 5142, 0), (1, 86, 106)), ((75, .iload_n 1, 1, 0, 0, 0, 0), (0, 0, 0)), ((76, .iaload, 1, 0, 0, 0, 0), (0, 106, 0)), ((77, .bipush 91, 2, 0, 0, 0, 0), (0, 0, 0))] (by decide +kernel) rfl ?_
                refine hx_cmp .ne 91 (by decide +kernel) (fun c5 => ?_) (fun c5 => ?_)
                · have c5 : (m 106 (x1).toNat) ≠ 91 := c5
                  refine hx_blk (npc := 93) (L' := [(0, .inr (.inl 86)), (1, .inl x1), (2, .inl (m 104 (x1).toNat)), (3, .inl (m 105 (x1).toNat)), (4, .inl (m 107 (x1).toNat)), (5, .inl (m 108 (x1).toNat))]) (st' := [.inl (m 104 (x1).toNat), .inr (.inl 86)]) (m' := m) [((91, .aload_n 0, 1, 0, 0, 0, 0), (0, 0, 0)), ((92, .iload_n 2, 1, 0, 0, 0, 0), (0, 0, 0))] (by decide +kernel) rfl ?_
                  exact hx_call (E := (93, .invokevirtual 275, 3, 200, 0, 6171, 0)) (M' := yp_m200) [.inr (.inl 86), .inl (m 104 (x1).toNat)] [] rfl (by decide +kernel) rfl ⟨rfl, rfl⟩ rfl rfl (hx_mono (h1 c1 c2 c3 c4 c5) (fun r m' h' => hx_pick [0, 1, 2, 3, 4, 5] h'))
                · have c5 : (m 106 (x1).toNat) = 91 := by have h : ¬ ((m 106 (x1).toNat) ≠ 91) := c5; omega
                  refine hx_blk (npc := 87) (L' := [(0, .inr (.inl 86)), (1, .inl x1), (2, .inl (m 104 (x1).toNat)), (3, .inl (m 105 (x1).toNat)), (4, .inl (m 107 (x1).toNat)), (5, .inl (m 108 (x1).toNat))]) (st' := [.inl (m 107 (x1).toNat), .inl (m 105 (x1).toNat), .inl (m 104 (x1).toNat), .inr (.inl 86)]) (m' := m) [((82, .aload_n 0, 1, 0, 0, 0, 0), (0, 0, 0)), ((83, .iload_n 2, 1, 0, 0, 0, 0), (0, 0, 0)), ((84, .iload_n 3, 1, 0, 0, 0, 0), (0, 0, 0)), ((85, .iload 4, 2, 0, 0, 0, 0), (0, 0, 0))] (by decide +kernel) rfl ?_
                  exact hx_call (E := (87, .invokevirtual 272, 3, 197, 0, 6160, 0)) (M' := yp_m197) [.inr (.inl 86), .inl (m 104 (x1).toNat), .inl (m 105 (x1).toNat), .inl (m 107 (x1).toNat)] [] rfl (by decide +kernel) rfl ⟨rfl, rfl⟩ rfl rfl (hx_mono (h2 c1 c2 c3 c4 c5) (fun r m' h' => hx_pick [] h'))
              · have c4 : (m 87 (gx_w (240 + (m 104 (x1).toNat))).toNat) ≠ (m 105 (x1).toNat) := c4
                refine hx_blk (npc := 70) (L' := [(0, .inr (.inl 86)), (1, .inl x1), (2, .inl (m 104 (x1).toNat)), (3, .inl (m 105 (x1).toNat)), (4, .inl (m 107 (x1).toNat)), (5, .inl (m 108 (x1).toNat))]) (st' := [.inl 0]) (m' := m) [((69, .iconst 0, 1, 0, 0, 0, 0), (0, 0, 0))] (by decide +kernel) rfl ?_
                exact hx_reti (by decide +kernel) (h3 c1 c2 c3 c4)
          · have c3 : ¬ (aPers (m 87) (m 107 (x1).toNat)) := c3
            show hxn xs n yp_m195 52 [(0, .inr (.inl 86)), (1, .inl x1), (2, .inl (m 104 (x1).toNat)), (3, .inl (m 105 (x1).toNat)), (4, .inl (m 107 (x1).toNat)), (5, .inl (m 108 (x1).toNat))] [.inl 0] m Q
            refine hx_if .eq 69 (by decide +kernel) (fun c4 => ?_) (fun c4 => ?_)
            · have c4 : (0 : Int) = 0 := c4
              refine hx_blk (npc := 70) (L' := [(0, .inr (.inl 86)), (1, .inl x1), (2, .inl (m 104 (x1).toNat)), (3, .inl (m 105 (x1).toNat)), (4, .inl (m 107 (x1).toNat)), (5, .inl (m 108 (x1).toNat))]) (st' := [.inl 0]) (m' := m) [((69, .iconst 0, 1, 0, 0, 0, 0), (0, 0, 0))] (by decide +kernel) rfl ?_
              exact hx_reti (by decide +kernel) (h4 c1 c2 c3)
            · have c4 : (0 : Int) ≠ 0 := c4
              exfalso; omega
      · have c2 : ¬ (aPers (m 87) (m 105 (x1).toNat)) := c2
        show hxn xs n yp_m195 43 [(0, .inr (.inl 86)), (1, .inl x1), (2, .inl (m 104 (x1).toNat)), (3, .inl (m 105 (x1).toNat)), (4, .inl (m 107 (x1).toNat)), (5, .inl (m 108 (x1).toNat))] [.inl 0] m Q
        refine hx_if .eq 69 (by decide +kernel) (fun c3 => ?_) (fun c3 => ?_)
        · have c3 : (0 : Int) = 0 := c3
          refine hx_blk (npc := 70) (L' := [(0, .inr (.inl 86)), (1, .inl x1), (2, .inl (m 104 (x1).toNat)), (3, .inl (m 105 (x1).toNat)), (4, .inl (m 107 (x1).toNat)), (5, .inl (m 108 (x1).toNat))]) (st' := [.inl 0]) (m' := m) [((69, .iconst 0, 1, 0, 0, 0, 0), (0, 0, 0))] (by decide +kernel) rfl ?_
          exact hx_reti (by decide +kernel) (h5 c1 c2)
        · have c3 : (0 : Int) ≠ 0 := c3
          exfalso; omega
  · have c1 : ¬ (aYr (m 87) (m 104 (x1).toNat)) := c1
    show hxn xs n yp_m195 35 [(0, .inr (.inl 86)), (1, .inl x1), (2, .inl (m 104 (x1).toNat)), (3, .inl (m 105 (x1).toNat)), (4, .inl (m 107 (x1).toNat)), (5, .inl (m 108 (x1).toNat))] [.inl 0] m Q
    refine hx_if .eq 69 (by decide +kernel) (fun c2 => ?_) (fun c2 => ?_)
    · have c2 : (0 : Int) = 0 := c2
      refine hx_blk (npc := 70) (L' := [(0, .inr (.inl 86)), (1, .inl x1), (2, .inl (m 104 (x1).toNat)), (3, .inl (m 105 (x1).toNat)), (4, .inl (m 107 (x1).toNat)), (5, .inl (m 108 (x1).toNat))]) (st' := [.inl 0]) (m' := m) [((69, .iconst 0, 1, 0, 0, 0, 0), (0, 0, 0))] (by decide +kernel) rfl ?_
      exact hx_reti (by decide +kernel) (h6 c1)
    · have c2 : (0 : Int) ≠ 0 := c2
      exfalso; omega

/-- does from 90 on -/
theorem hr195_90 {xs : List Int32} {n : Nat} {Q : hQ} {m : gx_M} {s0 : Int}
    (h1 : Q (some (.inl s0)) m) : hxn xs (n + 1) yp_m195 90 [] [.inl s0] m Q := by
  exact hx_reti (by decide +kernel) h1

/-- does from 96 on -/
theorem hr195_96 {xs : List Int32} {n : Nat} {Q : hQ} {m : gx_M} {x1 x2 x3 x4 x5 s0 : Int}
    (h1 : (s0 ≠ 0) → Q (some (.inl 0)) m)
    (h2 : (s0 = 0) → hxn xs n yp_m201 0 [(0, .inr (.inl 86)), (1, .inl x2), (2, .inl x4), (3, .inl x5)] [] m (fun r m' => hxn xs n yp_m195 108 [(0, .inr (.inl 86)), (1, .inl x1), (2, .inl x2), (3, .inl x3), (4, .inl x4), (5, .inl x5)] (hrs r ++ []) m' Q)) : hxn xs (n + 1) yp_m195 96 [(0, .inr (.inl 86)), (1, .inl x1), (2, .inl x2), (3, .inl x3), (4, .inl x4), (5, .inl x5)] [.inl s0] m Q := by
  refine hx_ifs .ne 127 (by decide +kernel) (fun c1 => ?_) (fun c1 => ?_)
  · have c1 : s0 ≠ 0 := c1
    refine hx_blk (npc := 128) (L' := [(0, .inr (.inl 86)), (1, .inl x1), (2, .inl x2), (3, .inl x3), (4, .inl x4), (5, .inl x5)]) (st' := [.inl 0]) (m' := m) [((127, .iconst 0, 1, 0, 0, 0, 0), (0, 0, 0))] (by decide +kernel) rfl ?_
    exact hx_reti (by decide +kernel) (h1 c1)
  · have c1 : s0 = 0 := by have h : ¬ (s0 ≠ 0) := c1; omega
    refine hx_blk (npc := 105) (L' := [(0, .inr (.inl 86)), (1, .inl x1), (2, .inl x2), (3, .inl x3), (4, .inl x4), (5, .inl x5)]) (st' := [.inl x5, .inl x4, .inl x2, .inr (.inl 86)]) (m' := m) [((99, .aload_n 0, 1, 0, 0, 0, 0), (0, 0, 0)), ((100, .iload_n 2, 1, 0, 0, 0, 0), (0, 0, 0)), ((101, .iload 4, 2, 0, 0, 0, 0), (0, 0, 0)), ((103, .iload 5, 2, 0, 0, 0, 0), (0, 0, 0))] (by decide +kernel) rfl ?_
    exact hx_call (E := (105, .invokevirtual 278, 3, 201, 0, 6175, 0)) (M' := yp_m201) [.inr (.inl 86), .inl x2, .inl x4, .inl x5] [] rfl (by decide +kernel) rfl ⟨rfl, rfl⟩ rfl rfl (hx_mono (h2 c1) (fun r m' h' => hx_pick [0, 1, 2, 3, 4, 5] h'))

/-- does from 108 on -/
theorem hr195_108 {xs : List Int32} {n : Nat} {Q : hQ} {m : gx_M} {x1 x2 x3 x4 x5 s0 : Int}
    (h1 : (s0 ≠ 0) → Q (some (.inl 0)) m)
    (h2 : (s0 = 0) → (x5 ≤ (m 87 (gx_w (1120 + x4)).toNat)) → hxn xs n yp_m198 0 [(0, .inr (.inl 86)), (1, .inl x3), (2, .inl x5)] [] (gx_u m 87 (gx_w (1120 + x4)).toNat (gx_w ((m 87 (gx_w (1120 + x4)).toNat) - x5))) (fun r m' => hxn xs n yp_m195 170 [(0, .inr (.inl 86)), (1, .inl x1), (2, .inl x2), (4, .inl x4), (5, .inl x5)] (hrs r ++ [.inl (gx_w (1120 + x3)), .inr (.inl 87)]) m' Q))
    (h3 : (s0 = 0) → ((m 87 (gx_w (1120 + x4)).toNat) < x5) → Q (some (.inl 0)) m) : hxn xs (n + 1) yp_m195 108 [(0, .inr (.inl 86)), (1, .inl x1), (2, .inl x2), (3, .inl x3), (4, .inl x4), (5, .inl x5)] [.inl s0] m Q := by
  refine hx_ifs .ne 127 (by decide +kernel) (fun c1 => ?_) (fun c1 => ?_)
  · have c1 : s0 ≠ 0 := c1
    refine hx_blk (npc := 128) (L' := [(0, .inr (.inl 86)), (1, .inl x1), (2, .inl x2), (3, .inl x3), (4, .inl x4), (5, .inl x5)]) (st' := [.inl 0]) (m' := m) [((127, .iconst 0, 1, 0, 0, 0, 0), (0, 0, 0))] (by decide +kernel) rfl ?_
    exact hx_reti (by decide +kernel) (h1 c1)
  · have c1 : s0 = 0 := by have h : ¬ (s0 ≠ 0) := c1; omega
    refine hx_blk (npc := 124) (L' := [(0, .inr (.inl 86)), (1, .inl x1), (2, .inl x2), (3, .inl x3), (4, .inl x4), (5, .inl x5)]) (st' := [.inl x5, .inl (m 87 (gx_w (1120 + x4)).toNat)]) (m' := m) [((111, .aload_n 0, 1, 0, 0, 0, 0), (0, 0, 0)), ((112, .getfield 7, 3, 10, 0, 5113, 0), (1, 86, 87)), ((115, .sipush 1120, 3, 0, 0, 0, 0), (0, 0, 0)), ((118, .iload 4, 2, 0, 0, 0, 0), (0, 0, 0)), ((120, .iadd, 1, 0, 0, 0, 0), (0, 0, 0)), ((121, .iaload, 1, 0, 0, 0, 0), (0, 87, 0)), ((122, .iload 5, 2, 0, 0, 0, 0), (0, 0, 0))] (by decide +kernel) rfl ?_
    refine hx_cmp .ge 129 (by decide +kernel) (fun c2 => ?_) (fun c2 => ?_)
    · have c2 : x5 ≤ (m 87 (gx_w (1120 + x4)).toNat) := c2
      refine hx_blk (npc := 167) (L' := [(0, .inr (.inl 86)), (1, .inl x1), (2, .inl x2), (3, .inl x3), (4, .inl x4), (5, .inl x5)]) (st' := [.inl x5, .inl x3, .inr (.inl 86), .inl (gx_w (1120 + x3)), .inr (.inl 87)]) (m' := (gx_u m 87 (gx_w (1120 + x4)).toNat (gx_w ((m 87 (gx_w (1120 + x4)).toNat) - x5)))) [((129, .aload_n 0, 1, 0, 0, 0, 0), (0, 0, 0)), ((130, .getfield 7, 3, 10, 0, 5113, 0), (1, 86, 87)), ((133, .sipush 1120, 3, 0, 0, 0, 0), (0, 0, 0)), ((136, .iload 4, 2, 0, 0, 0, 0), (0, 0, 0)), ((138, .iadd, 1, 0, 0, 0, 0), (0, 0, 0)), ((139, .aload_n 0, 1, 0, 0, 0, 0), (0, 0, 0)), ((140, .getfield 7, 3, 10, 0, 5113, 0), (1, 86, 87)), ((143, .sipush 1120, 3, 0, 0, 0, 0), (0, 0, 0)), ((146, .iload 4, 2, 0, 0, 0, 0), (0, 0, 0)), ((148, .iadd, 1, 0, 0, 0, 0), (0, 0, 0)), ((149, .iaload, 1, 0, 0, 0, 0), (0, 87, 0)), ((150, .iload 5, 2, 0, 0, 0, 0), (0, 0, 0)), ((152, .isub, 1, 0, 0, 0, 0), (0, 0, 0)), ((153, .iastore, 1, 0, 0, 0, 0), (0, 87, 0)), ((154, .aload_n 0, 1, 0, 0, 0, 0), (0, 0, 0)), ((155, .getfield 7, 3, 10, 0, 5113, 0), (1, 86, 87)), ((158, .sipush 1120, 3, 0, 0, 0, 0), (0, 0, 0)), ((161, .iload_n 3, 1, 0, 0, 0, 0), (0, 0, 0)), ((162, .iadd, 1, 0, 0, 0, 0), (0, 0, 0)), ((163, .aload_n 0, 1, 0, 0, 0, 0), (0, 0, 0)), ((164, .iload_n 3, 1, 0, 0, 0, 0), (0, 0, 0)), ((165, .iload 5, 2, 0, 0, 0, 0), (0, 0, 0))] (by decide +kernel) rfl ?_
      exact hx_call (E := (167, .invokevirtual 266, 3, 198, 0, 6164, 0)) (M' := yp_m198) [.inr (.inl 86), .inl x3, .inl x5] [.inl (gx_w (1120 + x3)), .inr (.inl 87)] rfl (by decide +kernel) rfl ⟨rfl, rfl⟩ rfl rfl (hx_mono (h2 c1 c2) (fun r m' h' => hx_pick [0, 1, 2, 4, 5] h'))
    · have c2 : (m 87 (gx_w (1120 + x4)).toNat) < x5 := by have h : ¬ (x5 ≤ (m 87 (gx_w (1120 + x4)).toNat)) := c2; omega
      refine hx_blk (npc := 128) (L' := [(0, .inr (.inl 86)), (1, .inl x1), (2, .inl x2), (3, .inl x3), (4, .inl x4), (5, .inl x5)]) (st' := [.inl 0]) (m' := m) [((127, .iconst 0, 1, 0, 0, 0, 0), (0, 0, 0))] (by decide +kernel) rfl ?_
      exact hx_reti (by decide +kernel) (h3 c1 c2)

/-- does from 170 on -/
theorem hr195_170 {xs : List Int32} {n : Nat} {Q : hQ} {m : gx_M} {x1 x2 x4 x5 s1 s2 : Int}
    (h1 : ((m 106 (x1).toNat) = 93) → Q (some (.inl 1)) (gx_u (gx_u (gx_u (gx_u m 87 (s1).toNat s2) 87 (gx_w (280 + x2)).toNat x4) 87 (gx_w (320 + x2)).toNat x5) 87 (gx_w (360 + x2)).toNat x5))
    (h2 : ((m 106 (x1).toNat) ≠ 93) → hxn xs n yp_m210 0 [(0, .inr (.inl 86)), (1, .inl x2), (2, .inl x4)] [] (gx_u m 87 (s1).toNat s2) (fun r m' => hxn xs n yp_m195 189 [] (hrs r ++ []) m' Q)) : hxn xs (n + 1) yp_m195 170 [(0, .inr (.inl 86)), (1, .inl x1), (2, .inl x2), (4, .inl x4), (5, .inl x5)] [.inl s2, .inl s1, .inr (.inl 87)] m Q := by
  refine hx_blks (npc := 179) (L' := [(0, .inr (.inl 86)), (1, .inl x1), (2, .inl x2), (4, .inl x4), (5, .inl x5)]) (st' := [.inl 93, .inl (m 106 (x1).toNat)]) (m' := (gx_u m 87 (s1).toNat s2)) ((170, .iastore, 1, 0, 0, 0, 0), (0, 87, 0)) [((171, .aload_n 0, 1, 0, 0, 0, 0), (0, 0, 0)), ((172, .getfield 68, 3, 10, 29, 5142, 0), (1, 86, 106)), ((175, .iload_n 1, 1, 0, 0, 0, 0), (0, 0, 0)), ((176, .iaload, 1, 0, 0, 0, 0), (0, 106, 0)), ((177, .bipush 93, 2, 0, 0, 0, 0), (0, 0, 0))] (by decide +kernel) rfl ?_
  refine hx_cmp .eq 191 (by decide +kernel) (fun c1 => ?_) (fun c1 => ?_)
  · have c1 : (m 106 (x1).toNat) = 93 := c1
    refine hx_blk (npc := 228) (L' := [(0, .inr (.inl 86)), (1, .inl x1), (2, .inl x2), (4, .inl x4), (5, .inl x5)]) (st' := [.inl 1]) (m' := (gx_u (gx_u (gx_u (gx_u m 87 (s1).toNat s2) 87 (gx_w (280 + x2)).toNat x4) 87 (gx_w (320 + x2)).toNat x5) 87 (gx_w (360 + x2)).toNat x5)) [((191, .aload_n 0, 1, 0, 0, 0, 0), (0, 0, 0)), ((192, .getfield 7, 3, 10, 0, 5113, 0), (1, 86, 87)), ((195, .sipush 280, 3, 0, 0, 0, 0), (0, 0, 0)), ((198, .iload_n 2, 1, 0, 0, 0, 0), (0, 0, 0)), ((199, .iadd, 1, 0, 0, 0, 0), (0, 0, 0)), ((200, .iload 4, 2, 0, 0, 0, 0), (0, 0, 0)), ((202, .iastore, 1, 0, 0, 0, 0), (0, 87, 0)), ((203, .aload_n 0, 1, 0, 0, 0, 0), (0, 0, 0)), ((204, .getfield 7, 3, 10, 0, 5113, 0), (1, 86, 87)), ((207, .sipush 320, 3, 0, 0, 0, 0), (0, 0, 0)), ((210, .iload_n 2, 1, 0, 0, 0, 0), (0, 0, 0)), ((211, .iadd, 1, 0, 0, 0, 0), (0, 0, 0)), ((212, .iload 5, 2, 0, 0, 0, 0), (0, 0, 0)), ((214, .iastore, 1, 0, 0, 0, 0), (0, 87, 0)), ((215, .aload_n 0, 1, 0, 0, 0, 0), (0, 0, 0)), ((216, .getfield 7, 3, 10, 0, 5113, 0), (1, 86, 87)), ((219, .sipush 360, 3, 0, 0, 0, 0), (0, 0, 0)), ((222, .iload_n 2, 1, 0, 0, 0, 0), (0, 0, 0)), ((223, .iadd, 1, 0, 0, 0, 0), (0, 0, 0)), ((224, .iload 5, 2, 0, 0, 0, 0), (0, 0, 0)), ((226, .iastore, 1, 0, 0, 0, 0), (0, 87, 0)), ((227, .iconst 1, 1, 0, 0, 0, 0), (0, 0, 0))] (by decide +kernel) rfl ?_
    exact hx_reti (by decide +kernel) (h1 c1)
  · have c1 : (m 106 (x1).toNat) ≠ 93 := c1
    refine hx_blk (npc := 186) (L' := [(0, .inr (.inl 86)), (1, .inl x1), (2, .inl x2), (4, .inl x4), (5, .inl x5)]) (st' := [.inl x4, .inl x2, .inr (.inl 86)]) (m' := (gx_u m 87 (s1).toNat s2)) [((182, .aload_n 0, 1, 0, 0, 0, 0), (0, 0, 0)), ((183, .iload_n 2, 1, 0, 0, 0, 0), (0, 0, 0)), ((184, .iload 4, 2, 0, 0, 0, 0), (0, 0, 0))] (by decide +kernel) rfl ?_
    exact hx_call (E := (186, .invokevirtual 281, 3, 210, 0, 6209, 0)) (M' := yp_m210) [.inr (.inl 86), .inl x2, .inl x4] [] rfl (by decide +kernel) rfl ⟨rfl, rfl⟩ rfl rfl (hx_mono (h2 c1) (fun r m' h' => hx_pick [] h'))

/-- does from 189 on -/
theorem hr195_189 {xs : List Int32} {n : Nat} {Q : hQ} {m : gx_M}
    (h1 : Q (some (.inl 1)) m) : hxn xs (n + 1) yp_m195 189 [] [] m Q := by
  refine hx_blks (npc := 190) (L' := []) (st' := [.inl 1]) (m' := m) ((189, .iconst 1, 1, 0, 0, 0, 0), (0, 0, 0)) [] (by decide +kernel) rfl ?_
  exact hx_reti (by decide +kernel) h1

