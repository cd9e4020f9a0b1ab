/-! days as the reference has them go by: roads -/
def aPw (s : Nat → Int) (y : Int) : Prop := 0 ≤ s (gx_w (280 + y)).toNat
/-- isPawned from 0 on -/
theorem hs200 {xs : List Int32} {n : Nat} {Q : hQ} {m : gx_M} {x1 : Int}
    (h1 : aPw (m 87) x1 → Q (some (.inl 1)) m) (h0 : ¬ (aPw (m 87) x1) → Q (some (.inl 0)) m) : hxn xs n yp_m200 0 [(0, .inr (.inl 86)), (1, .inl x1)] [] m Q := by
  refine hx_dn ?_
  refine hx_blks (npc := 10) (L' := [(0, .inr (.inl 86)), (1, .inl x1)]) (st' := [.inl (m 87 (gx_w (280 + x1)).toNat)]) (m' := m) ((0, .aload_n 0, 1, 0, 0, 0, 0), (0, 0, 0)) [((1, .getfield 7, 3, 10, 0, 5113, 0), (1, 86, 87)), ((4, .sipush 280, 3, 0, 0, 0, 0), (0, 0, 0)), ((7, .iload_n 1, 1, 0, 0, 0, 0), (0, 0, 0)), ((8, .iadd, 1, 0, 0, 0, 0), (0, 0, 0)), ((9, .iaload, 1, 0, 0, 0, 0), (0, 87, 0))] (by decide +kernel) rfl ?_
  refine hx_if .lt 17 (by decide +kernel) (fun c1 => ?_) (fun c1 => ?_)
  · have c1 : (m 87 (gx_w (280 + x1)).toNat) < 0 := c1
    refine hx_blk (npc := 18) (L' := [(0, .inr (.inl 86)), (1, .inl x1)]) (st' := [.inl 0]) (m' := m) [((17, .iconst 0, 1, 0, 0, 0, 0), (0, 0, 0))] (by decide +kernel) rfl ?_
    exact hx_reti (by decide +kernel) (h0 (by unfold aPw; omega))
  · have c1 : 0 ≤ (m 87 (gx_w (280 + x1)).toNat) := by have h : ¬ ((m 87 (gx_w (280 + x1)).toNat) < 0) := c1; omega
    refine hx_blk (npc := 18) (L' := [(0, .inr (.inl 86)), (1, .inl x1)]) (st' := [.inl 1]) (m' := m) [((13, .iconst 1, 1, 0, 0, 0, 0), (0, 0, 0)), ((14, .goto 4, 3, 0, 0, 0, 0), (0, 0, 0))] (by decide +kernel) rfl ?_
    exact hx_reti (by decide +kernel) (h1 (by unfold aPw; omega))

/-- pawnGrows from 0 on -/
theorem hr260_0 {xs : List Int32} {n : Nat} {Q : hQ} {m : gx_M} {x1 : Int}
    (h1 : hxn xs n yp_m202 0 [(0, .inr (.inl 86)), (1, .inl x1), (2, .inl (m 87 (gx_w (240 + x1)).toNat)), (3, .inl (m 87 (gx_w (320 + x1)).toNat))] [] m (fun r m' => hxn xs n yp_m260 25 [(0, .inr (.inl 86)), (1, .inl x1)] (hrs r ++ []) m' Q)) : hxn xs (n + 1) yp_m260 0 [(0, .inr (.inl 86)), (1, .inl x1)] [] m Q := by
  refine hx_blks (npc := 22) (L' := [(0, .inr (.inl 86)), (1, .inl x1)]) (st' := [.inl (m 87 (gx_w (320 + x1)).toNat), .inl (m 87 (gx_w (240 + x1)).toNat), .inl x1, .inr (.inl 86)]) (m' := m) ((0, .aload_n 0, 1, 0, 0, 0, 0), (0, 0, 0)) [((1, .iload_n 1, 1, 0, 0, 0, 0), (0, 0, 0)), ((2, .aload_n 0, 1, 0, 0, 0, 0), (0, 0, 0)), ((3, .getfield 7, 3, 10, 0, 5113, 0), (1, 86, 87)), ((6, .sipush 240, 3, 0, 0, 0, 0), (0, 0, 0)), ((9, .iload_n 1, 1, 0, 0, 0, 0), (0, 0, 0)), ((10, .iadd, 1, 0, 0, 0, 0), (0, 0, 0)), ((11, .iaload, 1, 0, 0, 0, 0), (0, 87, 0)), ((12, .aload_n 0, 1, 0, 0, 0, 0), (0, 0, 0)), ((13, .getfield 7, 3, 10, 0, 5113, 0), (1, 86, 87)), ((16, .sipush 320, 3, 0, 0, 0, 0), (0, 0, 0)), ((19, .iload_n 1, 1, 0, 0, 0, 0), (0, 0, 0)), ((20, .iadd, 1, 0, 0, 0, 0), (0, 0, 0)), ((21, .iaload, 1, 0, 0, 0, 0), (0, 87, 0))] (by decide +kernel) rfl ?_
  exact hx_call (E := (22, .invokevirtual 247, 3, 202, 0, 6179, 0)) (M' := yp_m202) [.inr (.inl 86), .inl x1, .inl (m 87 (gx_w (240 + x1)).toNat), .inl (m 87 (gx_w (320 + x1)).toNat)] [] rfl (by decide +kernel) rfl ⟨rfl, rfl⟩ rfl rfl (hx_mono h1 (fun r m' h' => hx_pick [0, 1] h'))

/-- pawnGrows from 25 on -/
theorem hr260_25 {xs : List Int32} {n : Nat} {Q : hQ} {m : gx_M} {x1 : Int}
    (h1 : hxn xs n yp_m225 0 [(0, .inr (.inl 86)), (1, .inl 105), (2, .inl 99)] [] m (fun r m' => hxn xs n yp_m260 54 [(0, .inr (.inl 86)), (1, .inl x1)] (hrs r ++ [.inl (m 87 (gx_w (360 + x1)).toNat), .inl 99999, .inl (gx_w (360 + x1)), .inr (.inl 87)]) m' Q)) : hxn xs (n + 1) yp_m260 25 [(0, .inr (.inl 86)), (1, .inl x1)] [] m Q := by
  refine hx_blks (npc := 51) (L' := [(0, .inr (.inl 86)), (1, .inl x1)]) (st' := [.inl 99, .inl 105, .inr (.inl 86), .inl (m 87 (gx_w (360 + x1)).toNat), .inl 99999, .inl (gx_w (360 + x1)), .inr (.inl 87)]) (m' := m) ((25, .aload_n 0, 1, 0, 0, 0, 0), (0, 0, 0)) [((26, .getfield 7, 3, 10, 0, 5113, 0), (1, 86, 87)), ((29, .sipush 360, 3, 0, 0, 0, 0), (0, 0, 0)), ((32, .iload_n 1, 1, 0, 0, 0, 0), (0, 0, 0)), ((33, .iadd, 1, 0, 0, 0, 0), (0, 0, 0)), ((34, .ldc 112, 2, 0, 0, 6026, 99999), (0, 0, 0)), ((36, .aload_n 0, 1, 0, 0, 0, 0), (0, 0, 0)), ((37, .getfield 7, 3, 10, 0, 5113, 0), (1, 86, 87)), ((40, .sipush 360, 3, 0, 0, 0, 0), (0, 0, 0)), ((43, .iload_n 1, 1, 0, 0, 0, 0), (0, 0, 0)), ((44, .iadd, 1, 0, 0, 0, 0), (0, 0, 0)), ((45, .iaload, 1, 0, 0, 0, 0), (0, 87, 0)), ((46, .aload_n 0, 1, 0, 0, 0, 0), (0, 0, 0)), ((47, .bipush 105, 2, 0, 0, 0, 0), (0, 0, 0)), ((49, .bipush 99, 2, 0, 0, 0, 0), (0, 0, 0))] (by decide +kernel) rfl ?_
  exact hx_call (E := (51, .invokevirtual 251, 3, 225, 0, 7028, 0)) (M' := yp_m225) [.inr (.inl 86), .inl 105, .inl 99] [.inl (m 87 (gx_w (360 + x1)).toNat), .inl 99999, .inl (gx_w (360 + x1)), .inr (.inl 87)] rfl (by decide +kernel) rfl ⟨rfl, rfl⟩ rfl rfl (hx_mono h1 (fun r m' h' => hx_pick [0, 1] h'))

/-- pawnGrows from 54 on -/
theorem hr260_54 {xs : List Int32} {n : Nat} {Q : hQ} {m : gx_M} {x1 s1 s2 s3 s4 : Int}
    (h1 : hxn xs n yp_m199 0 [(0, .inl s2), (1, .inl (gx_w (s3 + s4)))] [] m (fun r m' => hxn xs n yp_m260 58 [(0, .inr (.inl 86)), (1, .inl x1)] (hrs r ++ [.inl s1, .inr (.inl 87)]) m' Q)) : hxn xs (n + 1) yp_m260 54 [(0, .inr (.inl 86)), (1, .inl x1)] [.inl s4, .inl s3, .inl s2, .inl s1, .inr (.inl 87)] m Q := by
  refine hx_blks (npc := 55) (L' := [(0, .inr (.inl 86)), (1, .inl x1)]) (st' := [.inl (gx_w (s3 + s4)), .inl s2, .inl s1, .inr (.inl 87)]) (m' := m) ((54, .iadd, 1, 0, 0, 0, 0), (0, 0, 0)) [] (by decide +kernel) rfl ?_
  exact hx_call (E := (55, .invokestatic 120, 3, 199, 0, 6168, 0)) (M' := yp_m199) [.inl s2, .inl (gx_w (s3 + s4))] [.inl s1, .inr (.inl 87)] rfl (by decide +kernel) rfl ⟨rfl, rfl⟩ rfl rfl (hx_mono h1 (fun r m' h' => hx_pick [0, 1] h'))

/-- pawnGrows from 58 on -/
theorem hr260_58 {xs : List Int32} {n : Nat} {Q : hQ} {m : gx_M} {x1 s1 s2 : Int}
    (h1 : (((gx_u m 87 (s1).toNat s2) 87 (gx_w (320 + x1)).toNat) = 0) → Q none (gx_u m 87 (s1).toNat s2))
    (h2 : (((gx_u m 87 (s1).toNat s2) 87 (gx_w (320 + x1)).toNat) ≠ 0) → ((gx_w (2 * ((gx_u m 87 (s1).toNat s2) 87 (gx_w (320 + x1)).toNat))) ≤ ((gx_u m 87 (s1).toNat s2) 87 (gx_w (360 + x1)).toNat)) → hxn xs n yp_m210 0 [(0, .inr (.inl 86)), (1, .inl x1), (2, .inl ((gx_u m 87 (s1).toNat s2) 87 (gx_w (280 + x1)).toNat))] [] (gx_u m 87 (s1).toNat s2) (fun r m' => hxn xs n yp_m260 113 [(0, .inr (.inl 86))] (hrs r ++ []) m' Q))
    (h3 : (((gx_u m 87 (s1).toNat s2) 87 (gx_w (320 + x1)).toNat) ≠ 0) → (((gx_u m 87 (s1).toNat s2) 87 (gx_w (360 + x1)).toNat) < (gx_w (2 * ((gx_u m 87 (s1).toNat s2) 87 (gx_w (320 + x1)).toNat)))) → Q none (gx_u m 87 (s1).toNat s2)) : hxn xs (n + 1) yp_m260 58 [(0, .inr (.inl 86)), (1, .inl x1)] [.inl s2, .inl s1, .inr (.inl 87)] m Q := by
  refine hx_blks (npc := 69) (L' := [(0, .inr (.inl 86)), (1, .inl x1)]) (st' := [.inl ((gx_u m 87 (s1).toNat s2) 87 (gx_w (320 + x1)).toNat)]) (m' := (gx_u m 87 (s1).toNat s2)) ((58, .iastore, 1, 0, 0, 0, 0), (0, 87, 0)) [((59, .aload_n 0, 1, 0, 0, 0, 0), (0, 0, 0)), ((60, .getfield 7, 3, 10, 0, 5113, 0), (1, 86, 87)), ((63, .sipush 320, 3, 0, 0, 0, 0), (0, 0, 0)), ((66, .iload_n 1, 1, 0, 0, 0, 0), (0, 0, 0)), ((67, .iadd, 1, 0, 0, 0, 0), (0, 0, 0)), ((68, .iaload, 1, 0, 0, 0, 0), (0, 87, 0))] (by decide +kernel) rfl ?_
  refine hx_if .eq 97 (by decide +kernel) (fun c1 => ?_) (fun c1 => ?_)
  · have c1 : ((gx_u m 87 (s1).toNat s2) 87 (gx_w (320 + x1)).toNat) = 0 := c1
    exact hx_ret0 (by decide +kernel) (h1 c1)
  · have c1 : ((gx_u m 87 (s1).toNat s2) 87 (gx_w (320 + x1)).toNat) ≠ 0 := c1
    refine hx_blk (npc := 94) (L' := [(0, .inr (.inl 86)), (1, .inl x1)]) (st' := [.inl (gx_w (2 * ((gx_u m 87 (s1).toNat s2) 87 (gx_w (320 + x1)).toNat))), .inl ((gx_u m 87 (s1).toNat s2) 87 (gx_w (360 + x1)).toNat)]) (m' := (gx_u m 87 (s1).toNat s2)) [((72, .aload_n 0, 1, 0, 0, 0, 0), (0, 0, 0)), ((73, .getfield 7, 3, 10, 0, 5113, 0), (1, 86, 87)), ((76, .sipush 360, 3, 0, 0, 0, 0), (0, 0, 0)), ((79, .iload_n 1, 1, 0, 0, 0, 0), (0, 0, 0)), ((80, .iadd, 1, 0, 0, 0, 0), (0, 0, 0)), ((81, .iaload, 1, 0, 0, 0, 0), (0, 87, 0)), ((82, .iconst 2, 1, 0, 0, 0, 0), (0, 0, 0)), ((83, .aload_n 0, 1, 0, 0, 0, 0), (0, 0, 0)), ((84, .getfield 7, 3, 10, 0, 5113, 0), (1, 86, 87)), ((87, .sipush 320, 3, 0, 0, 0, 0), (0, 0, 0)), ((90, .iload_n 1, 1, 0, 0, 0, 0), (0, 0, 0)), ((91, .iadd, 1, 0, 0, 0, 0), (0, 0, 0)), ((92, .iaload, 1, 0, 0, 0, 0), (0, 87, 0)), ((93, .imul, 1, 0, 0, 0, 0), (0, 0, 0))] (by decide +kernel) rfl ?_
    refine hx_cmp .ge 98 (by decide +kernel) (fun c2 => ?_) (fun c2 => ?_)
    · have c2 : (gx_w (2 * ((gx_u m 87 (s1).toNat s2) 87 (gx_w (320 + x1)).toNat))) ≤ ((gx_u m 87 (s1).toNat s2) 87 (gx_w (360 + x1)).toNat) := c2
      refine hx_blk (npc := 110) (L' := [(0, .inr (.inl 86)), (1, .inl x1)]) (st' := [.inl ((gx_u m 87 (s1).toNat s2) 87 (gx_w (280 + x1)).toNat), .inl x1, .inr (.inl 86)]) (m' := (gx_u m 87 (s1).toNat s2)) [((98, .aload_n 0, 1, 0, 0, 0, 0), (0, 0, 0)), ((99, .iload_n 1, 1, 0, 0, 0, 0), (0, 0, 0)), ((100, .aload_n 0, 1, 0, 0, 0, 0), (0, 0, 0)), ((101, .getfield 7, 3, 10, 0, 5113, 0), (1, 86, 87)), ((104, .sipush 280, 3, 0, 0, 0, 0), (0, 0, 0)), ((107, .iload_n 1, 1, 0, 0, 0, 0), (0, 0, 0)), ((108, .iadd, 1, 0, 0, 0, 0), (0, 0, 0)), ((109, .iaload, 1, 0, 0, 0, 0), (0, 87, 0))] (by decide +kernel) rfl ?_
      exact hx_call (E := (110, .invokevirtual 281, 3, 210, 0, 6209, 0)) (M' := yp_m210) [.inr (.inl 86), .inl x1, .inl ((gx_u m 87 (s1).toNat s2) 87 (gx_w (280 + x1)).toNat)] [] rfl (by decide +kernel) rfl ⟨rfl, rfl⟩ rfl rfl (hx_mono (h2 c1 c2) (fun r m' h' => hx_pick [0] h'))
    · have c2 : ((gx_u m 87 (s1).toNat s2) 87 (gx_w (360 + x1)).toNat) < (gx_w (2 * ((gx_u m 87 (s1).toNat s2) 87 (gx_w (320 + x1)).toNat))) := by have h : ¬ ((gx_w (2 * ((gx_u m 87 (s1).toNat s2) 87 (gx_w (320 + x1)).toNat))) ≤ ((gx_u m 87 (s1).toNat s2) 87 (gx_w (360 + x1)).toNat)) := c2; omega
      exact hx_ret0 (by decide +kernel) (h3 c1 c2)

/-- pawnGrows from 113 on -/
theorem hr260_113 {xs : List Int32} {n : Nat} {Q : hQ} {m : gx_M}
    (h1 : Q none (gx_u m 86 45 (gx_w ((m 86 45) + 1)))) : hxn xs (n + 1) yp_m260 113 [(0, .inr (.inl 86))] [] m Q := by
  refine hx_blks (npc := 123) (L' := [(0, .inr (.inl 86))]) (st' := []) (m' := (gx_u m 86 45 (gx_w ((m 86 45) + 1)))) ((113, .aload_n 0, 1, 0, 0, 0, 0), (0, 0, 0)) [((114, .aload_n 0, 1, 0, 0, 0, 0), (0, 0, 0)), ((115, .getfield 390, 3, 10, 45, 5158, 0), (0, 86, 0)), ((118, .iconst 1, 1, 0, 0, 0, 0), (0, 0, 0)), ((119, .iadd, 1, 0, 0, 0, 0), (0, 0, 0)), ((120, .putfield 390, 3, 10, 45, 5158, 0), (0, 86, 0))] (by decide +kernel) rfl ?_
  exact hx_ret0 (by decide +kernel) h1

/-- dayGoes from 0 on -/
theorem hr259_0 {xs : List Int32} {n : Nat} {Q : hQ} {m : gx_M}
    (h1 : hxn xs n yp_m259 2 [(0, .inr (.inl 86)), (1, .inl 0)] [] m Q) : hxn xs (n + 1) yp_m259 0 [(0, .inr (.inl 86))] [] m Q := by
  refine hx_blks (npc := 2) (L' := [(0, .inr (.inl 86)), (1, .inl 0)]) (st' := []) (m' := m) ((0, .iconst 0, 1, 0, 0, 0, 0), (0, 0, 0)) [((1, .istore_n 1, 1, 0, 0, 0, 0), (0, 0, 0))] (by decide +kernel) rfl ?_
  exact hx_pick [0, 1] h1

/-- dayGoes from 2 on -/
theorem hr259_2 {xs : List Int32} {n : Nat} {Q : hQ} {m : gx_M} {x1 : Int}
    (h1 : (40 ≤ x1) → hxn xs n yp_m259 37 [(0, .inr (.inl 86)), (1, .inl 0)] [] m Q)
    (h2 : (x1 < 40) → (aYr (m 87) x1) → (aPw (m 87) x1) → hxn xs n yp_m260 0 [(0, .inr (.inl 86)), (1, .inl x1)] [] m (fun r m' => hxn xs n yp_m259 29 [(0, .inr (.inl 86)), (1, .inl x1)] (hrs r ++ []) m' Q))
    (h3 : (x1 < 40) → (aYr (m 87) x1) → (¬ (aPw (m 87) x1)) → hxn xs n yp_m259 2 [(0, .inr (.inl 86)), (1, .inl (gx_w (x1 + 1)))] [] m Q)
    (h4 : (x1 < 40) → (¬ (aYr (m 87) x1)) → hxn xs n yp_m259 2 [(0, .inr (.inl 86)), (1, .inl (gx_w (x1 + 1)))] [] m Q) : hxn xs (n + 1) yp_m259 2 [(0, .inr (.inl 86)), (1, .inl x1)] [] m Q := by
  refine hx_blks (npc := 5) (L' := [(0, .inr (.inl 86)), (1, .inl x1)]) (st' := [.inl 40, .inl x1]) (m' := m) ((2, .iload_n 1, 1, 0, 0, 0, 0), (0, 0, 0)) [((3, .bipush 40, 2, 0, 0, 0, 0), (0, 0, 0))] (by decide +kernel) rfl ?_
  refine hx_cmp .ge 35 (by decide +kernel) (fun c1 => ?_) (fun c1 => ?_)
  · have c1 : 40 ≤ x1 := c1
    refine hx_blk (npc := 37) (L' := [(0, .inr (.inl 86)), (1, .inl 0)]) (st' := []) (m' := m) [((35, .iconst 0, 1, 0, 0, 0, 0), (0, 0, 0)), ((36, .istore_n 1, 1, 0, 0, 0, 0), (0, 0, 0))] (by decide +kernel) rfl ?_
    exact hx_pick [0, 1] (h1 c1)
  · have c1 : x1 < 40 := by have h : ¬ (40 ≤ x1) := c1; omega
    refine hx_blk (npc := 10) (L' := [(0, .inr (.inl 86)), (1, .inl x1)]) (st' := [.inl x1, .inr (.inl 86)]) (m' := m) [((8, .aload_n 0, 1, 0, 0, 0, 0), (0, 0, 0)), ((9, .iload_n 1, 1, 0, 0, 0, 0), (0, 0, 0))] (by decide +kernel) rfl ?_
    refine hx_call (E := (10, .invokevirtual 269, 3, 196, 0, 6156, 0)) (M' := yp_m196) [.inr (.inl 86), .inl x1] [] rfl (by decide +kernel) rfl ⟨rfl, rfl⟩ rfl rfl (hs196 (fun c2 => ?_) (fun c2 => ?_))
    · have c2 : aYr (m 87) x1 := c2
      show hxn xs n yp_m259 13 [(0, .inr (.inl 86)), (1, .inl x1)] [.inl 1] m Q
      refine hx_if .eq 29 (by decide +kernel) (fun c3 => ?_) (fun c3 => ?_)
      · have c3 : (1 : Int) = 0 := c3
        exfalso; omega
      · have c3 : (1 : Int) ≠ 0 := c3
        refine hx_blk (npc := 18) (L' := [(0, .inr (.inl 86)), (1, .inl x1)]) (st' := [.inl x1, .inr (.inl 86)]) (m' := m) [((16, .aload_n 0, 1, 0, 0, 0, 0), (0, 0, 0)), ((17, .iload_n 1, 1, 0, 0, 0, 0), (0, 0, 0))] (by decide +kernel) rfl ?_
        refine hx_call (E := (18, .invokevirtual 275, 3, 200, 0, 6171, 0)) (M' := yp_m200) [.inr (.inl 86), .inl x1] [] rfl (by decide +kernel) rfl ⟨rfl, rfl⟩ rfl rfl (hs200 (fun c3 => ?_) (fun c3 => ?_))
        · have c3 : aPw (m 87) x1 := c3
          show hxn xs n yp_m259 21 [(0, .inr (.inl 86)), (1, .inl x1)] [.inl 1] m Q
          refine hx_if .eq 29 (by decide +kernel) (fun c4 => ?_) (fun c4 => ?_)
          · have c4 : (1 : Int) = 0 := c4
            exfalso; omega
          · have c4 : (1 : Int) ≠ 0 := c4
            refine hx_blk (npc := 26) (L' := [(0, .inr (.inl 86)), (1, .inl x1)]) (st' := [.inl x1, .inr (.inl 86)]) (m' := m) [((24, .aload_n 0, 1, 0, 0, 0, 0), (0, 0, 0)), ((25, .iload_n 1, 1, 0, 0, 0, 0), (0, 0, 0))] (by decide +kernel) rfl ?_
            exact hx_call (E := (26, .invokevirtual 393, 3, 260, 0, 7168, 0)) (M' := yp_m260) [.inr (.inl 86), .inl x1] [] rfl (by decide +kernel) rfl ⟨rfl, rfl⟩ rfl rfl (hx_mono (h2 c1 c2 c3) (fun r m' h' => hx_pick [0, 1] h'))
        · have c3 : ¬ (aPw (m 87) x1) := c3
          show hxn xs n yp_m259 21 [(0, .inr (.inl 86)), (1, .inl x1)] [.inl 0] m Q
          refine hx_if .eq 29 (by decide +kernel) (fun c4 => ?_) (fun c4 => ?_)
          · have c4 : (0 : Int) = 0 := c4
            refine hx_blk (npc := 2) (L' := [(0, .inr (.inl 86)), (1, .inl (gx_w (x1 + 1)))]) (st' := []) (m' := m) [((29, .iinc 1 1, 3, 0, 0, 0, 0), (0, 0, 0)), ((32, .goto (-30), 3, 0, 0, 0, 0), (0, 0, 0))] (by decide +kernel) rfl ?_
            exact hx_pick [0, 1] (h3 c1 c2 c3)
          · have c4 : (0 : Int) ≠ 0 := c4
            exfalso; omega
    · have c2 : ¬ (aYr (m 87) x1) := c2
      show hxn xs n yp_m259 13 [(0, .inr (.inl 86)), (1, .inl x1)] [.inl 0] m Q
      refine hx_if .eq 29 (by decide +kernel) (fun c3 => ?_) (fun c3 => ?_)
      · have c3 : (0 : Int) = 0 := c3
        refine hx_blk (npc := 2) (L' := [(0, .inr (.inl 86)), (1, .inl (gx_w (x1 + 1)))]) (st' := []) (m' := m) [((29, .iinc 1 1, 3, 0, 0, 0, 0), (0, 0, 0)), ((32, .goto (-30), 3, 0, 0, 0, 0), (0, 0, 0))] (by decide +kernel) rfl ?_
        exact hx_pick [0, 1] (h4 c1 c2)
      · have c3 : (0 : Int) ≠ 0 := c3
        exfalso; omega

/-- dayGoes from 29 on -/
theorem hr259_29 {xs : List Int32} {n : Nat} {Q : hQ} {m : gx_M} {x1 : Int}
    (h1 : hxn xs n yp_m259 2 [(0, .inr (.inl 86)), (1, .inl (gx_w (x1 + 1)))] [] m Q) : hxn xs (n + 1) yp_m259 29 [(0, .inr (.inl 86)), (1, .inl x1)] [] m Q := by
  refine hx_blks (npc := 2) (L' := [(0, .inr (.inl 86)), (1, .inl (gx_w (x1 + 1)))]) (st' := []) (m' := m) ((29, .iinc 1 1, 3, 0, 0, 0, 0), (0, 0, 0)) [((32, .goto (-30), 3, 0, 0, 0, 0), (0, 0, 0))] (by decide +kernel) rfl ?_
  exact hx_pick [0, 1] h1

/-- dayGoes from 37 on -/
theorem hr259_37 {xs : List Int32} {n : Nat} {Q : hQ} {m : gx_M} {x1 : Int}
    (h1 : (8 ≤ x1) → Q none (gx_u m 87 1129 (gx_w ((m 87 1129) + 1))))
    (h2 : (x1 < 8) → (aPers (m 87) x1) → hxn xs n yp_m203 0 [(0, .inr (.inl 86)), (1, .inl x1)] [] (gx_u m 87 1130 (Int.tmod (gx_w ((gx_w (25173 * (m 87 1130))) + 13849)) 65536)) (fun r m' => hxn xs n yp_m259 87 [(0, .inr (.inl 86)), (1, .inl x1)] (hrs r ++ []) m' Q))
    (h3 : (x1 < 8) → (¬ (aPers (m 87) x1)) → hxn xs n yp_m259 37 [(0, .inr (.inl 86)), (1, .inl (gx_w (x1 + 1)))] [] m Q) : hxn xs (n + 1) yp_m259 37 [(0, .inr (.inl 86)), (1, .inl x1)] [] m Q := by
  refine hx_blks (npc := 40) (L' := [(0, .inr (.inl 86)), (1, .inl x1)]) (st' := [.inl 8, .inl x1]) (m' := m) ((37, .iload_n 1, 1, 0, 0, 0, 0), (0, 0, 0)) [((38, .bipush 8, 2, 0, 0, 0, 0), (0, 0, 0))] (by decide +kernel) rfl ?_
  refine hx_cmp .ge 139 (by decide +kernel) (fun c1 => ?_) (fun c1 => ?_)
  · have c1 : 8 ≤ x1 := c1
    refine hx_blk (npc := 157) (L' := [(0, .inr (.inl 86)), (1, .inl x1)]) (st' := []) (m' := (gx_u m 87 1129 (gx_w ((m 87 1129) + 1)))) [((139, .aload_n 0, 1, 0, 0, 0, 0), (0, 0, 0)), ((140, .getfield 7, 3, 10, 0, 5113, 0), (1, 86, 87)), ((143, .sipush 1129, 3, 0, 0, 0, 0), (0, 0, 0)), ((146, .aload_n 0, 1, 0, 0, 0, 0), (0, 0, 0)), ((147, .getfield 7, 3, 10, 0, 5113, 0), (1, 86, 87)), ((150, .sipush 1129, 3, 0, 0, 0, 0), (0, 0, 0)), ((153, .iaload, 1, 0, 0, 0, 0), (0, 87, 0)), ((154, .iconst 1, 1, 0, 0, 0, 0), (0, 0, 0)), ((155, .iadd, 1, 0, 0, 0, 0), (0, 0, 0)), ((156, .iastore, 1, 0, 0, 0, 0), (0, 87, 0))] (by decide +kernel) rfl ?_
    exact hx_ret0 (by decide +kernel) (h1 c1)
  · have c1 : x1 < 8 := by have h : ¬ (8 ≤ x1) := c1; omega
    refine hx_blk (npc := 45) (L' := [(0, .inr (.inl 86)), (1, .inl x1)]) (st' := [.inl x1, .inr (.inl 86)]) (m' := m) [((43, .aload_n 0, 1, 0, 0, 0, 0), (0, 0, 0)), ((44, .iload_n 1, 1, 0, 0, 0, 0), (0, 0, 0))] (by decide +kernel) rfl ?_
    refine hx_call (E := (45, .invokevirtual 113, 3, 164, 0, 6031, 0)) (M' := yp_m164) [.inr (.inl 86), .inl x1] [] rfl (by decide +kernel) rfl ⟨rfl, rfl⟩ rfl rfl (hs164 (fun c2 => ?_) (fun c2 => ?_))
    · have c2 : aPers (m 87) x1 := c2
      show hxn xs n yp_m259 48 [(0, .inr (.inl 86)), (1, .inl x1)] [.inl 1] m Q
      refine hx_if .ne 54 (by decide +kernel) (fun c3 => ?_) (fun c3 => ?_)
      · have c3 : (1 : Int) ≠ 0 := c3
        refine hx_blk (npc := 84) (L' := [(0, .inr (.inl 86)), (1, .inl x1)]) (st' := [.inl x1, .inr (.inl 86)]) (m' := (gx_u m 87 1130 (Int.tmod (gx_w ((gx_w (25173 * (m 87 1130))) + 13849)) 65536))) [((54, .aload_n 0, 1, 0, 0, 0, 0), (0, 0, 0)), ((55, .getfield 7, 3, 10, 0, 5113, 0), (1, 86, 87)), ((58, .sipush 1130, 3, 0, 0, 0, 0), (0, 0, 0)), ((61, .sipush 25173, 3, 0, 0, 0, 0), (0, 0, 0)), ((64, .aload_n 0, 1, 0, 0, 0, 0), (0, 0, 0)), ((65, .getfield 7, 3, 10, 0, 5113, 0), (1, 86, 87)), ((68, .sipush 1130, 3, 0, 0, 0, 0), (0, 0, 0)), ((71, .iaload, 1, 0, 0, 0, 0), (0, 87, 0)), ((72, .imul, 1, 0, 0, 0, 0), (0, 0, 0)), ((73, .sipush 13849, 3, 0, 0, 0, 0), (0, 0, 0)), ((76, .iadd, 1, 0, 0, 0, 0), (0, 0, 0)), ((77, .ldc_w 396, 3, 0, 0, 7172, 65536), (0, 0, 0)), ((80, .irem, 1, 0, 0, 0, 0), (0, 0, 0)), ((81, .iastore, 1, 0, 0, 0, 0), (0, 87, 0)), ((82, .aload_n 0, 1, 0, 0, 0, 0), (0, 0, 0)), ((83, .iload_n 1, 1, 0, 0, 0, 0), (0, 0, 0))] (by decide +kernel) rfl ?_
        exact hx_call (E := (84, .invokevirtual 238, 3, 203, 0, 6183, 0)) (M' := yp_m203) [.inr (.inl 86), .inl x1] [] rfl (by decide +kernel) rfl ⟨rfl, rfl⟩ rfl rfl (hx_mono (h2 c1 c2) (fun r m' h' => hx_pick [0, 1] h'))
      · have c3 : (1 : Int) = 0 := by have h : ¬ ((1 : Int) ≠ 0) := c3; omega
        exfalso; omega
    · have c2 : ¬ (aPers (m 87) x1) := c2
      show hxn xs n yp_m259 48 [(0, .inr (.inl 86)), (1, .inl x1)] [.inl 0] m Q
      refine hx_if .ne 54 (by decide +kernel) (fun c3 => ?_) (fun c3 => ?_)
      · have c3 : (0 : Int) ≠ 0 := c3
        exfalso; omega
      · have c3 : (0 : Int) = 0 := by have h : ¬ ((0 : Int) ≠ 0) := c3; omega
        refine hx_blk (npc := 37) (L' := [(0, .inr (.inl 86)), (1, .inl (gx_w (x1 + 1)))]) (st' := []) (m' := m) [((51, .goto 82, 3, 0, 0, 0, 0), (0, 0, 0)), ((133, .iinc 1 1, 3, 0, 0, 0, 0), (0, 0, 0)), ((136, .goto (-99), 3, 0, 0, 0, 0), (0, 0, 0))] (by decide +kernel) rfl ?_
        exact hx_pick [0, 1] (h3 c1 c2)

/-- dayGoes from 87 on -/
theorem hr259_87 {xs : List Int32} {n : Nat} {Q : hQ} {m : gx_M} {x1 : Int}
    (h1 : hxn xs n yp_m225 0 [(0, .inr (.inl 86)), (1, .inl 102), (2, .inl 10)] [] m (fun r m' => hxn xs n yp_m259 106 [(0, .inr (.inl 86)), (1, .inl x1)] (hrs r ++ [.inl (Int.tmod (m 87 1130) 10)]) m' Q)) : hxn xs (n + 1) yp_m259 87 [(0, .inr (.inl 86)), (1, .inl x1)] [] m Q := by
  refine hx_blks (npc := 103) (L' := [(0, .inr (.inl 86)), (1, .inl x1)]) (st' := [.inl 10, .inl 102, .inr (.inl 86), .inl (Int.tmod (m 87 1130) 10)]) (m' := m) ((87, .aload_n 0, 1, 0, 0, 0, 0), (0, 0, 0)) [((88, .getfield 7, 3, 10, 0, 5113, 0), (1, 86, 87)), ((91, .sipush 1130, 3, 0, 0, 0, 0), (0, 0, 0)), ((94, .iaload, 1, 0, 0, 0, 0), (0, 87, 0)), ((95, .bipush 10, 2, 0, 0, 0, 0), (0, 0, 0)), ((97, .irem, 1, 0, 0, 0, 0), (0, 0, 0)), ((98, .aload_n 0, 1, 0, 0, 0, 0), (0, 0, 0)), ((99, .bipush 102, 2, 0, 0, 0, 0), (0, 0, 0)), ((101, .bipush 10, 2, 0, 0, 0, 0), (0, 0, 0))] (by decide +kernel) rfl ?_
  exact hx_call (E := (103, .invokevirtual 251, 3, 225, 0, 7028, 0)) (M' := yp_m225) [.inr (.inl 86), .inl 102, .inl 10] [.inl (Int.tmod (m 87 1130) 10)] rfl (by decide +kernel) rfl ⟨rfl, rfl⟩ rfl rfl (hx_mono h1 (fun r m' h' => hx_pick [0, 1] h'))

/-- dayGoes from 106 on -/
theorem hr259_106 {xs : List Int32} {n : Nat} {Q : hQ} {m : gx_M} {x1 s0 s1 : Int}
    (h1 : (s1 ≤ s0) → hxn xs n yp_m259 37 [(0, .inr (.inl 86)), (1, .inl (gx_w (x1 + 1)))] [] m Q)
    (h2 : (s0 < s1) → hxn xs n yp_m225 0 [(0, .inr (.inl 86)), (1, .inl 103), (2, .inl 999)] [] m (fun r m' => hxn xs n yp_m259 129 [(0, .inr (.inl 86)), (1, .inl x1)] (hrs r ++ [.inl x1, .inr (.inl 86), .inl (gx_w (1120 + x1)), .inr (.inl 87)]) m' Q)) : hxn xs (n + 1) yp_m259 106 [(0, .inr (.inl 86)), (1, .inl x1)] [.inl s1, .inl s0] m Q := by
  refine hx_cmps .ge 133 (by decide +kernel) (fun c1 => ?_) (fun c1 => ?_)
  · have c1 : s1 ≤ s0 := c1
    refine hx_blk (npc := 37) (L' := [(0, .inr (.inl 86)), (1, .inl (gx_w (x1 + 1)))]) (st' := []) (m' := m) [((133, .iinc 1 1, 3, 0, 0, 0, 0), (0, 0, 0)), ((136, .goto (-99), 3, 0, 0, 0, 0), (0, 0, 0))] (by decide +kernel) rfl ?_
    exact hx_pick [0, 1] (h1 c1)
  · have c1 : s0 < s1 := by have h : ¬ (s1 ≤ s0) := c1; omega
    refine hx_blk (npc := 126) (L' := [(0, .inr (.inl 86)), (1, .inl x1)]) (st' := [.inl 999, .inl 103, .inr (.inl 86), .inl x1, .inr (.inl 86), .inl (gx_w (1120 + x1)), .inr (.inl 87)]) (m' := m) [((109, .aload_n 0, 1, 0, 0, 0, 0), (0, 0, 0)), ((110, .getfield 7, 3, 10, 0, 5113, 0), (1, 86, 87)), ((113, .sipush 1120, 3, 0, 0, 0, 0), (0, 0, 0)), ((116, .iload_n 1, 1, 0, 0, 0, 0), (0, 0, 0)), ((117, .iadd, 1, 0, 0, 0, 0), (0, 0, 0)), ((118, .aload_n 0, 1, 0, 0, 0, 0), (0, 0, 0)), ((119, .iload_n 1, 1, 0, 0, 0, 0), (0, 0, 0)), ((120, .aload_n 0, 1, 0, 0, 0, 0), (0, 0, 0)), ((121, .bipush 103, 2, 0, 0, 0, 0), (0, 0, 0)), ((123, .sipush 999, 3, 0, 0, 0, 0), (0, 0, 0))] (by decide +kernel) rfl ?_
    exact hx_call (E := (126, .invokevirtual 251, 3, 225, 0, 7028, 0)) (M' := yp_m225) [.inr (.inl 86), .inl 103, .inl 999] [.inl x1, .inr (.inl 86), .inl (gx_w (1120 + x1)), .inr (.inl 87)] rfl (by decide +kernel) rfl ⟨rfl, rfl⟩ rfl rfl (hx_mono (h2 c1) (fun r m' h' => hx_pick [0, 1] h'))

/-- dayGoes from 129 on -/
theorem hr259_129 {xs : List Int32} {n : Nat} {Q : hQ} {m : gx_M} {x1 s1 s3 s4 : Int}
    (h1 : hxn xs n yp_m198 0 [(0, .inr (.inl 86)), (1, .inl s3), (2, .inl s4)] [] m (fun r m' => hxn xs n yp_m259 132 [(0, .inr (.inl 86)), (1, .inl x1)] (hrs r ++ [.inl s1, .inr (.inl 87)]) m' Q)) : hxn xs (n + 1) yp_m259 129 [(0, .inr (.inl 86)), (1, .inl x1)] [.inl s4, .inl s3, .inr (.inl 86), .inl s1, .inr (.inl 87)] m Q := by
  exact hx_calls (E := (129, .invokevirtual 266, 3, 198, 0, 6164, 0)) (M' := yp_m198) [.inr (.inl 86), .inl s3, .inl s4] [.inl s1, .inr (.inl 87)] rfl (by decide +kernel) rfl ⟨rfl, rfl⟩ rfl rfl (hx_mono h1 (fun r m' h' => hx_pick [0, 1] h'))

/-- dayGoes from 132 on -/
theorem hr259_132 {xs : List Int32} {n : Nat} {Q : hQ} {m : gx_M} {x1 s1 s2 : Int}
    (h1 : hxn xs n yp_m259 37 [(0, .inr (.inl 86)), (1, .inl (gx_w (x1 + 1)))] [] (gx_u m 87 (s1).toNat s2) Q) : hxn xs (n + 1) yp_m259 132 [(0, .inr (.inl 86)), (1, .inl x1)] [.inl s2, .inl s1, .inr (.inl 87)] m Q := by
  refine hx_blks (npc := 37) (L' := [(0, .inr (.inl 86)), (1, .inl (gx_w (x1 + 1)))]) (st' := []) (m' := (gx_u m 87 (s1).toNat s2)) ((132, .iastore, 1, 0, 0, 0, 0), (0, 87, 0)) [((133, .iinc 1 1, 3, 0, 0, 0, 0), (0, 0, 0)), ((136, .goto (-99), 3, 0, 0, 0, 0), (0, 0, 0))] (by decide +kernel) rfl ?_
  exact hx_pick [0, 1] h1

/-- daysGo from 0 on -/
theorem hr258_0 {xs : List Int32} {n : Nat} {Q : hQ} {m : gx_M} {x1 : Int}
    (h1 : hxn xs n yp_m258 7 [(0, .inr (.inl 86)), (1, .inl x1), (2, .inl 0)] [] (gx_u m 86 45 0) Q) : hxn xs (n + 1) yp_m258 0 [(0, .inr (.inl 86)), (1, .inl x1)] [] m Q := by
  refine hx_blks (npc := 7) (L' := [(0, .inr (.inl 86)), (1, .inl x1), (2, .inl 0)]) (st' := []) (m' := (gx_u m 86 45 0)) ((0, .aload_n 0, 1, 0, 0, 0, 0), (0, 0, 0)) [((1, .iconst 0, 1, 0, 0, 0, 0), (0, 0, 0)), ((2, .putfield 390, 3, 10, 45, 5158, 0), (0, 86, 0)), ((5, .iconst 0, 1, 0, 0, 0, 0), (0, 0, 0)), ((6, .istore_n 2, 1, 0, 0, 0, 0), (0, 0, 0))] (by decide +kernel) rfl ?_
  exact hx_pick [0, 1, 2] h1

/-- daysGo from 7 on -/
theorem hr258_7 {xs : List Int32} {n : Nat} {Q : hQ} {m : gx_M} {x1 x2 : Int}
    (h1 : (x1 ≤ x2) → Q none m)
    (h2 : (x2 < x1) → hxn xs n yp_m259 0 [(0, .inr (.inl 86))] [] m (fun r m' => hxn xs n yp_m258 16 [(0, .inr (.inl 86)), (1, .inl x1), (2, .inl x2)] (hrs r ++ []) m' Q)) : hxn xs (n + 1) yp_m258 7 [(0, .inr (.inl 86)), (1, .inl x1), (2, .inl x2)] [] m Q := by
  refine hx_blks (npc := 9) (L' := [(0, .inr (.inl 86)), (1, .inl x1), (2, .inl x2)]) (st' := [.inl x1, .inl x2]) (m' := m) ((7, .iload_n 2, 1, 0, 0, 0, 0), (0, 0, 0)) [((8, .iload_n 1, 1, 0, 0, 0, 0), (0, 0, 0))] (by decide +kernel) rfl ?_
  refine hx_cmp .ge 22 (by decide +kernel) (fun c1 => ?_) (fun c1 => ?_)
  · have c1 : x1 ≤ x2 := c1
    exact hx_ret0 (by decide +kernel) (h1 c1)
  · have c1 : x2 < x1 := by have h : ¬ (x1 ≤ x2) := c1; omega
    refine hx_blk (npc := 13) (L' := [(0, .inr (.inl 86)), (1, .inl x1), (2, .inl x2)]) (st' := [.inr (.inl 86)]) (m' := m) [((12, .aload_n 0, 1, 0, 0, 0, 0), (0, 0, 0))] (by decide +kernel) rfl ?_
    exact hx_call (E := (13, .invokevirtual 397, 3, 259, 0, 7164, 0)) (M' := yp_m259) [.inr (.inl 86)] [] rfl (by decide +kernel) rfl ⟨rfl, rfl⟩ rfl rfl (hx_mono (h2 c1) (fun r m' h' => hx_pick [0, 1, 2] h'))

/-- daysGo from 16 on -/
theorem hr258_16 {xs : List Int32} {n : Nat} {Q : hQ} {m : gx_M} {x1 x2 : Int}
    (h1 : hxn xs n yp_m258 7 [(0, .inr (.inl 86)), (1, .inl x1), (2, .inl (gx_w (x2 + 1)))] [] m Q) : hxn xs (n + 1) yp_m258 16 [(0, .inr (.inl 86)), (1, .inl x1), (2, .inl x2)] [] m Q := by
  refine hx_blks (npc := 7) (L' := [(0, .inr (.inl 86)), (1, .inl x1), (2, .inl (gx_w (x2 + 1)))]) (st' := []) (m' := m) ((16, .iinc 2 1, 3, 0, 0, 0, 0), (0, 0, 0)) [((19, .goto (-12), 3, 0, 0, 0, 0), (0, 0, 0))] (by decide +kernel) rfl ?_
  exact hx_pick [0, 1, 2] h1

/-- days from 0 on -/
theorem hr257_0 {xs : List Int32} {n : Nat} {Q : hQ} {m : gx_M} {x1 : Int}
    (h1 : (1 ≤ x1 ∧ x1 ≤ 100) → hxn xs n yp_m258 0 [(0, .inr (.inl 86)), (1, .inl x1)] [] m (fun r m' => hxn xs n yp_m257 17 [(0, .inr (.inl 86))] (hrs r ++ []) m' Q))
    (h2 : (¬ (1 ≤ x1 ∧ x1 ≤ 100)) → Q (some (.inl (-1))) m) : hxn xs (n + 1) yp_m257 0 [(0, .inr (.inl 86)), (1, .inl x1)] [] m Q := by
  refine hx_blks (npc := 4) (L' := [(0, .inr (.inl 86)), (1, .inl x1)]) (st' := [.inl 100, .inl 1, .inl x1]) (m' := m) ((0, .iload_n 1, 1, 0, 0, 0, 0), (0, 0, 0)) [((1, .iconst 1, 1, 0, 0, 0, 0), (0, 0, 0)), ((2, .bipush 100, 2, 0, 0, 0, 0), (0, 0, 0))] (by decide +kernel) rfl ?_
  refine hx_call (E := (4, .invokestatic 108, 3, 162, 0, 6023, 0)) (M' := yp_m162) [.inl x1, .inl 1, .inl 100] [] rfl (by decide +kernel) rfl ⟨rfl, rfl⟩ rfl rfl (hs162 (fun c1 => ?_) (fun c1 => ?_))
  · have c1 : 1 ≤ x1 ∧ x1 ≤ 100 := c1
    show hxn xs n yp_m257 7 [(0, .inr (.inl 86)), (1, .inl x1)] [.inl 1] m Q
    refine hx_if .ne 12 (by decide +kernel) (fun c2 => ?_) (fun c2 => ?_)
    · have c2 : (1 : Int) ≠ 0 := c2
      refine hx_blk (npc := 14) (L' := [(0, .inr (.inl 86)), (1, .inl x1)]) (st' := [.inl x1, .inr (.inl 86)]) (m' := m) [((12, .aload_n 0, 1, 0, 0, 0, 0), (0, 0, 0)), ((13, .iload_n 1, 1, 0, 0, 0, 0), (0, 0, 0))] (by decide +kernel) rfl ?_
      exact hx_call (E := (14, .invokevirtual 400, 3, 258, 0, 7160, 0)) (M' := yp_m258) [.inr (.inl 86), .inl x1] [] rfl (by decide +kernel) rfl ⟨rfl, rfl⟩ rfl rfl (hx_mono (h1 c1) (fun r m' h' => hx_pick [0] h'))
    · have c2 : (1 : Int) = 0 := by have h : ¬ ((1 : Int) ≠ 0) := c2; omega
      exfalso; omega
  · have c1 : ¬ (1 ≤ x1 ∧ x1 ≤ 100) := c1
    show hxn xs n yp_m257 7 [(0, .inr (.inl 86)), (1, .inl x1)] [.inl 0] m Q
    refine hx_if .ne 12 (by decide +kernel) (fun c2 => ?_) (fun c2 => ?_)
    · have c2 : (0 : Int) ≠ 0 := c2
      exfalso; omega
    · have c2 : (0 : Int) = 0 := by have h : ¬ ((0 : Int) ≠ 0) := c2; omega
      refine hx_blk (npc := 11) (L' := [(0, .inr (.inl 86)), (1, .inl x1)]) (st' := [.inl (-1)]) (m' := m) [((10, .iconst (-1), 1, 0, 0, 0, 0), (0, 0, 0))] (by decide +kernel) rfl ?_
      exact hx_reti (by decide +kernel) (h2 c1)

/-- days from 17 on -/
theorem hr257_17 {xs : List Int32} {n : Nat} {Q : hQ} {m : gx_M}
    (h1 : Q (some (.inl (m 86 45))) (gx_u m 86 44 (gx_w ((m 86 44) + (m 86 45))))) : hxn xs (n + 1) yp_m257 17 [(0, .inr (.inl 86))] [] m Q := by
  refine hx_blks (npc := 34) (L' := [(0, .inr (.inl 86))]) (st' := [.inl (m 86 45)]) (m' := (gx_u m 86 44 (gx_w ((m 86 44) + (m 86 45))))) ((17, .aload_n 0, 1, 0, 0, 0, 0), (0, 0, 0)) [((18, .aload_n 0, 1, 0, 0, 0, 0), (0, 0, 0)), ((19, .getfield 403, 3, 10, 44, 5157, 0), (0, 86, 0)), ((22, .aload_n 0, 1, 0, 0, 0, 0), (0, 0, 0)), ((23, .getfield 390, 3, 10, 45, 5158, 0), (0, 86, 0)), ((26, .iadd, 1, 0, 0, 0, 0), (0, 0, 0)), ((27, .putfield 403, 3, 10, 44, 5157, 0), (0, 86, 0)), ((30, .aload_n 0, 1, 0, 0, 0, 0), (0, 0, 0)), ((31, .getfield 390, 3, 10, 45, 5158, 0), (0, 86, 0))] (by decide +kernel) rfl ?_
  exact hx_reti (by decide +kernel) h1

