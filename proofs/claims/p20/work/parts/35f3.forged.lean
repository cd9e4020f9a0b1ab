/-! forged: the class's roads -/
/-- countMarks from 0 on -/
theorem hr129_0 {xs : List Int32} {n : Nat} {Q : hQ} {m : gx_M} {x2 : Int}
    (h1 : hxn xs n yp_m129 2 [(0, .inr (.inl 70)), (1, .inr (.inl 5)), (2, .inl x2), (3, .inl 0)] [] m Q) : hxn xs (n + 1) yp_m129 0 [(0, .inr (.inl 70)), (1, .inr (.inl 5)), (2, .inl x2)] [] m Q := by
  refine hx_blks (npc := 2) (L' := [(0, .inr (.inl 70)), (1, .inr (.inl 5)), (2, .inl x2), (3, .inl 0)]) (st' := []) (m' := m) ((0, .iconst 0, 1, 0, 0, 0, 0), (0, 0, 0)) [((1, .istore_n 3, 1, 0, 0, 0, 0), (0, 0, 0))] (by decide +kernel) rfl ?_
  exact hx_pick [0, 1, 2, 3] h1

/-- countMarks from 2 on -/
theorem hr129_2 {xs : List Int32} {n : Nat} {Q : hQ} {m : gx_M} {x2 x3 : Int} (r_x3 : 0 ≤ x3 ∧ x3 ≤ 10)
    (h1 : (9 < x3) → hxn xs n yp_m129 28 [(0, .inr (.inl 70)), (1, .inr (.inl 5)), (2, .inl x2), (3, .inl 0)] [] (gx_u m 70 4 0) Q)
    (h2 : (x3 ≤ 9) → hxn xs n yp_m129 2 [(0, .inr (.inl 70)), (1, .inr (.inl 5)), (2, .inl x2), (3, .inl (x3 + 1))] [] (gx_u m 73 (x3).toNat 0) Q) : hxn xs (n + 1) yp_m129 2 [(0, .inr (.inl 70)), (1, .inr (.inl 5)), (2, .inl x2), (3, .inl x3)] [] m Q := by
  refine hx_blks (npc := 5) (L' := [(0, .inr (.inl 70)), (1, .inr (.inl 5)), (2, .inl x2), (3, .inl x3)]) (st' := [.inl 9, .inl x3]) (m' := m) ((2, .iload_n 3, 1, 0, 0, 0, 0), (0, 0, 0)) [((3, .bipush 9, 2, 0, 0, 0, 0), (0, 0, 0))] (by decide +kernel) rfl ?_
  refine hx_cmp .gt 21 (by decide +kernel) (fun c1 => ?_) (fun c1 => ?_)
  · have c1 : 9 < x3 := c1
    refine hx_blk (npc := 28) (L' := [(0, .inr (.inl 70)), (1, .inr (.inl 5)), (2, .inl x2), (3, .inl 0)]) (st' := []) (m' := (gx_u m 70 4 0)) [((21, .aload_n 0, 1, 0, 0, 0, 0), (0, 0, 0)), ((22, .iconst 0, 1, 0, 0, 0, 0), (0, 0, 0)), ((23, .putfield 95, 3, 6, 4, 2042, 0), (0, 70, 0)), ((26, .iconst 0, 1, 0, 0, 0, 0), (0, 0, 0)), ((27, .istore_n 3, 1, 0, 0, 0, 0), (0, 0, 0))] (by decide +kernel) rfl ?_
    exact hx_pick [0, 1, 2, 3] (h1 c1)
  · have c1 : x3 ≤ 9 := by have h : ¬ (9 < x3) := c1; omega
    have e1 : gx_w (x3 + 1) = x3 + 1 := gx_w_id (by omega) (by omega)
    refine hx_blk (npc := 2) (L' := [(0, .inr (.inl 70)), (1, .inr (.inl 5)), (2, .inl x2), (3, .inl (gx_w (x3 + 1)))]) (st' := []) (m' := (gx_u m 73 (x3).toNat 0)) [((8, .aload_n 0, 1, 0, 0, 0, 0), (0, 0, 0)), ((9, .getfield 18, 3, 6, 3, 2041, 0), (1, 70, 73)), ((12, .iload_n 3, 1, 0, 0, 0, 0), (0, 0, 0)), ((13, .iconst 0, 1, 0, 0, 0, 0), (0, 0, 0)), ((14, .iastore, 1, 0, 0, 0, 0), (0, 73, 0)), ((15, .iinc 3 1, 3, 0, 0, 0, 0), (0, 0, 0)), ((18, .goto (-16), 3, 0, 0, 0, 0), (0, 0, 0))] (by decide +kernel) rfl ?_
    rw [e1]
    exact hx_pick [0, 1, 2, 3] (h2 c1)

/-- countMarks from 28 on -/
theorem hr129_28 {xs : List Int32} {n : Nat} {Q : hQ} {m : gx_M} {x2 x3 : Int} (r_x3 : 0 ≤ x3 ∧ x3 ≤ 40) (g1 : 0 ≤ (m 70 4) ∧ (m 70 4) ≤ 40)
    (h1 : (40 ≤ x3) → hxn xs n yp_m129 109 [(0, .inr (.inl 70)), (3, .inl 0)] [] (gx_u m 70 5 0) Q)
    (h2 : (x3 < 40) → (cYear 5 m x3) → ((m 7 (x3).toNat) = x2) → ((m 11 (x3).toNat) < 0) → hxn xs n yp_m129 28 [(0, .inr (.inl 70)), (1, .inr (.inl 5)), (2, .inl x2), (3, .inl (x3 + 1))] [] (gx_u m 70 4 ((m 70 4) + 1)) Q)
    (h3 : (x3 < 40) → (cYear 5 m x3) → ((m 7 (x3).toNat) = x2) → (0 ≤ (m 11 (x3).toNat)) → (9 < (m 11 (x3).toNat)) → hxn xs n yp_m129 28 [(0, .inr (.inl 70)), (1, .inr (.inl 5)), (2, .inl x2), (3, .inl (x3 + 1))] [] (gx_u m 70 4 ((m 70 4) + 1)) Q)
    (h4 : (x3 < 40) → (cYear 5 m x3) → ((m 7 (x3).toNat) = x2) → (0 ≤ (m 11 (x3).toNat)) → ((m 11 (x3).toNat) ≤ 9) → hxn xs n yp_m129 28 [(0, .inr (.inl 70)), (1, .inr (.inl 5)), (2, .inl x2), (3, .inl (x3 + 1))] [] (gx_u (gx_u m 70 4 ((m 70 4) + 1)) 73 (m 11 (x3).toNat).toNat (gx_w ((m 73 (m 11 (x3).toNat).toNat) + 1))) Q)
    (h5 : (x3 < 40) → (cYear 5 m x3) → ((m 7 (x3).toNat) ≠ x2) → hxn xs n yp_m129 28 [(0, .inr (.inl 70)), (1, .inr (.inl 5)), (2, .inl x2), (3, .inl (x3 + 1))] [] m Q)
    (h6 : (x3 < 40) → (¬ (cYear 5 m x3)) → hxn xs n yp_m129 28 [(0, .inr (.inl 70)), (1, .inr (.inl 5)), (2, .inl x2), (3, .inl (x3 + 1))] [] m Q) : hxn xs (n + 1) yp_m129 28 [(0, .inr (.inl 70)), (1, .inr (.inl 5)), (2, .inl x2), (3, .inl x3)] [] m Q := by
  refine hx_blks (npc := 31) (L' := [(0, .inr (.inl 70)), (1, .inr (.inl 5)), (2, .inl x2), (3, .inl x3)]) (st' := [.inl 40, .inl x3]) (m' := m) ((28, .iload_n 3, 1, 0, 0, 0, 0), (0, 0, 0)) [((29, .bipush 40, 2, 0, 0, 0, 0), (0, 0, 0))] (by decide +kernel) rfl ?_
  refine hx_cmp .ge 102 (by decide +kernel) (fun c1 => ?_) (fun c1 => ?_)
  · have c1 : 40 ≤ x3 := c1
    refine hx_blk (npc := 109) (L' := [(0, .inr (.inl 70)), (1, .inr (.inl 5)), (2, .inl x2), (3, .inl 0)]) (st' := []) (m' := (gx_u m 70 5 0)) [((102, .aload_n 0, 1, 0, 0, 0, 0), (0, 0, 0)), ((103, .iconst 0, 1, 0, 0, 0, 0), (0, 0, 0)), ((104, .putfield 101, 3, 6, 5, 2043, 0), (0, 70, 0)), ((107, .iconst 0, 1, 0, 0, 0, 0), (0, 0, 0)), ((108, .istore_n 3, 1, 0, 0, 0, 0), (0, 0, 0))] (by decide +kernel) rfl ?_
    exact hx_pick [0, 3] (h1 c1)
  · have c1 : x3 < 40 := by have h : ¬ (40 ≤ x3) := c1; omega
    refine hx_blk (npc := 36) (L' := [(0, .inr (.inl 70)), (1, .inr (.inl 5)), (2, .inl x2), (3, .inl x3)]) (st' := [.inl x3, .inr (.inl 5)]) (m' := m) [((34, .aload_n 1, 1, 0, 0, 0, 0), (0, 0, 0)), ((35, .iload_n 3, 1, 0, 0, 0, 0), (0, 0, 0))] (by decide +kernel) rfl ?_
    refine hx_call (E := (36, .invokevirtual 27, 3, 17, 0, 4031, 0)) (M' := yp_m17) [.inr (.inl 5), .inl x3] [] rfl (by decide +kernel) rfl ⟨rfl, rfl⟩ rfl rfl (hs17_5 (fun c2 => ?_) (fun c2 => ?_))
    · have c2 : cYear 5 m x3 := c2
      show hxn xs n yp_m129 39 [(0, .inr (.inl 70)), (1, .inr (.inl 5)), (2, .inl x2), (3, .inl x3)] [.inl 1] m Q
      refine hx_if .eq 96 (by decide +kernel) (fun c3 => ?_) (fun c3 => ?_)
      · have c3 : (1 : Int) = 0 := c3
        exfalso; omega
      · have c3 : (1 : Int) ≠ 0 := c3
        refine hx_blk (npc := 49) (L' := [(0, .inr (.inl 70)), (1, .inr (.inl 5)), (2, .inl x2), (3, .inl x3)]) (st' := [.inl x2, .inl (m 7 (x3).toNat)]) (m' := m) [((42, .aload_n 1, 1, 0, 0, 0, 0), (0, 0, 0)), ((43, .getfield 33, 3, 2, 6, 1093, 0), (1, 5, 7)), ((46, .iload_n 3, 1, 0, 0, 0, 0), (0, 0, 0)), ((47, .iaload, 1, 0, 0, 0, 0), (0, 7, 0)), ((48, .iload_n 2, 1, 0, 0, 0, 0), (0, 0, 0))] (by decide +kernel) rfl ?_
        refine hx_cmp .eq 55 (by decide +kernel) (fun c3 => ?_) (fun c3 => ?_)
        · have c3 : (m 7 (x3).toNat) = x2 := c3
          have e1 : gx_w ((m 70 4) + 1) = (m 70 4) + 1 := gx_w_id (by omega) (by omega)
          refine hx_blk (npc := 75) (L' := [(0, .inr (.inl 70)), (1, .inr (.inl 5)), (2, .inl x2), (3, .inl x3), (4, .inl (m 11 (x3).toNat))]) (st' := [.inl (m 11 (x3).toNat)]) (m' := (gx_u m 70 4 (gx_w ((m 70 4) + 1)))) [((55, .aload_n 0, 1, 0, 0, 0, 0), (0, 0, 0)), ((56, .dup, 1, 0, 0, 0, 0), (0, 0, 0)), ((57, .getfield 95, 3, 6, 4, 2042, 0), (0, 70, 0)), ((60, .iconst 1, 1, 0, 0, 0, 0), (0, 0, 0)), ((61, .iadd, 1, 0, 0, 0, 0), (0, 0, 0)), ((62, .putfield 95, 3, 6, 4, 2042, 0), (0, 70, 0)), ((65, .aload_n 1, 1, 0, 0, 0, 0), (0, 0, 0)), ((66, .getfield 98, 3, 2, 10, 1110, 0), (1, 5, 11)), ((69, .iload_n 3, 1, 0, 0, 0, 0), (0, 0, 0)), ((70, .iaload, 1, 0, 0, 0, 0), (0, 11, 0)), ((71, .istore 4, 2, 0, 0, 0, 0), (0, 0, 0)), ((73, .iload 4, 2, 0, 0, 0, 0), (0, 0, 0))] (by decide +kernel) rfl ?_
          rw [e1]
          refine hx_if .lt 96 (by decide +kernel) (fun c4 => ?_) (fun c4 => ?_)
          · have c4 : (m 11 (x3).toNat) < 0 := c4
            have e2 : gx_w (x3 + 1) = x3 + 1 := gx_w_id (by omega) (by omega)
            refine hx_blk (npc := 28) (L' := [(0, .inr (.inl 70)), (1, .inr (.inl 5)), (2, .inl x2), (3, .inl (gx_w (x3 + 1))), (4, .inl (m 11 (x3).toNat))]) (st' := []) (m' := (gx_u m 70 4 ((m 70 4) + 1))) [((96, .iinc 3 1, 3, 0, 0, 0, 0), (0, 0, 0)), ((99, .goto (-71), 3, 0, 0, 0, 0), (0, 0, 0))] (by decide +kernel) rfl ?_
            rw [e2]
            exact hx_pick [0, 1, 2, 3] (h2 c1 c2 c3 c4)
          · have c4 : 0 ≤ (m 11 (x3).toNat) := by have h : ¬ ((m 11 (x3).toNat) < 0) := c4; omega
            refine hx_blk (npc := 82) (L' := [(0, .inr (.inl 70)), (1, .inr (.inl 5)), (2, .inl x2), (3, .inl x3), (4, .inl (m 11 (x3).toNat))]) (st' := [.inl 9, .inl (m 11 (x3).toNat)]) (m' := (gx_u m 70 4 ((m 70 4) + 1))) [((78, .iload 4, 2, 0, 0, 0, 0), (0, 0, 0)), ((80, .bipush 9, 2, 0, 0, 0, 0), (0, 0, 0))] (by decide +kernel) rfl ?_
            refine hx_cmp .gt 96 (by decide +kernel) (fun c5 => ?_) (fun c5 => ?_)
            · have c5 : 9 < (m 11 (x3).toNat) := c5
              have e3 : gx_w (x3 + 1) = x3 + 1 := gx_w_id (by omega) (by omega)
              refine hx_blk (npc := 28) (L' := [(0, .inr (.inl 70)), (1, .inr (.inl 5)), (2, .inl x2), (3, .inl (gx_w (x3 + 1))), (4, .inl (m 11 (x3).toNat))]) (st' := []) (m' := (gx_u m 70 4 ((m 70 4) + 1))) [((96, .iinc 3 1, 3, 0, 0, 0, 0), (0, 0, 0)), ((99, .goto (-71), 3, 0, 0, 0, 0), (0, 0, 0))] (by decide +kernel) rfl ?_
              rw [e3]
              exact hx_pick [0, 1, 2, 3] (h3 c1 c2 c3 c4 c5)
            · have c5 : (m 11 (x3).toNat) ≤ 9 := by have h : ¬ (9 < (m 11 (x3).toNat)) := c5; omega
              have e4 : gx_w (x3 + 1) = x3 + 1 := gx_w_id (by omega) (by omega)
              refine hx_blk (npc := 28) (L' := [(0, .inr (.inl 70)), (1, .inr (.inl 5)), (2, .inl x2), (3, .inl (gx_w (x3 + 1))), (4, .inl (m 11 (x3).toNat))]) (st' := []) (m' := (gx_u (gx_u m 70 4 ((m 70 4) + 1)) 73 (m 11 (x3).toNat).toNat (gx_w ((m 73 (m 11 (x3).toNat).toNat) + 1)))) [((85, .aload_n 0, 1, 0, 0, 0, 0), (0, 0, 0)), ((86, .getfield 18, 3, 6, 3, 2041, 0), (1, 70, 73)), ((89, .iload 4, 2, 0, 0, 0, 0), (0, 0, 0)), ((91, .dup2, 1, 0, 0, 0, 0), (0, 0, 0)), ((92, .iaload, 1, 0, 0, 0, 0), (0, 73, 0)), ((93, .iconst 1, 1, 0, 0, 0, 0), (0, 0, 0)), ((94, .iadd, 1, 0, 0, 0, 0), (0, 0, 0)), ((95, .iastore, 1, 0, 0, 0, 0), (0, 73, 0)), ((96, .iinc 3 1, 3, 0, 0, 0, 0), (0, 0, 0)), ((99, .goto (-71), 3, 0, 0, 0, 0), (0, 0, 0))] (by decide +kernel) rfl ?_
              rw [e4]
              exact hx_pick [0, 1, 2, 3] (h4 c1 c2 c3 c4 c5)
        · have c3 : (m 7 (x3).toNat) ≠ x2 := c3
          have e5 : gx_w (x3 + 1) = x3 + 1 := gx_w_id (by omega) (by omega)
          refine hx_blk (npc := 28) (L' := [(0, .inr (.inl 70)), (1, .inr (.inl 5)), (2, .inl x2), (3, .inl (gx_w (x3 + 1)))]) (st' := []) (m' := m) [((52, .goto 44, 3, 0, 0, 0, 0), (0, 0, 0)), ((96, .iinc 3 1, 3, 0, 0, 0, 0), (0, 0, 0)), ((99, .goto (-71), 3, 0, 0, 0, 0), (0, 0, 0))] (by decide +kernel) rfl ?_
          rw [e5]
          exact hx_pick [0, 1, 2, 3] (h5 c1 c2 c3)
    · have c2 : ¬ (cYear 5 m x3) := c2
      show hxn xs n yp_m129 39 [(0, .inr (.inl 70)), (1, .inr (.inl 5)), (2, .inl x2), (3, .inl x3)] [.inl 0] m Q
      refine hx_if .eq 96 (by decide +kernel) (fun c3 => ?_) (fun c3 => ?_)
      · have c3 : (0 : Int) = 0 := c3
        have e6 : gx_w (x3 + 1) = x3 + 1 := gx_w_id (by omega) (by omega)
        refine hx_blk (npc := 28) (L' := [(0, .inr (.inl 70)), (1, .inr (.inl 5)), (2, .inl x2), (3, .inl (gx_w (x3 + 1)))]) (st' := []) (m' := m) [((96, .iinc 3 1, 3, 0, 0, 0, 0), (0, 0, 0)), ((99, .goto (-71), 3, 0, 0, 0, 0), (0, 0, 0))] (by decide +kernel) rfl ?_
        rw [e6]
        exact hx_pick [0, 1, 2, 3] (h6 c1 c2)
      · have c3 : (0 : Int) ≠ 0 := c3
        exfalso; omega

/-- countMarks from 109 on -/
theorem hr129_109 {xs : List Int32} {n : Nat} {Q : hQ} {m : gx_M} {x3 : Int} (r_x3 : 0 ≤ x3 ∧ x3 ≤ 10)
    (h1 : (9 < x3) → hxn xs n yp_m129 145 [(0, .inr (.inl 70)), (3, .inl 0)] [] (gx_u m 70 6 0) Q)
    (h2 : (x3 ≤ 9) → hxn xs n yp_m129 109 [(0, .inr (.inl 70)), (3, .inl (x3 + 1))] [] (gx_u m 70 5 (if (m 70 5) < (m 73 (x3).toNat) then (m 73 (x3).toNat) else (m 70 5))) Q) : hxn xs (n + 1) yp_m129 109 [(0, .inr (.inl 70)), (3, .inl x3)] [] m Q := by
  refine hx_blks (npc := 112) (L' := [(0, .inr (.inl 70)), (3, .inl x3)]) (st' := [.inl 9, .inl x3]) (m' := m) ((109, .iload_n 3, 1, 0, 0, 0, 0), (0, 0, 0)) [((110, .bipush 9, 2, 0, 0, 0, 0), (0, 0, 0))] (by decide +kernel) rfl ?_
  refine hx_cmp .gt 138 (by decide +kernel) (fun c1 => ?_) (fun c1 => ?_)
  · have c1 : 9 < x3 := c1
    refine hx_blk (npc := 145) (L' := [(0, .inr (.inl 70)), (3, .inl 0)]) (st' := []) (m' := (gx_u m 70 6 0)) [((138, .aload_n 0, 1, 0, 0, 0, 0), (0, 0, 0)), ((139, .iconst 0, 1, 0, 0, 0, 0), (0, 0, 0)), ((140, .putfield 109, 3, 6, 6, 2044, 0), (0, 70, 0)), ((143, .iconst 0, 1, 0, 0, 0, 0), (0, 0, 0)), ((144, .istore_n 3, 1, 0, 0, 0, 0), (0, 0, 0))] (by decide +kernel) rfl ?_
    exact hx_pick [0, 3] (h1 c1)
  · have c1 : x3 ≤ 9 := by have h : ¬ (9 < x3) := c1; omega
    have e1 : gx_w (x3 + 1) = x3 + 1 := gx_w_id (by omega) (by omega)
    refine hx_blk (npc := 109) (L' := [(0, .inr (.inl 70)), (3, .inl (gx_w (x3 + 1)))]) (st' := []) (m' := (gx_u m 70 5 (if (m 70 5) < (m 73 (x3).toNat) then (m 73 (x3).toNat) else (m 70 5)))) [((115, .aload_n 0, 1, 0, 0, 0, 0), (0, 0, 0)), ((116, .aload_n 0, 1, 0, 0, 0, 0), (0, 0, 0)), ((117, .getfield 101, 3, 6, 5, 2043, 0), (0, 70, 0)), ((120, .aload_n 0, 1, 0, 0, 0, 0), (0, 0, 0)), ((121, .getfield 18, 3, 6, 3, 2041, 0), (1, 70, 73)), ((124, .iload_n 3, 1, 0, 0, 0, 0), (0, 0, 0)), ((125, .iaload, 1, 0, 0, 0, 0), (0, 73, 0)), ((126, .invokestatic 104, 3, 1002, 2224, 4211, 1013002225), (0, 0, 0)), ((129, .putfield 101, 3, 6, 5, 2043, 0), (0, 70, 0)), ((132, .iinc 3 1, 3, 0, 0, 0, 0), (0, 0, 0)), ((135, .goto (-26), 3, 0, 0, 0, 0), (0, 0, 0))] (by decide +kernel) rfl ?_
    rw [e1]
    exact hx_pick [0, 3] (h2 c1)

/-- countMarks from 145 on -/
theorem hr129_145 {xs : List Int32} {n : Nat} {Q : hQ} {m : gx_M} {x3 : Int} (r_x3 : 0 ≤ x3 ∧ x3 ≤ 10) (g1 : 0 ≤ (m 70 6) ∧ (m 70 6) ≤ 10)
    (h1 : (9 < x3) → Q none m)
    (h2 : (x3 ≤ 9) → ((m 73 (x3).toNat) ≠ (m 70 5)) → hxn xs n yp_m129 145 [(0, .inr (.inl 70)), (3, .inl (x3 + 1))] [] m Q)
    (h3 : (x3 ≤ 9) → ((m 73 (x3).toNat) = (m 70 5)) → hxn xs n yp_m129 145 [(0, .inr (.inl 70)), (3, .inl (x3 + 1))] [] (gx_u m 70 6 ((m 70 6) + 1)) Q) : hxn xs (n + 1) yp_m129 145 [(0, .inr (.inl 70)), (3, .inl x3)] [] m Q := by
  refine hx_blks (npc := 148) (L' := [(0, .inr (.inl 70)), (3, .inl x3)]) (st' := [.inl 9, .inl x3]) (m' := m) ((145, .iload_n 3, 1, 0, 0, 0, 0), (0, 0, 0)) [((146, .bipush 9, 2, 0, 0, 0, 0), (0, 0, 0))] (by decide +kernel) rfl ?_
  refine hx_cmp .gt 180 (by decide +kernel) (fun c1 => ?_) (fun c1 => ?_)
  · have c1 : 9 < x3 := c1
    exact hx_ret0 (by decide +kernel) (h1 c1)
  · have c1 : x3 ≤ 9 := by have h : ¬ (9 < x3) := c1; omega
    refine hx_blk (npc := 161) (L' := [(0, .inr (.inl 70)), (3, .inl x3)]) (st' := [.inl (m 70 5), .inl (m 73 (x3).toNat)]) (m' := m) [((151, .aload_n 0, 1, 0, 0, 0, 0), (0, 0, 0)), ((152, .getfield 18, 3, 6, 3, 2041, 0), (1, 70, 73)), ((155, .iload_n 3, 1, 0, 0, 0, 0), (0, 0, 0)), ((156, .iaload, 1, 0, 0, 0, 0), (0, 73, 0)), ((157, .aload_n 0, 1, 0, 0, 0, 0), (0, 0, 0)), ((158, .getfield 101, 3, 6, 5, 2043, 0), (0, 70, 0))] (by decide +kernel) rfl ?_
    refine hx_cmp .ne 174 (by decide +kernel) (fun c2 => ?_) (fun c2 => ?_)
    · have c2 : (m 73 (x3).toNat) ≠ (m 70 5) := c2
      have e1 : gx_w (x3 + 1) = x3 + 1 := gx_w_id (by omega) (by omega)
      refine hx_blk (npc := 145) (L' := [(0, .inr (.inl 70)), (3, .inl (gx_w (x3 + 1)))]) (st' := []) (m' := m) [((174, .iinc 3 1, 3, 0, 0, 0, 0), (0, 0, 0)), ((177, .goto (-32), 3, 0, 0, 0, 0), (0, 0, 0))] (by decide +kernel) rfl ?_
      rw [e1]
      exact hx_pick [0, 3] (h2 c1 c2)
    · have c2 : (m 73 (x3).toNat) = (m 70 5) := by have h : ¬ ((m 73 (x3).toNat) ≠ (m 70 5)) := c2; omega
      have e2 : gx_w ((m 70 6) + 1) = (m 70 6) + 1 := gx_w_id (by omega) (by omega)
      have e3 : gx_w (x3 + 1) = x3 + 1 := gx_w_id (by omega) (by omega)
      refine hx_blk (npc := 145) (L' := [(0, .inr (.inl 70)), (3, .inl (gx_w (x3 + 1)))]) (st' := []) (m' := (gx_u m 70 6 (gx_w ((m 70 6) + 1)))) [((164, .aload_n 0, 1, 0, 0, 0, 0), (0, 0, 0)), ((165, .dup, 1, 0, 0, 0, 0), (0, 0, 0)), ((166, .getfield 109, 3, 6, 6, 2044, 0), (0, 70, 0)), ((169, .iconst 1, 1, 0, 0, 0, 0), (0, 0, 0)), ((170, .iadd, 1, 0, 0, 0, 0), (0, 0, 0)), ((171, .putfield 109, 3, 6, 6, 2044, 0), (0, 70, 0)), ((174, .iinc 3 1, 3, 0, 0, 0, 0), (0, 0, 0)), ((177, .goto (-32), 3, 0, 0, 0, 0), (0, 0, 0))] (by decide +kernel) rfl ?_
      rw [e2, e3]
      exact hx_pick [0, 3] (h3 c1 c2)

/-- fewestForged from 0 on -/
theorem hr128_0 {xs : List Int32} {n : Nat} {Q : hQ} {m : gx_M}
    (h1 : hxn xs n yp_m128 5 [(0, .inr (.inl 70)), (1, .inr (.inl 5)), (2, .inr (.inr 0)), (4, .inl 0)] [] m Q) : hxn xs (n + 1) yp_m128 0 [(0, .inr (.inl 70)), (1, .inr (.inl 5))] [] m Q := by
  refine hx_blks (npc := 5) (L' := [(0, .inr (.inl 70)), (1, .inr (.inl 5)), (2, .inr (.inr 0)), (4, .inl 0)]) (st' := []) (m' := m) ((0, .lconst 0, 1, 0, 0, 0, 0), (0, 0, 0)) [((1, .lstore_n 2, 1, 0, 0, 0, 0), (0, 0, 0)), ((2, .iconst 0, 1, 0, 0, 0, 0), (0, 0, 0)), ((3, .istore 4, 2, 0, 0, 0, 0), (0, 0, 0))] (by decide +kernel) rfl ?_
  exact hx_pick [0, 1, 2, 4] h1

/-- fewestForged from 5 on -/
theorem hr128_5 {xs : List Int32} {n : Nat} {Q : hQ} {m : gx_M} {x2 x4 : Int} (r_x4 : 0 ≤ x4 ∧ x4 ≤ 100)
    (h1 : (99 < x4) → Q (some (.inr (.inr x2))) m)
    (h2 : (x4 ≤ 99) → hxn xs n yp_m129 0 [(0, .inr (.inl 70)), (1, .inr (.inl 5)), (2, .inl x4)] [] m (fun r m' => hxn xs n yp_m128 19 [(0, .inr (.inl 70)), (1, .inr (.inl 5)), (2, .inr (.inr x2)), (4, .inl x4)] (hrs r ++ []) m' Q)) : hxn xs (n + 1) yp_m128 5 [(0, .inr (.inl 70)), (1, .inr (.inl 5)), (2, .inr (.inr x2)), (4, .inl x4)] [] m Q := by
  refine hx_blks (npc := 9) (L' := [(0, .inr (.inl 70)), (1, .inr (.inl 5)), (2, .inr (.inr x2)), (4, .inl x4)]) (st' := [.inl 99, .inl x4]) (m' := m) ((5, .iload 4, 2, 0, 0, 0, 0), (0, 0, 0)) [((7, .bipush 99, 2, 0, 0, 0, 0), (0, 0, 0))] (by decide +kernel) rfl ?_
  refine hx_cmp .gt 38 (by decide +kernel) (fun c1 => ?_) (fun c1 => ?_)
  · have c1 : 99 < x4 := c1
    refine hx_blk (npc := 39) (L' := [(0, .inr (.inl 70)), (1, .inr (.inl 5)), (2, .inr (.inr x2)), (4, .inl x4)]) (st' := [.inr (.inr x2)]) (m' := m) [((38, .lload_n 2, 1, 0, 0, 0, 0), (0, 0, 0))] (by decide +kernel) rfl ?_
    exact hx_retl (by decide +kernel) (h1 c1)
  · have c1 : x4 ≤ 99 := by have h : ¬ (99 < x4) := c1; omega
    refine hx_blk (npc := 16) (L' := [(0, .inr (.inl 70)), (1, .inr (.inl 5)), (2, .inr (.inr x2)), (4, .inl x4)]) (st' := [.inl x4, .inr (.inl 5), .inr (.inl 70)]) (m' := m) [((12, .aload_n 0, 1, 0, 0, 0, 0), (0, 0, 0)), ((13, .aload_n 1, 1, 0, 0, 0, 0), (0, 0, 0)), ((14, .iload 4, 2, 0, 0, 0, 0), (0, 0, 0))] (by decide +kernel) rfl ?_
    exact hx_call (E := (16, .invokevirtual 112, 3, 129, 0, 4207, 0)) (M' := yp_m129) [.inr (.inl 70), .inr (.inl 5), .inl x4] [] rfl (by decide +kernel) rfl ⟨rfl, rfl⟩ rfl rfl (hx_mono (h2 c1) (fun r m' h' => hx_pick [0, 1, 2, 4] h'))

/-- fewestForged from 19 on -/
theorem hr128_19 {xs : List Int32} {n : Nat} {Q : hQ} {m : gx_M} {x2 x4 : Int} (r_x4 : 0 ≤ x4 ∧ x4 ≤ 99)
    (h1 : hxn xs n yp_m128 5 [(0, .inr (.inl 70)), (1, .inr (.inl 5)), (2, .inr (.inr (hlw (x2 + (gx_w ((m 70 4) - (m 70 5))))))), (4, .inl (x4 + 1))] [] m Q) : hxn xs (n + 1) yp_m128 19 [(0, .inr (.inl 70)), (1, .inr (.inl 5)), (2, .inr (.inr x2)), (4, .inl x4)] [] m Q := by
  have e1 : gx_w (x4 + 1) = x4 + 1 := gx_w_id (by omega) (by omega)
  refine hx_blks (npc := 5) (L' := [(0, .inr (.inl 70)), (1, .inr (.inl 5)), (2, .inr (.inr (hlw (x2 + (gx_w ((m 70 4) - (m 70 5))))))), (4, .inl (gx_w (x4 + 1)))]) (st' := []) (m' := m) ((19, .lload_n 2, 1, 0, 0, 0, 0), (0, 0, 0)) [((20, .aload_n 0, 1, 0, 0, 0, 0), (0, 0, 0)), ((21, .getfield 95, 3, 6, 4, 2042, 0), (0, 70, 0)), ((24, .aload_n 0, 1, 0, 0, 0, 0), (0, 0, 0)), ((25, .getfield 101, 3, 6, 5, 2043, 0), (0, 70, 0)), ((28, .isub, 1, 0, 0, 0, 0), (0, 0, 0)), ((29, .i2l, 1, 0, 0, 0, 0), (0, 0, 0)), ((30, .ladd, 1, 0, 0, 0, 0), (0, 0, 0)), ((31, .lstore_n 2, 1, 0, 0, 0, 0), (0, 0, 0)), ((32, .iinc 4 1, 3, 0, 0, 0, 0), (0, 0, 0)), ((35, .goto (-30), 3, 0, 0, 0, 0), (0, 0, 0))] (by decide +kernel) rfl ?_
  rw [e1]
  exact hx_pick [0, 1, 2, 4] h1

/-- waysForged from 0 on -/
theorem hr130_0 {xs : List Int32} {n : Nat} {Q : hQ} {m : gx_M}
    (h1 : hxn xs n yp_m130 5 [(0, .inr (.inl 70)), (1, .inr (.inl 5)), (2, .inr (.inr 1)), (4, .inl 0)] [] m Q) : hxn xs (n + 1) yp_m130 0 [(0, .inr (.inl 70)), (1, .inr (.inl 5))] [] m Q := by
  refine hx_blks (npc := 5) (L' := [(0, .inr (.inl 70)), (1, .inr (.inl 5)), (2, .inr (.inr 1)), (4, .inl 0)]) (st' := []) (m' := m) ((0, .lconst 1, 1, 0, 0, 0, 0), (0, 0, 0)) [((1, .lstore_n 2, 1, 0, 0, 0, 0), (0, 0, 0)), ((2, .iconst 0, 1, 0, 0, 0, 0), (0, 0, 0)), ((3, .istore 4, 2, 0, 0, 0, 0), (0, 0, 0))] (by decide +kernel) rfl ?_
  exact hx_pick [0, 1, 2, 4] h1

/-- waysForged from 5 on -/
theorem hr130_5 {xs : List Int32} {n : Nat} {Q : hQ} {m : gx_M} {x2 x4 : Int} (r_x4 : 0 ≤ x4 ∧ x4 ≤ 100)
    (h1 : (99 < x4) → Q (some (.inr (.inr x2))) m)
    (h2 : (x4 ≤ 99) → hxn xs n yp_m129 0 [(0, .inr (.inl 70)), (1, .inr (.inl 5)), (2, .inl x4)] [] m (fun r m' => hxn xs n yp_m130 19 [(0, .inr (.inl 70)), (1, .inr (.inl 5)), (2, .inr (.inr x2)), (4, .inl x4)] (hrs r ++ []) m' Q)) : hxn xs (n + 1) yp_m130 5 [(0, .inr (.inl 70)), (1, .inr (.inl 5)), (2, .inr (.inr x2)), (4, .inl x4)] [] m Q := by
  refine hx_blks (npc := 9) (L' := [(0, .inr (.inl 70)), (1, .inr (.inl 5)), (2, .inr (.inr x2)), (4, .inl x4)]) (st' := [.inl 99, .inl x4]) (m' := m) ((5, .iload 4, 2, 0, 0, 0, 0), (0, 0, 0)) [((7, .bipush 99, 2, 0, 0, 0, 0), (0, 0, 0))] (by decide +kernel) rfl ?_
  refine hx_cmp .gt 40 (by decide +kernel) (fun c1 => ?_) (fun c1 => ?_)
  · have c1 : 99 < x4 := c1
    refine hx_blk (npc := 41) (L' := [(0, .inr (.inl 70)), (1, .inr (.inl 5)), (2, .inr (.inr x2)), (4, .inl x4)]) (st' := [.inr (.inr x2)]) (m' := m) [((40, .lload_n 2, 1, 0, 0, 0, 0), (0, 0, 0))] (by decide +kernel) rfl ?_
    exact hx_retl (by decide +kernel) (h1 c1)
  · have c1 : x4 ≤ 99 := by have h : ¬ (99 < x4) := c1; omega
    refine hx_blk (npc := 16) (L' := [(0, .inr (.inl 70)), (1, .inr (.inl 5)), (2, .inr (.inr x2)), (4, .inl x4)]) (st' := [.inl x4, .inr (.inl 5), .inr (.inl 70)]) (m' := m) [((12, .aload_n 0, 1, 0, 0, 0, 0), (0, 0, 0)), ((13, .aload_n 1, 1, 0, 0, 0, 0), (0, 0, 0)), ((14, .iload 4, 2, 0, 0, 0, 0), (0, 0, 0))] (by decide +kernel) rfl ?_
    exact hx_call (E := (16, .invokevirtual 112, 3, 129, 0, 4207, 0)) (M' := yp_m129) [.inr (.inl 70), .inr (.inl 5), .inl x4] [] rfl (by decide +kernel) rfl ⟨rfl, rfl⟩ rfl rfl (hx_mono (h2 c1) (fun r m' h' => hx_pick [0, 1, 2, 4] h'))

/-- waysForged from 19 on -/
theorem hr130_19 {xs : List Int32} {n : Nat} {Q : hQ} {m : gx_M} {x2 x4 : Int} (r_x4 : 0 ≤ x4 ∧ x4 ≤ 99)
    (h1 : ((m 70 4) ≤ 0) → hxn xs n yp_m130 5 [(0, .inr (.inl 70)), (1, .inr (.inl 5)), (2, .inr (.inr x2)), (4, .inl (x4 + 1))] [] m Q)
    (h2 : (0 < (m 70 4)) → hxn xs n yp_m130 5 [(0, .inr (.inl 70)), (1, .inr (.inl 5)), (2, .inr (.inr (hlw (x2 * (m 70 6))))), (4, .inl (x4 + 1))] [] m Q) : hxn xs (n + 1) yp_m130 19 [(0, .inr (.inl 70)), (1, .inr (.inl 5)), (2, .inr (.inr x2)), (4, .inl x4)] [] m Q := by
  refine hx_blks (npc := 23) (L' := [(0, .inr (.inl 70)), (1, .inr (.inl 5)), (2, .inr (.inr x2)), (4, .inl x4)]) (st' := [.inl (m 70 4)]) (m' := m) ((19, .aload_n 0, 1, 0, 0, 0, 0), (0, 0, 0)) [((20, .getfield 95, 3, 6, 4, 2042, 0), (0, 70, 0))] (by decide +kernel) rfl ?_
  refine hx_if .le 34 (by decide +kernel) (fun c1 => ?_) (fun c1 => ?_)
  · have c1 : (m 70 4) ≤ 0 := c1
    have e1 : gx_w (x4 + 1) = x4 + 1 := gx_w_id (by omega) (by omega)
    refine hx_blk (npc := 5) (L' := [(0, .inr (.inl 70)), (1, .inr (.inl 5)), (2, .inr (.inr x2)), (4, .inl (gx_w (x4 + 1)))]) (st' := []) (m' := m) [((34, .iinc 4 1, 3, 0, 0, 0, 0), (0, 0, 0)), ((37, .goto (-32), 3, 0, 0, 0, 0), (0, 0, 0))] (by decide +kernel) rfl ?_
    rw [e1]
    exact hx_pick [0, 1, 2, 4] (h1 c1)
  · have c1 : 0 < (m 70 4) := by have h : ¬ ((m 70 4) ≤ 0) := c1; omega
    have e2 : gx_w (x4 + 1) = x4 + 1 := gx_w_id (by omega) (by omega)
    refine hx_blk (npc := 5) (L' := [(0, .inr (.inl 70)), (1, .inr (.inl 5)), (2, .inr (.inr (hlw (x2 * (m 70 6))))), (4, .inl (gx_w (x4 + 1)))]) (st' := []) (m' := m) [((26, .lload_n 2, 1, 0, 0, 0, 0), (0, 0, 0)), ((27, .aload_n 0, 1, 0, 0, 0, 0), (0, 0, 0)), ((28, .getfield 109, 3, 6, 6, 2044, 0), (0, 70, 0)), ((31, .i2l, 1, 0, 0, 0, 0), (0, 0, 0)), ((32, .lmul, 1, 0, 0, 0, 0), (0, 0, 0)), ((33, .lstore_n 2, 1, 0, 0, 0, 0), (0, 0, 0)), ((34, .iinc 4 1, 3, 0, 0, 0, 0), (0, 0, 0)), ((37, .goto (-32), 3, 0, 0, 0, 0), (0, 0, 0))] (by decide +kernel) rfl ?_
    rw [e2]
    exact hx_pick [0, 1, 2, 4] (h2 c1)

/-- maybeForged from 0 on -/
theorem hr131_0 {xs : List Int32} {n : Nat} {Q : hQ} {m : gx_M} {x2 : Int}
    (h1 : (cYear 5 m x2) → hxn xs n yp_m129 0 [(0, .inr (.inl 70)), (1, .inr (.inl 5)), (2, .inl (m 7 (x2).toNat))] [] m (fun r m' => hxn xs n yp_m131 21 [(0, .inr (.inl 70)), (1, .inr (.inl 5)), (2, .inl x2)] (hrs r ++ []) m' Q))
    (h2 : (¬ (cYear 5 m x2)) → Q (some (.inl 0)) m) : hxn xs (n + 1) yp_m131 0 [(0, .inr (.inl 70)), (1, .inr (.inl 5)), (2, .inl x2)] [] m Q := by
  refine hx_blks (npc := 2) (L' := [(0, .inr (.inl 70)), (1, .inr (.inl 5)), (2, .inl x2)]) (st' := [.inl x2, .inr (.inl 5)]) (m' := m) ((0, .aload_n 1, 1, 0, 0, 0, 0), (0, 0, 0)) [((1, .iload_n 2, 1, 0, 0, 0, 0), (0, 0, 0))] (by decide +kernel) rfl ?_
  refine hx_call (E := (2, .invokevirtual 27, 3, 17, 0, 4031, 0)) (M' := yp_m17) [.inr (.inl 5), .inl x2] [] rfl (by decide +kernel) rfl ⟨rfl, rfl⟩ rfl rfl (hs17_5 (fun c1 => ?_) (fun c1 => ?_))
  · have c1 : cYear 5 m x2 := c1
    show hxn xs n yp_m131 5 [(0, .inr (.inl 70)), (1, .inr (.inl 5)), (2, .inl x2)] [.inl 1] m Q
    refine hx_if .ne 10 (by decide +kernel) (fun c2 => ?_) (fun c2 => ?_)
    · have c2 : (1 : Int) ≠ 0 := c2
      refine hx_blk (npc := 18) (L' := [(0, .inr (.inl 70)), (1, .inr (.inl 5)), (2, .inl x2)]) (st' := [.inl (m 7 (x2).toNat), .inr (.inl 5), .inr (.inl 70)]) (m' := m) [((10, .aload_n 0, 1, 0, 0, 0, 0), (0, 0, 0)), ((11, .aload_n 1, 1, 0, 0, 0, 0), (0, 0, 0)), ((12, .aload_n 1, 1, 0, 0, 0, 0), (0, 0, 0)), ((13, .getfield 33, 3, 2, 6, 1093, 0), (1, 5, 7)), ((16, .iload_n 2, 1, 0, 0, 0, 0), (0, 0, 0)), ((17, .iaload, 1, 0, 0, 0, 0), (0, 7, 0))] (by decide +kernel) rfl ?_
      exact hx_call (E := (18, .invokevirtual 112, 3, 129, 0, 4207, 0)) (M' := yp_m129) [.inr (.inl 70), .inr (.inl 5), .inl (m 7 (x2).toNat)] [] rfl (by decide +kernel) rfl ⟨rfl, rfl⟩ rfl rfl (hx_mono (h1 c1) (fun r m' h' => hx_pick [0, 1, 2] h'))
    · have c2 : (1 : Int) = 0 := by have h : ¬ ((1 : Int) ≠ 0) := c2; omega
      exfalso; omega
  · have c1 : ¬ (cYear 5 m x2) := c1
    show hxn xs n yp_m131 5 [(0, .inr (.inl 70)), (1, .inr (.inl 5)), (2, .inl x2)] [.inl 0] m Q
    refine hx_if .ne 10 (by decide +kernel) (fun c2 => ?_) (fun c2 => ?_)
    · have c2 : (0 : Int) ≠ 0 := c2
      exfalso; omega
    · have c2 : (0 : Int) = 0 := by have h : ¬ ((0 : Int) ≠ 0) := c2; omega
      refine hx_blk (npc := 9) (L' := [(0, .inr (.inl 70)), (1, .inr (.inl 5)), (2, .inl x2)]) (st' := [.inl 0]) (m' := m) [((8, .iconst 0, 1, 0, 0, 0, 0), (0, 0, 0))] (by decide +kernel) rfl ?_
      exact hx_reti (by decide +kernel) (h2 c1)

/-- maybeForged from 21 on -/
theorem hr131_21 {xs : List Int32} {n : Nat} {Q : hQ} {m : gx_M} {x2 : Int}
    (h1 : (1 < (m 70 6)) → Q (some (.inl 1)) m)
    (h2 : ((m 70 6) ≤ 1) → ((m 11 (x2).toNat) < 0) → Q (some (.inl 0)) m)
    (h3 : ((m 70 6) ≤ 1) → (0 ≤ (m 11 (x2).toNat)) → (9 < (m 11 (x2).toNat)) → Q (some (.inl 0)) m)
    (h4 : ((m 70 6) ≤ 1) → (0 ≤ (m 11 (x2).toNat)) → ((m 11 (x2).toNat) ≤ 9) → ((m 70 5) ≤ (m 73 (m 11 (x2).toNat).toNat)) → Q (some (.inl 0)) m)
    (h5 : ((m 70 6) ≤ 1) → (0 ≤ (m 11 (x2).toNat)) → ((m 11 (x2).toNat) ≤ 9) → ((m 73 (m 11 (x2).toNat).toNat) < (m 70 5)) → Q (some (.inl 1)) m) : hxn xs (n + 1) yp_m131 21 [(0, .inr (.inl 70)), (1, .inr (.inl 5)), (2, .inl x2)] [] m Q := by
  refine hx_blks (npc := 33) (L' := [(0, .inr (.inl 70)), (1, .inr (.inl 5)), (2, .inl x2), (3, .inl (m 11 (x2).toNat))]) (st' := [.inl 1, .inl (m 70 6)]) (m' := m) ((21, .aload_n 1, 1, 0, 0, 0, 0), (0, 0, 0)) [((22, .getfield 98, 3, 2, 10, 1110, 0), (1, 5, 11)), ((25, .iload_n 2, 1, 0, 0, 0, 0), (0, 0, 0)), ((26, .iaload, 1, 0, 0, 0, 0), (0, 11, 0)), ((27, .istore_n 3, 1, 0, 0, 0, 0), (0, 0, 0)), ((28, .aload_n 0, 1, 0, 0, 0, 0), (0, 0, 0)), ((29, .getfield 109, 3, 6, 6, 2044, 0), (0, 70, 0)), ((32, .iconst 1, 1, 0, 0, 0, 0), (0, 0, 0))] (by decide +kernel) rfl ?_
  refine hx_cmp .gt 59 (by decide +kernel) (fun c1 => ?_) (fun c1 => ?_)
  · have c1 : 1 < (m 70 6) := c1
    refine hx_blk (npc := 64) (L' := [(0, .inr (.inl 70)), (1, .inr (.inl 5)), (2, .inl x2), (3, .inl (m 11 (x2).toNat))]) (st' := [.inl 1]) (m' := m) [((59, .iconst 1, 1, 0, 0, 0, 0), (0, 0, 0)), ((60, .goto 4, 3, 0, 0, 0, 0), (0, 0, 0))] (by decide +kernel) rfl ?_
    exact hx_reti (by decide +kernel) (h1 c1)
  · have c1 : (m 70 6) ≤ 1 := by have h : ¬ (1 < (m 70 6)) := c1; omega
    refine hx_blk (npc := 37) (L' := [(0, .inr (.inl 70)), (1, .inr (.inl 5)), (2, .inl x2), (3, .inl (m 11 (x2).toNat))]) (st' := [.inl (m 11 (x2).toNat)]) (m' := m) [((36, .iload_n 3, 1, 0, 0, 0, 0), (0, 0, 0))] (by decide +kernel) rfl ?_
    refine hx_if .lt 63 (by decide +kernel) (fun c2 => ?_) (fun c2 => ?_)
    · have c2 : (m 11 (x2).toNat) < 0 := c2
      refine hx_blk (npc := 64) (L' := [(0, .inr (.inl 70)), (1, .inr (.inl 5)), (2, .inl x2), (3, .inl (m 11 (x2).toNat))]) (st' := [.inl 0]) (m' := m) [((63, .iconst 0, 1, 0, 0, 0, 0), (0, 0, 0))] (by decide +kernel) rfl ?_
      exact hx_reti (by decide +kernel) (h2 c1 c2)
    · have c2 : 0 ≤ (m 11 (x2).toNat) := by have h : ¬ ((m 11 (x2).toNat) < 0) := c2; omega
      refine hx_blk (npc := 43) (L' := [(0, .inr (.inl 70)), (1, .inr (.inl 5)), (2, .inl x2), (3, .inl (m 11 (x2).toNat))]) (st' := [.inl 9, .inl (m 11 (x2).toNat)]) (m' := m) [((40, .iload_n 3, 1, 0, 0, 0, 0), (0, 0, 0)), ((41, .bipush 9, 2, 0, 0, 0, 0), (0, 0, 0))] (by decide +kernel) rfl ?_
      refine hx_cmp .gt 63 (by decide +kernel) (fun c3 => ?_) (fun c3 => ?_)
      · have c3 : 9 < (m 11 (x2).toNat) := c3
        refine hx_blk (npc := 64) (L' := [(0, .inr (.inl 70)), (1, .inr (.inl 5)), (2, .inl x2), (3, .inl (m 11 (x2).toNat))]) (st' := [.inl 0]) (m' := m) [((63, .iconst 0, 1, 0, 0, 0, 0), (0, 0, 0))] (by decide +kernel) rfl ?_
        exact hx_reti (by decide +kernel) (h3 c1 c2 c3)
      · have c3 : (m 11 (x2).toNat) ≤ 9 := by have h : ¬ (9 < (m 11 (x2).toNat)) := c3; omega
        refine hx_blk (npc := 56) (L' := [(0, .inr (.inl 70)), (1, .inr (.inl 5)), (2, .inl x2), (3, .inl (m 11 (x2).toNat))]) (st' := [.inl (m 70 5), .inl (m 73 (m 11 (x2).toNat).toNat)]) (m' := m) [((46, .aload_n 0, 1, 0, 0, 0, 0), (0, 0, 0)), ((47, .getfield 18, 3, 6, 3, 2041, 0), (1, 70, 73)), ((50, .iload_n 3, 1, 0, 0, 0, 0), (0, 0, 0)), ((51, .iaload, 1, 0, 0, 0, 0), (0, 73, 0)), ((52, .aload_n 0, 1, 0, 0, 0, 0), (0, 0, 0)), ((53, .getfield 101, 3, 6, 5, 2043, 0), (0, 70, 0))] (by decide +kernel) rfl ?_
        refine hx_cmp .ge 63 (by decide +kernel) (fun c4 => ?_) (fun c4 => ?_)
        · have c4 : (m 70 5) ≤ (m 73 (m 11 (x2).toNat).toNat) := c4
          refine hx_blk (npc := 64) (L' := [(0, .inr (.inl 70)), (1, .inr (.inl 5)), (2, .inl x2), (3, .inl (m 11 (x2).toNat))]) (st' := [.inl 0]) (m' := m) [((63, .iconst 0, 1, 0, 0, 0, 0), (0, 0, 0))] (by decide +kernel) rfl ?_
          exact hx_reti (by decide +kernel) (h4 c1 c2 c3 c4)
        · have c4 : (m 73 (m 11 (x2).toNat).toNat) < (m 70 5) := by have h : ¬ ((m 70 5) ≤ (m 73 (m 11 (x2).toNat).toNat)) := c4; omega
          refine hx_blk (npc := 64) (L' := [(0, .inr (.inl 70)), (1, .inr (.inl 5)), (2, .inl x2), (3, .inl (m 11 (x2).toNat))]) (st' := [.inl 1]) (m' := m) [((59, .iconst 1, 1, 0, 0, 0, 0), (0, 0, 0)), ((60, .goto 4, 3, 0, 0, 0, 0), (0, 0, 0))] (by decide +kernel) rfl ?_
          exact hx_reti (by decide +kernel) (h5 c1 c2 c3 c4)

/-- forged from 0 on -/
theorem hr127_0 {xs : List Int32} {n : Nat} {Q : hQ} {m : gx_M} {x1 x2 : Int}
    (h1 : (x2 = 0) → hxn xs n yp_m128 0 [(0, .inr (.inl 70)), (1, .inr (.inl 5))] [] m (fun r m' => hxn xs n yp_m127 39 [] (hrs r ++ []) m' Q))
    (h2 : (x2 ≠ 0) → (x2 = 1) → hxn xs n yp_m130 0 [(0, .inr (.inl 70)), (1, .inr (.inl 5))] [] m (fun r m' => hxn xs n yp_m127 51 [] (hrs r ++ []) m' Q))
    (h3 : (x2 ≠ 0) → (x2 ≠ 1) → (x2 = 2) → (cYear 5 m x1) → hxn xs n yp_m131 0 [(0, .inr (.inl 70)), (1, .inr (.inl 5)), (2, .inl x1)] [] m (fun r m' => hxn xs n yp_m127 81 [] (hrs r ++ []) m' Q))
    (h4 : (x2 ≠ 0) → (x2 ≠ 1) → (x2 = 2) → (¬ (cYear 5 m x1)) → Q (some (.inr (.inr (-1)))) m)
    (h5 : (x2 ≠ 0) → (x2 ≠ 1) → (x2 ≠ 2) → Q (some (.inr (.inr (-1)))) m) : hxn xs (n + 1) yp_m127 0 [(0, .inr (.inl 0)), (1, .inl x1), (2, .inl x2)] [] m Q := by
  refine hx_blks (npc := 1) (L' := [(0, .inr (.inl 0)), (1, .inl x1), (2, .inl x2)]) (st' := [.inl x2]) (m' := m) ((0, .iload_n 2, 1, 0, 0, 0, 0), (0, 0, 0)) [] (by decide +kernel) rfl ?_
  refine hx_tsw 90 [(0, 28), (1, 40), (2, 52)] (by decide +kernel) ?_
  refine hsw_c (fun c1 => ?_) (fun c1 => ?_)
  · have c1 : x2 = 0 := c1
    refine hx_blk (npc := 36) (L' := [(0, .inr (.inl 0)), (1, .inl x1), (2, .inl x2)]) (st' := [.inr (.inl 5), .inr (.inl 70)]) (m' := m) [((28, .aload_n 0, 1, 0, 0, 0, 0), (0, 0, 0)), ((29, .getfield 67, 3, 9, 9, 2128, 0), (1, 0, 70)), ((32, .aload_n 0, 1, 0, 0, 0, 0), (0, 0, 0)), ((33, .getfield 26, 3, 9, 2, 2121, 0), (1, 0, 5))] (by decide +kernel) rfl ?_
    exact hx_call (E := (36, .invokevirtual 282, 3, 128, 0, 4203, 0)) (M' := yp_m128) [.inr (.inl 70), .inr (.inl 5)] [] rfl (by decide +kernel) rfl ⟨rfl, rfl⟩ rfl rfl (hx_mono (h1 c1) (fun r m' h' => hx_pick [] h'))
  refine hsw_c (fun c2 => ?_) (fun c2 => ?_)
  · have c2 : x2 = 1 := c2
    refine hx_blk (npc := 48) (L' := [(0, .inr (.inl 0)), (1, .inl x1), (2, .inl x2)]) (st' := [.inr (.inl 5), .inr (.inl 70)]) (m' := m) [((40, .aload_n 0, 1, 0, 0, 0, 0), (0, 0, 0)), ((41, .getfield 67, 3, 9, 9, 2128, 0), (1, 0, 70)), ((44, .aload_n 0, 1, 0, 0, 0, 0), (0, 0, 0)), ((45, .getfield 26, 3, 9, 2, 2121, 0), (1, 0, 5))] (by decide +kernel) rfl ?_
    exact hx_call (E := (48, .invokevirtual 286, 3, 130, 0, 4212, 0)) (M' := yp_m130) [.inr (.inl 70), .inr (.inl 5)] [] rfl (by decide +kernel) rfl ⟨rfl, rfl⟩ rfl rfl (hx_mono (h2 c1 c2) (fun r m' h' => hx_pick [] h'))
  refine hsw_c (fun c3 => ?_) (fun c3 => ?_)
  · have c3 : x2 = 2 := c3
    refine hx_blk (npc := 57) (L' := [(0, .inr (.inl 0)), (1, .inl x1), (2, .inl x2)]) (st' := [.inl x1, .inr (.inl 5)]) (m' := m) [((52, .aload_n 0, 1, 0, 0, 0, 0), (0, 0, 0)), ((53, .getfield 26, 3, 9, 2, 2121, 0), (1, 0, 5)), ((56, .iload_n 1, 1, 0, 0, 0, 0), (0, 0, 0))] (by decide +kernel) rfl ?_
    refine hx_call (E := (57, .invokevirtual 156, 3, 17, 0, 3202, 0)) (M' := yp_m17) [.inr (.inl 5), .inl x1] [] rfl (by decide +kernel) rfl ⟨rfl, rfl⟩ rfl rfl (hs17_5 (fun c4 => ?_) (fun c4 => ?_))
    · have c4 : cYear 5 m x1 := c4
      show hxn xs n yp_m127 60 [(0, .inr (.inl 0)), (1, .inl x1), (2, .inl x2)] [.inl 1] m Q
      refine hx_if .ne 69 (by decide +kernel) (fun c5 => ?_) (fun c5 => ?_)
      · have c5 : (1 : Int) ≠ 0 := c5
        refine hx_blk (npc := 78) (L' := [(0, .inr (.inl 0)), (1, .inl x1), (2, .inl x2)]) (st' := [.inl x1, .inr (.inl 5), .inr (.inl 70)]) (m' := m) [((69, .aload_n 0, 1, 0, 0, 0, 0), (0, 0, 0)), ((70, .getfield 67, 3, 9, 9, 2128, 0), (1, 0, 70)), ((73, .aload_n 0, 1, 0, 0, 0, 0), (0, 0, 0)), ((74, .getfield 26, 3, 9, 2, 2121, 0), (1, 0, 5)), ((77, .iload_n 1, 1, 0, 0, 0, 0), (0, 0, 0))] (by decide +kernel) rfl ?_
        exact hx_call (E := (78, .invokevirtual 291, 3, 131, 0, 4217, 0)) (M' := yp_m131) [.inr (.inl 70), .inr (.inl 5), .inl x1] [] rfl (by decide +kernel) rfl ⟨rfl, rfl⟩ rfl rfl (hx_mono (h3 c1 c2 c3 c4) (fun r m' h' => hx_pick [] h'))
      · have c5 : (1 : Int) = 0 := by have h : ¬ ((1 : Int) ≠ 0) := c5; omega
        exfalso; omega
    · have c4 : ¬ (cYear 5 m x1) := c4
      show hxn xs n yp_m127 60 [(0, .inr (.inl 0)), (1, .inl x1), (2, .inl x2)] [.inl 0] m Q
      refine hx_if .ne 69 (by decide +kernel) (fun c5 => ?_) (fun c5 => ?_)
      · have c5 : (0 : Int) ≠ 0 := c5
        exfalso; omega
      · have c5 : (0 : Int) = 0 := by have h : ¬ ((0 : Int) ≠ 0) := c5; omega
        refine hx_blk (npc := 89) (L' := [(0, .inr (.inl 0)), (1, .inl x1), (2, .inl x2)]) (st' := [.inr (.inr (-1))]) (m' := m) [((63, .ldc2_w 289, 3, 0, 0, 4216, (-1)), (0, 0, 0)), ((66, .goto 23, 3, 0, 0, 0, 0), (0, 0, 0))] (by decide +kernel) rfl ?_
        exact hx_retl (by decide +kernel) (h4 c1 c2 c3 c4)
  refine hsw_n ?_
  refine hx_blk (npc := 93) (L' := [(0, .inr (.inl 0)), (1, .inl x1), (2, .inl x2)]) (st' := [.inr (.inr (-1))]) (m' := m) [((90, .ldc2_w 289, 3, 0, 0, 4216, (-1)), (0, 0, 0))] (by decide +kernel) rfl ?_
  exact hx_retl (by decide +kernel) (h5 c1 c2 c3)

/-- forged from 39 on -/
theorem hr127_39 {xs : List Int32} {n : Nat} {Q : hQ} {m : gx_M} {s0 : Int}
    (h1 : Q (some (.inr (.inr s0))) m) : hxn xs (n + 1) yp_m127 39 [] [.inr (.inr s0)] m Q := by
  exact hx_retl (by decide +kernel) h1

/-- forged from 51 on -/
theorem hr127_51 {xs : List Int32} {n : Nat} {Q : hQ} {m : gx_M} {s0 : Int}
    (h1 : Q (some (.inr (.inr s0))) m) : hxn xs (n + 1) yp_m127 51 [] [.inr (.inr s0)] m Q := by
  exact hx_retl (by decide +kernel) h1

/-- forged from 81 on -/
theorem hr127_81 {xs : List Int32} {n : Nat} {Q : hQ} {m : gx_M} {s0 : Int}
    (h1 : (s0 = 0) → Q (some (.inr (.inr 0))) m)
    (h2 : (s0 ≠ 0) → Q (some (.inr (.inr 1))) m) : hxn xs (n + 1) yp_m127 81 [] [.inl s0] m Q := by
  refine hx_ifs .eq 88 (by decide +kernel) (fun c1 => ?_) (fun c1 => ?_)
  · have c1 : s0 = 0 := c1
    refine hx_blk (npc := 89) (L' := []) (st' := [.inr (.inr 0)]) (m' := m) [((88, .lconst 0, 1, 0, 0, 0, 0), (0, 0, 0))] (by decide +kernel) rfl ?_
    exact hx_retl (by decide +kernel) (h1 c1)
  · have c1 : s0 ≠ 0 := c1
    refine hx_blk (npc := 89) (L' := []) (st' := [.inr (.inr 1)]) (m' := m) [((84, .lconst 1, 1, 0, 0, 0, 0), (0, 0, 0)), ((85, .goto 4, 3, 0, 0, 0, 0), (0, 0, 0))] (by decide +kernel) rfl ?_
    exact hx_retl (by decide +kernel) (h2 c1)

