/-! factors, products, sums, pieces, parts, conditions as the class reads them: roads -/
/-- factor from 0 on -/
theorem hr33_0 {xs : List Int32} {n : Nat} {Q : hQ} {m : gx_M} {x2 : Int} (r_x2 : 0 ≤ x2 ∧ x2 ≤ 6)
    (h1 : (isDg (m 3 3)) → hxn xs n yp_m35 0 [(0, .inr (.inl 3)), (1, .inl 5)] [] m (fun r m' => hxn xs n yp_m33 17 [(1, .inr (.inl 3))] (hrs r ++ [.inl 0, .inr (.inl 53)]) m' Q))
    (h2 : (¬ (isDg (m 3 3))) → ((m 3 3) ≠ 91) → (isLt (m 3 3)) → hxn xs n yp_m30 0 [(0, .inr (.inl 3))] [] m (fun r m' => hxn xs n yp_m33 119 [(0, .inr (.inl 52)), (3, .inl (m 3 3))] (hrs r ++ []) m' Q))
    (h3 : (¬ (isDg (m 3 3))) → ((m 3 3) ≠ 91) → (¬ (isLt (m 3 3))) → hxn xs n yp_m28 0 [(0, .inr (.inl 3))] [] m (fun r m' => hxn xs n yp_m33 114 [] (hrs r ++ []) m' Q))
    (h4 : (¬ (isDg (m 3 3))) → ((m 3 3) = 91) → (x2 < 6) → hxn xs n yp_m30 0 [(0, .inr (.inl 3))] [] m (fun r m' => hxn xs n yp_m33 77 [(0, .inr (.inl 52)), (1, .inr (.inl 3)), (2, .inl x2)] (hrs r ++ []) m' Q))
    (h5 : (¬ (isDg (m 3 3))) → ((m 3 3) = 91) → (6 ≤ x2) → hxn xs n yp_m29 0 [(0, .inr (.inl 3)), (1, .inl 5), (2, .inl (m 3 2))] [] m (fun r m' => hxn xs n yp_m33 72 [] (hrs r ++ []) m' Q)) : hxn xs (n + 1) yp_m33 0 [(0, .inr (.inl 52)), (1, .inr (.inl 3)), (2, .inl x2)] [] m Q := by
  refine hx_blks (npc := 1) (L' := [(0, .inr (.inl 52)), (1, .inr (.inl 3)), (2, .inl x2)]) (st' := [.inr (.inl 3)]) (m' := m) ((0, .aload_n 1, 1, 0, 0, 0, 0), (0, 0, 0)) [] (by decide +kernel) rfl ?_
  refine hx_call (E := (1, .invokevirtual 91, 3, 34, 0, 3026, 0)) (M' := yp_m34) [.inr (.inl 3)] [] rfl (by decide +kernel) rfl ⟨rfl, rfl⟩ rfl rfl (hs34 (fun c1 => ?_) (fun c1 => ?_))
  · have c1 : isDg (m 3 3) := c1
    show hxn xs n yp_m33 4 [(0, .inr (.inl 52)), (1, .inr (.inl 3)), (2, .inl x2)] [.inl 1] m Q
    refine hx_if .eq 46 (by decide +kernel) (fun c2 => ?_) (fun c2 => ?_)
    · have c2 : (1 : Int) = 0 := c2
      exfalso; omega
    · have c2 : (1 : Int) ≠ 0 := c2
      refine hx_blk (npc := 14) (L' := [(0, .inr (.inl 52)), (1, .inr (.inl 3)), (2, .inl x2)]) (st' := [.inl 5, .inr (.inl 3), .inl 0, .inr (.inl 53)]) (m' := m) [((7, .aload_n 0, 1, 0, 0, 0, 0), (0, 0, 0)), ((8, .getfield 12, 3, 4, 0, 1226, 0), (1, 52, 53)), ((11, .iconst 0, 1, 0, 0, 0, 0), (0, 0, 0)), ((12, .aload_n 1, 1, 0, 0, 0, 0), (0, 0, 0)), ((13, .iconst 5, 1, 0, 0, 0, 0), (0, 0, 0))] (by decide +kernel) rfl ?_
      exact hx_call (E := (14, .invokevirtual 94, 3, 35, 0, 3030, 0)) (M' := yp_m35) [.inr (.inl 3), .inl 5] [.inl 0, .inr (.inl 53)] rfl (by decide +kernel) rfl ⟨rfl, rfl⟩ rfl rfl (hx_mono (h1 c1) (fun r m' h' => hx_pick [1] h'))
  · have c1 : ¬ (isDg (m 3 3)) := c1
    show hxn xs n yp_m33 4 [(0, .inr (.inl 52)), (1, .inr (.inl 3)), (2, .inl x2)] [.inl 0] m Q
    refine hx_if .eq 46 (by decide +kernel) (fun c2 => ?_) (fun c2 => ?_)
    · have c2 : (0 : Int) = 0 := c2
      refine hx_blk (npc := 54) (L' := [(0, .inr (.inl 52)), (1, .inr (.inl 3)), (2, .inl x2), (3, .inl (m 3 3))]) (st' := [.inl 91, .inl (m 3 3)]) (m' := m) [((46, .aload_n 1, 1, 0, 0, 0, 0), (0, 0, 0)), ((47, .getfield 39, 3, 1, 3, 1055, 0), (0, 3, 0)), ((50, .istore_n 3, 1, 0, 0, 0, 0), (0, 0, 0)), ((51, .iload_n 3, 1, 0, 0, 0, 0), (0, 0, 0)), ((52, .bipush 91, 2, 0, 0, 0, 0), (0, 0, 0))] (by decide +kernel) rfl ?_
      refine hx_cmp .ne 103 (by decide +kernel) (fun c2 => ?_) (fun c2 => ?_)
      · have c2 : (m 3 3) ≠ 91 := c2
        refine hx_blk (npc := 104) (L' := [(0, .inr (.inl 52)), (1, .inr (.inl 3)), (2, .inl x2), (3, .inl (m 3 3))]) (st' := [.inl (m 3 3)]) (m' := m) [((103, .iload_n 3, 1, 0, 0, 0, 0), (0, 0, 0))] (by decide +kernel) rfl ?_
        refine hx_call (E := (104, .invokestatic 98, 3, 38, 0, 3045, 0)) (M' := yp_m38) [.inl (m 3 3)] [] rfl (by decide +kernel) rfl ⟨rfl, rfl⟩ rfl rfl (hs38 (fun c3 => ?_) (fun c3 => ?_))
        · have c3 : isLt (m 3 3) := c3
          show hxn xs n yp_m33 107 [(0, .inr (.inl 52)), (1, .inr (.inl 3)), (2, .inl x2), (3, .inl (m 3 3))] [.inl 1] m Q
          refine hx_if .ne 115 (by decide +kernel) (fun c4 => ?_) (fun c4 => ?_)
          · have c4 : (1 : Int) ≠ 0 := c4
            refine hx_blk (npc := 116) (L' := [(0, .inr (.inl 52)), (1, .inr (.inl 3)), (2, .inl x2), (3, .inl (m 3 3))]) (st' := [.inr (.inl 3)]) (m' := m) [((115, .aload_n 1, 1, 0, 0, 0, 0), (0, 0, 0))] (by decide +kernel) rfl ?_
            exact hx_call (E := (116, .invokevirtual 52, 3, 30, 0, 3010, 0)) (M' := yp_m30) [.inr (.inl 3)] [] rfl (by decide +kernel) rfl ⟨rfl, rfl⟩ rfl rfl (hx_mono (h2 c1 c2 c3) (fun r m' h' => hx_pick [0, 3] h'))
          · have c4 : (1 : Int) = 0 := by have h : ¬ ((1 : Int) ≠ 0) := c4; omega
            exfalso; omega
        · have c3 : ¬ (isLt (m 3 3)) := c3
          show hxn xs n yp_m33 107 [(0, .inr (.inl 52)), (1, .inr (.inl 3)), (2, .inl x2), (3, .inl (m 3 3))] [.inl 0] m Q
          refine hx_if .ne 115 (by decide +kernel) (fun c4 => ?_) (fun c4 => ?_)
          · have c4 : (0 : Int) ≠ 0 := c4
            exfalso; omega
          · have c4 : (0 : Int) = 0 := by have h : ¬ ((0 : Int) ≠ 0) := c4; omega
            refine hx_blk (npc := 111) (L' := [(0, .inr (.inl 52)), (1, .inr (.inl 3)), (2, .inl x2), (3, .inl (m 3 3))]) (st' := [.inr (.inl 3)]) (m' := m) [((110, .aload_n 1, 1, 0, 0, 0, 0), (0, 0, 0))] (by decide +kernel) rfl ?_
            exact hx_call (E := (111, .invokevirtual 42, 3, 28, 0, 3001, 0)) (M' := yp_m28) [.inr (.inl 3)] [] rfl (by decide +kernel) rfl ⟨rfl, rfl⟩ rfl rfl (hx_mono (h3 c1 c2 c3) (fun r m' h' => hx_pick [] h'))
      · have c2 : (m 3 3) = 91 := by have h : ¬ ((m 3 3) ≠ 91) := c2; omega
        refine hx_blk (npc := 60) (L' := [(0, .inr (.inl 52)), (1, .inr (.inl 3)), (2, .inl x2), (3, .inl (m 3 3))]) (st' := [.inl 6, .inl x2]) (m' := m) [((57, .iload_n 2, 1, 0, 0, 0, 0), (0, 0, 0)), ((58, .bipush 6, 2, 0, 0, 0, 0), (0, 0, 0))] (by decide +kernel) rfl ?_
        refine hx_cmp .lt 73 (by decide +kernel) (fun c3 => ?_) (fun c3 => ?_)
        · have c3 : x2 < 6 := c3
          refine hx_blk (npc := 74) (L' := [(0, .inr (.inl 52)), (1, .inr (.inl 3)), (2, .inl x2), (3, .inl (m 3 3))]) (st' := [.inr (.inl 3)]) (m' := m) [((73, .aload_n 1, 1, 0, 0, 0, 0), (0, 0, 0))] (by decide +kernel) rfl ?_
          exact hx_call (E := (74, .invokevirtual 52, 3, 30, 0, 3010, 0)) (M' := yp_m30) [.inr (.inl 3)] [] rfl (by decide +kernel) rfl ⟨rfl, rfl⟩ rfl rfl (hx_mono (h4 c1 c2 c3) (fun r m' h' => hx_pick [0, 1, 2] h'))
        · have c3 : 6 ≤ x2 := by have h : ¬ (x2 < 6) := c3; omega
          refine hx_blk (npc := 69) (L' := [(0, .inr (.inl 52)), (1, .inr (.inl 3)), (2, .inl x2), (3, .inl (m 3 3))]) (st' := [.inl (m 3 2), .inl 5, .inr (.inl 3)]) (m' := m) [((63, .aload_n 1, 1, 0, 0, 0, 0), (0, 0, 0)), ((64, .iconst 5, 1, 0, 0, 0, 0), (0, 0, 0)), ((65, .aload_n 1, 1, 0, 0, 0, 0), (0, 0, 0)), ((66, .getfield 45, 3, 1, 2, 1053, 0), (0, 3, 0))] (by decide +kernel) rfl ?_
          exact hx_call (E := (69, .invokevirtual 48, 3, 29, 0, 3009, 0)) (M' := yp_m29) [.inr (.inl 3), .inl 5, .inl (m 3 2)] [] rfl (by decide +kernel) rfl ⟨rfl, rfl⟩ rfl rfl (hx_mono (h5 c1 c2 c3) (fun r m' h' => hx_pick [] h'))
    · have c2 : (0 : Int) ≠ 0 := c2
      exfalso; omega

/-- factor from 17 on -/
theorem hr33_17 {xs : List Int32} {n : Nat} {Q : hQ} {m : gx_M} {s1 s2 : Int}
    (h1 : hxn xs n yp_m36 0 [(0, .inr (.inl 53)), (1, .inl s1), (2, .inl s2)] [] m (fun r m' => hxn xs n yp_m33 20 [(1, .inr (.inl 3))] (hrs r ++ []) m' Q)) : hxn xs (n + 1) yp_m33 17 [(1, .inr (.inl 3))] [.inl s2, .inl s1, .inr (.inl 53)] m Q := by
  exact hx_calls (E := (17, .invokevirtual 68, 3, 36, 0, 3036, 0)) (M' := yp_m36) [.inr (.inl 53), .inl s1, .inl s2] [] rfl (by decide +kernel) rfl ⟨rfl, rfl⟩ rfl rfl (hx_mono h1 (fun r m' h' => hx_pick [1] h'))

/-- factor from 20 on -/
theorem hr33_20 {xs : List Int32} {n : Nat} {Q : hQ} {m : gx_M} {s0 : Int}
    (h1 : (isDg (m 3 3)) → hxn xs n yp_m29 0 [(0, .inr (.inl 3)), (1, .inl 2), (2, .inl (m 3 2))] [] m (fun r m' => hxn xs n yp_m33 37 [] (hrs r ++ []) m' Q))
    (h2 : (¬ (isDg (m 3 3))) → Q (some (.inl 1)) m) : hxn xs (n + 1) yp_m33 20 [(1, .inr (.inl 3))] [.inl s0] m Q := by
  refine hx_blks (npc := 22) (L' := [(1, .inr (.inl 3))]) (st' := [.inr (.inl 3)]) (m' := m) ((20, .pop, 1, 0, 0, 0, 0), (0, 0, 0)) [((21, .aload_n 1, 1, 0, 0, 0, 0), (0, 0, 0))] (by decide +kernel) rfl ?_
  refine hx_call (E := (22, .invokevirtual 91, 3, 34, 0, 3026, 0)) (M' := yp_m34) [.inr (.inl 3)] [] rfl (by decide +kernel) rfl ⟨rfl, rfl⟩ rfl rfl (hs34 (fun c1 => ?_) (fun c1 => ?_))
  · have c1 : isDg (m 3 3) := c1
    show hxn xs n yp_m33 25 [(1, .inr (.inl 3))] [.inl 1] m Q
    refine hx_if .eq 40 (by decide +kernel) (fun c2 => ?_) (fun c2 => ?_)
    · have c2 : (1 : Int) = 0 := c2
      exfalso; omega
    · have c2 : (1 : Int) ≠ 0 := c2
      refine hx_blk (npc := 34) (L' := [(1, .inr (.inl 3))]) (st' := [.inl (m 3 2), .inl 2, .inr (.inl 3)]) (m' := m) [((28, .aload_n 1, 1, 0, 0, 0, 0), (0, 0, 0)), ((29, .iconst 2, 1, 0, 0, 0, 0), (0, 0, 0)), ((30, .aload_n 1, 1, 0, 0, 0, 0), (0, 0, 0)), ((31, .getfield 45, 3, 1, 2, 1053, 0), (0, 3, 0))] (by decide +kernel) rfl ?_
      exact hx_call (E := (34, .invokevirtual 48, 3, 29, 0, 3009, 0)) (M' := yp_m29) [.inr (.inl 3), .inl 2, .inl (m 3 2)] [] rfl (by decide +kernel) rfl ⟨rfl, rfl⟩ rfl rfl (hx_mono (h1 c1) (fun r m' h' => hx_pick [] h'))
  · have c1 : ¬ (isDg (m 3 3)) := c1
    show hxn xs n yp_m33 25 [(1, .inr (.inl 3))] [.inl 0] m Q
    refine hx_if .eq 40 (by decide +kernel) (fun c2 => ?_) (fun c2 => ?_)
    · have c2 : (0 : Int) = 0 := c2
      refine hx_blk (npc := 45) (L' := [(1, .inr (.inl 3))]) (st' := [.inl 1]) (m' := m) [((40, .iconst 1, 1, 0, 0, 0, 0), (0, 0, 0)), ((41, .goto 4, 3, 0, 0, 0, 0), (0, 0, 0))] (by decide +kernel) rfl ?_
      exact hx_reti (by decide +kernel) (h2 c1)
    · have c2 : (0 : Int) ≠ 0 := c2
      exfalso; omega

/-- factor from 37 on -/
theorem hr33_37 {xs : List Int32} {n : Nat} {Q : hQ} {m : gx_M} {s0 : Int}
    (h1 : (s0 = 0) → Q (some (.inl 0)) m)
    (h2 : (s0 ≠ 0) → Q (some (.inl 1)) m) : hxn xs (n + 1) yp_m33 37 [] [.inl s0] m Q := by
  refine hx_ifs .eq 44 (by decide +kernel) (fun c1 => ?_) (fun c1 => ?_)
  · have c1 : s0 = 0 := c1
    refine hx_blk (npc := 45) (L' := []) (st' := [.inl 0]) (m' := m) [((44, .iconst 0, 1, 0, 0, 0, 0), (0, 0, 0))] (by decide +kernel) rfl ?_
    exact hx_reti (by decide +kernel) (h1 c1)
  · have c1 : s0 ≠ 0 := c1
    refine hx_blk (npc := 45) (L' := []) (st' := [.inl 1]) (m' := m) [((40, .iconst 1, 1, 0, 0, 0, 0), (0, 0, 0)), ((41, .goto 4, 3, 0, 0, 0, 0), (0, 0, 0))] (by decide +kernel) rfl ?_
    exact hx_reti (by decide +kernel) (h2 c1)

/-- factor from 72 on -/
theorem hr33_72 {xs : List Int32} {n : Nat} {Q : hQ} {m : gx_M} {s0 : Int}
    (h1 : Q (some (.inl s0)) m) : hxn xs (n + 1) yp_m33 72 [] [.inl s0] m Q := by
  exact hx_reti (by decide +kernel) h1

/-- factor from 77 on -/
theorem hr33_77 {xs : List Int32} {n : Nat} {Q : hQ} {m : gx_M} {x2 : Int} (r_x2 : 0 ≤ x2 ∧ x2 ≤ 6)
    (h1 : hxn xs n yp_m31 0 [(0, .inr (.inl 52)), (1, .inr (.inl 3)), (2, .inl (x2 + 1))] [] m (fun r m' => hxn xs n yp_m33 85 [(1, .inr (.inl 3))] (hrs r ++ []) m' Q)) : hxn xs (n + 1) yp_m33 77 [(0, .inr (.inl 52)), (1, .inr (.inl 3)), (2, .inl x2)] [] m Q := by
  have e1 : gx_w (x2 + 1) = x2 + 1 := gx_w_id (by omega) (by omega)
  refine hx_blks (npc := 82) (L' := [(0, .inr (.inl 52)), (1, .inr (.inl 3)), (2, .inl x2)]) (st' := [.inl (gx_w (x2 + 1)), .inr (.inl 3), .inr (.inl 52)]) (m' := m) ((77, .aload_n 0, 1, 0, 0, 0, 0), (0, 0, 0)) [((78, .aload_n 1, 1, 0, 0, 0, 0), (0, 0, 0)), ((79, .iload_n 2, 1, 0, 0, 0, 0), (0, 0, 0)), ((80, .iconst 1, 1, 0, 0, 0, 0), (0, 0, 0)), ((81, .iadd, 1, 0, 0, 0, 0), (0, 0, 0))] (by decide +kernel) rfl ?_
  rw [e1]
  exact hx_call (E := (82, .invokevirtual 55, 3, 31, 0, 3014, 0)) (M' := yp_m31) [.inr (.inl 52), .inr (.inl 3), .inl (x2 + 1)] [] rfl (by decide +kernel) rfl ⟨rfl, rfl⟩ rfl rfl (hx_mono h1 (fun r m' h' => hx_pick [1] h'))

/-- factor from 85 on -/
theorem hr33_85 {xs : List Int32} {n : Nat} {Q : hQ} {m : gx_M} {s0 : Int}
    (h1 : (s0 = 0) → Q (some (.inl 0)) m)
    (h2 : (s0 ≠ 0) → hxn xs n yp_m37 0 [(0, .inr (.inl 3)), (1, .inl 93)] [] m (fun r m' => hxn xs n yp_m33 94 [] (hrs r ++ []) m' Q)) : hxn xs (n + 1) yp_m33 85 [(1, .inr (.inl 3))] [.inl s0] m Q := by
  refine hx_ifs .eq 101 (by decide +kernel) (fun c1 => ?_) (fun c1 => ?_)
  · have c1 : s0 = 0 := c1
    refine hx_blk (npc := 102) (L' := [(1, .inr (.inl 3))]) (st' := [.inl 0]) (m' := m) [((101, .iconst 0, 1, 0, 0, 0, 0), (0, 0, 0))] (by decide +kernel) rfl ?_
    exact hx_reti (by decide +kernel) (h1 c1)
  · have c1 : s0 ≠ 0 := c1
    refine hx_blk (npc := 91) (L' := [(1, .inr (.inl 3))]) (st' := [.inl 93, .inr (.inl 3)]) (m' := m) [((88, .aload_n 1, 1, 0, 0, 0, 0), (0, 0, 0)), ((89, .bipush 93, 2, 0, 0, 0, 0), (0, 0, 0))] (by decide +kernel) rfl ?_
    exact hx_call (E := (91, .invokevirtual 35, 3, 37, 0, 3040, 0)) (M' := yp_m37) [.inr (.inl 3), .inl 93] [] rfl (by decide +kernel) rfl ⟨rfl, rfl⟩ rfl rfl (hx_mono (h2 c1) (fun r m' h' => hx_pick [] h'))

/-- factor from 94 on -/
theorem hr33_94 {xs : List Int32} {n : Nat} {Q : hQ} {m : gx_M} {s0 : Int}
    (h1 : (s0 = 0) → Q (some (.inl 0)) m)
    (h2 : (s0 ≠ 0) → Q (some (.inl 1)) m) : hxn xs (n + 1) yp_m33 94 [] [.inl s0] m Q := by
  refine hx_ifs .eq 101 (by decide +kernel) (fun c1 => ?_) (fun c1 => ?_)
  · have c1 : s0 = 0 := c1
    refine hx_blk (npc := 102) (L' := []) (st' := [.inl 0]) (m' := m) [((101, .iconst 0, 1, 0, 0, 0, 0), (0, 0, 0))] (by decide +kernel) rfl ?_
    exact hx_reti (by decide +kernel) (h1 c1)
  · have c1 : s0 ≠ 0 := c1
    refine hx_blk (npc := 102) (L' := []) (st' := [.inl 1]) (m' := m) [((97, .iconst 1, 1, 0, 0, 0, 0), (0, 0, 0)), ((98, .goto 4, 3, 0, 0, 0, 0), (0, 0, 0))] (by decide +kernel) rfl ?_
    exact hx_reti (by decide +kernel) (h2 c1)

/-- factor from 114 on -/
theorem hr33_114 {xs : List Int32} {n : Nat} {Q : hQ} {m : gx_M} {s0 : Int}
    (h1 : Q (some (.inl s0)) m) : hxn xs (n + 1) yp_m33 114 [] [.inl s0] m Q := by
  exact hx_reti (by decide +kernel) h1

/-- factor from 119 on -/
theorem hr33_119 {xs : List Int32} {n : Nat} {Q : hQ} {m : gx_M} {x3 : Int}
    (h1 : hxn xs n yp_m36 0 [(0, .inr (.inl 53)), (1, .inl 1), (2, .inl x3)] [] m (fun r m' => hxn xs n yp_m33 128 [] (hrs r ++ []) m' Q)) : hxn xs (n + 1) yp_m33 119 [(0, .inr (.inl 52)), (3, .inl x3)] [] m Q := by
  refine hx_blks (npc := 125) (L' := [(0, .inr (.inl 52)), (3, .inl x3)]) (st' := [.inl x3, .inl 1, .inr (.inl 53)]) (m' := m) ((119, .aload_n 0, 1, 0, 0, 0, 0), (0, 0, 0)) [((120, .getfield 12, 3, 4, 0, 1226, 0), (1, 52, 53)), ((123, .iconst 1, 1, 0, 0, 0, 0), (0, 0, 0)), ((124, .iload_n 3, 1, 0, 0, 0, 0), (0, 0, 0))] (by decide +kernel) rfl ?_
  exact hx_call (E := (125, .invokevirtual 68, 3, 36, 0, 3036, 0)) (M' := yp_m36) [.inr (.inl 53), .inl 1, .inl x3] [] rfl (by decide +kernel) rfl ⟨rfl, rfl⟩ rfl rfl (hx_mono h1 (fun r m' h' => hx_pick [] h'))

/-- factor from 128 on -/
theorem hr33_128 {xs : List Int32} {n : Nat} {Q : hQ} {m : gx_M} {s0 : Int}
    (h1 : Q (some (.inl 1)) m) : hxn xs (n + 1) yp_m33 128 [] [.inl s0] m Q := by
  refine hx_blks (npc := 130) (L' := []) (st' := [.inl 1]) (m' := m) ((128, .pop, 1, 0, 0, 0, 0), (0, 0, 0)) [((129, .iconst 1, 1, 0, 0, 0, 0), (0, 0, 0))] (by decide +kernel) rfl ?_
  exact hx_reti (by decide +kernel) h1

/-- product from 0 on -/
theorem hr32_0 {xs : List Int32} {n : Nat} {Q : hQ} {m : gx_M} {x2 : Int} (r_x2 : 0 ≤ x2 ∧ x2 ≤ 6)
    (h1 : hxn xs n yp_m33 0 [(0, .inr (.inl 52)), (1, .inr (.inl 3)), (2, .inl x2)] [] m (fun r m' => hxn xs n yp_m32 6 [(0, .inr (.inl 52)), (1, .inr (.inl 3)), (2, .inl x2)] (hrs r ++ []) m' Q)) : hxn xs (n + 1) yp_m32 0 [(0, .inr (.inl 52)), (1, .inr (.inl 3)), (2, .inl x2)] [] m Q := by
  refine hx_blks (npc := 3) (L' := [(0, .inr (.inl 52)), (1, .inr (.inl 3)), (2, .inl x2)]) (st' := [.inl x2, .inr (.inl 3), .inr (.inl 52)]) (m' := m) ((0, .aload_n 0, 1, 0, 0, 0, 0), (0, 0, 0)) [((1, .aload_n 1, 1, 0, 0, 0, 0), (0, 0, 0)), ((2, .iload_n 2, 1, 0, 0, 0, 0), (0, 0, 0))] (by decide +kernel) rfl ?_
  exact hx_call (E := (3, .invokevirtual 85, 3, 33, 0, 3022, 0)) (M' := yp_m33) [.inr (.inl 52), .inr (.inl 3), .inl x2] [] rfl (by decide +kernel) rfl ⟨rfl, rfl⟩ rfl rfl (hx_mono h1 (fun r m' h' => hx_pick [0, 1, 2] h'))

/-- product from 6 on -/
theorem hr32_6 {xs : List Int32} {n : Nat} {Q : hQ} {m : gx_M} {x2 s0 : Int} (r_x2 : 0 ≤ x2 ∧ x2 ≤ 6)
    (h1 : (s0 ≠ 0) → hxn xs n yp_m32 13 [(0, .inr (.inl 52)), (1, .inr (.inl 3)), (2, .inl x2), (3, .inl 0)] [] m Q)
    (h2 : (s0 = 0) → Q (some (.inl 0)) m) : hxn xs (n + 1) yp_m32 6 [(0, .inr (.inl 52)), (1, .inr (.inl 3)), (2, .inl x2)] [.inl s0] m Q := by
  refine hx_ifs .ne 11 (by decide +kernel) (fun c1 => ?_) (fun c1 => ?_)
  · have c1 : s0 ≠ 0 := c1
    refine hx_blk (npc := 13) (L' := [(0, .inr (.inl 52)), (1, .inr (.inl 3)), (2, .inl x2), (3, .inl 0)]) (st' := []) (m' := m) [((11, .iconst 0, 1, 0, 0, 0, 0), (0, 0, 0)), ((12, .istore_n 3, 1, 0, 0, 0, 0), (0, 0, 0))] (by decide +kernel) rfl ?_
    exact hx_pick [0, 1, 2, 3] (h1 c1)
  · have c1 : s0 = 0 := by have h : ¬ (s0 ≠ 0) := c1; omega
    refine hx_blk (npc := 10) (L' := [(0, .inr (.inl 52)), (1, .inr (.inl 3)), (2, .inl x2)]) (st' := [.inl 0]) (m' := m) [((9, .iconst 0, 1, 0, 0, 0, 0), (0, 0, 0))] (by decide +kernel) rfl ?_
    exact hx_reti (by decide +kernel) (h2 c1)

/-- product from 13 on -/
theorem hr32_13 {xs : List Int32} {n : Nat} {Q : hQ} {m : gx_M} {x2 x3 : Int} (r_x2 : 0 ≤ x2 ∧ x2 ≤ 6) (r_x3 : 0 ≤ x3 ∧ x3 ≤ 240)
    (h1 : (240 ≤ x3) → Q (some (.inl 1)) m)
    (h2 : (x3 < 240) → (isPr (m 3 3)) → hxn xs n yp_m30 0 [(0, .inr (.inl 3))] [] m (fun r m' => hxn xs n yp_m32 40 [(0, .inr (.inl 52)), (1, .inr (.inl 3)), (2, .inl x2), (3, .inl x3), (4, .inl (m 3 3))] (hrs r ++ []) m' Q))
    (h3 : (x3 < 240) → (¬ (isPr (m 3 3))) → Q (some (.inl 1)) m) : hxn xs (n + 1) yp_m32 13 [(0, .inr (.inl 52)), (1, .inr (.inl 3)), (2, .inl x2), (3, .inl x3)] [] m Q := by
  refine hx_blks (npc := 17) (L' := [(0, .inr (.inl 52)), (1, .inr (.inl 3)), (2, .inl x2), (3, .inl x3)]) (st' := [.inl 240, .inl x3]) (m' := m) ((13, .iload_n 3, 1, 0, 0, 0, 0), (0, 0, 0)) [((14, .sipush 240, 3, 0, 0, 0, 0), (0, 0, 0))] (by decide +kernel) rfl ?_
  refine hx_cmp .ge 68 (by decide +kernel) (fun c1 => ?_) (fun c1 => ?_)
  · have c1 : 240 ≤ x3 := c1
    refine hx_blk (npc := 69) (L' := [(0, .inr (.inl 52)), (1, .inr (.inl 3)), (2, .inl x2), (3, .inl x3)]) (st' := [.inl 1]) (m' := m) [((68, .iconst 1, 1, 0, 0, 0, 0), (0, 0, 0))] (by decide +kernel) rfl ?_
    exact hx_reti (by decide +kernel) (h1 c1)
  · have c1 : x3 < 240 := by have h : ¬ (240 ≤ x3) := c1; omega
    refine hx_blk (npc := 24) (L' := [(0, .inr (.inl 52)), (1, .inr (.inl 3)), (2, .inl x2), (3, .inl x3)]) (st' := [.inl (m 3 3)]) (m' := m) [((20, .aload_n 1, 1, 0, 0, 0, 0), (0, 0, 0)), ((21, .getfield 39, 3, 1, 3, 1055, 0), (0, 3, 0))] (by decide +kernel) rfl ?_
    refine hx_call (E := (24, .invokestatic 88, 3, 39, 0, 3048, 0)) (M' := yp_m39) [.inl (m 3 3)] [] rfl (by decide +kernel) rfl ⟨rfl, rfl⟩ rfl rfl (hs39 (fun c2 => ?_) (fun c2 => ?_))
    · have c2 : isPr (m 3 3) := c2
      show hxn xs n yp_m32 27 [(0, .inr (.inl 52)), (1, .inr (.inl 3)), (2, .inl x2), (3, .inl x3)] [.inl 1] m Q
      refine hx_if .eq 68 (by decide +kernel) (fun c3 => ?_) (fun c3 => ?_)
      · have c3 : (1 : Int) = 0 := c3
        exfalso; omega
      · have c3 : (1 : Int) ≠ 0 := c3
        refine hx_blk (npc := 37) (L' := [(0, .inr (.inl 52)), (1, .inr (.inl 3)), (2, .inl x2), (3, .inl x3), (4, .inl (m 3 3))]) (st' := [.inr (.inl 3)]) (m' := m) [((30, .aload_n 1, 1, 0, 0, 0, 0), (0, 0, 0)), ((31, .getfield 39, 3, 1, 3, 1055, 0), (0, 3, 0)), ((34, .istore 4, 2, 0, 0, 0, 0), (0, 0, 0)), ((36, .aload_n 1, 1, 0, 0, 0, 0), (0, 0, 0))] (by decide +kernel) rfl ?_
        exact hx_call (E := (37, .invokevirtual 52, 3, 30, 0, 3010, 0)) (M' := yp_m30) [.inr (.inl 3)] [] rfl (by decide +kernel) rfl ⟨rfl, rfl⟩ rfl rfl (hx_mono (h2 c1 c2) (fun r m' h' => hx_pick [0, 1, 2, 3, 4] h'))
    · have c2 : ¬ (isPr (m 3 3)) := c2
      show hxn xs n yp_m32 27 [(0, .inr (.inl 52)), (1, .inr (.inl 3)), (2, .inl x2), (3, .inl x3)] [.inl 0] m Q
      refine hx_if .eq 68 (by decide +kernel) (fun c3 => ?_) (fun c3 => ?_)
      · have c3 : (0 : Int) = 0 := c3
        refine hx_blk (npc := 69) (L' := [(0, .inr (.inl 52)), (1, .inr (.inl 3)), (2, .inl x2), (3, .inl x3)]) (st' := [.inl 1]) (m' := m) [((68, .iconst 1, 1, 0, 0, 0, 0), (0, 0, 0))] (by decide +kernel) rfl ?_
        exact hx_reti (by decide +kernel) (h3 c1 c2)
      · have c3 : (0 : Int) ≠ 0 := c3
        exfalso; omega

/-- product from 40 on -/
theorem hr32_40 {xs : List Int32} {n : Nat} {Q : hQ} {m : gx_M} {x2 x3 x4 : Int} (r_x2 : 0 ≤ x2 ∧ x2 ≤ 6) (r_x3 : 0 ≤ x3 ∧ x3 ≤ 240)
    (h1 : hxn xs n yp_m33 0 [(0, .inr (.inl 52)), (1, .inr (.inl 3)), (2, .inl x2)] [] m (fun r m' => hxn xs n yp_m32 46 [(0, .inr (.inl 52)), (1, .inr (.inl 3)), (2, .inl x2), (3, .inl x3), (4, .inl x4)] (hrs r ++ []) m' Q)) : hxn xs (n + 1) yp_m32 40 [(0, .inr (.inl 52)), (1, .inr (.inl 3)), (2, .inl x2), (3, .inl x3), (4, .inl x4)] [] m Q := by
  refine hx_blks (npc := 43) (L' := [(0, .inr (.inl 52)), (1, .inr (.inl 3)), (2, .inl x2), (3, .inl x3), (4, .inl x4)]) (st' := [.inl x2, .inr (.inl 3), .inr (.inl 52)]) (m' := m) ((40, .aload_n 0, 1, 0, 0, 0, 0), (0, 0, 0)) [((41, .aload_n 1, 1, 0, 0, 0, 0), (0, 0, 0)), ((42, .iload_n 2, 1, 0, 0, 0, 0), (0, 0, 0))] (by decide +kernel) rfl ?_
  exact hx_call (E := (43, .invokevirtual 85, 3, 33, 0, 3022, 0)) (M' := yp_m33) [.inr (.inl 52), .inr (.inl 3), .inl x2] [] rfl (by decide +kernel) rfl ⟨rfl, rfl⟩ rfl rfl (hx_mono h1 (fun r m' h' => hx_pick [0, 1, 2, 3, 4] h'))

/-- product from 46 on -/
theorem hr32_46 {xs : List Int32} {n : Nat} {Q : hQ} {m : gx_M} {x2 x3 x4 s0 : Int} (r_x2 : 0 ≤ x2 ∧ x2 ≤ 6) (r_x3 : 0 ≤ x3 ∧ x3 ≤ 240)
    (h1 : (s0 ≠ 0) → hxn xs n yp_m36 0 [(0, .inr (.inl 53)), (1, .inl x4), (2, .inl 0)] [] m (fun r m' => hxn xs n yp_m32 61 [(0, .inr (.inl 52)), (1, .inr (.inl 3)), (2, .inl x2), (3, .inl x3)] (hrs r ++ []) m' Q))
    (h2 : (s0 = 0) → Q (some (.inl 0)) m) : hxn xs (n + 1) yp_m32 46 [(0, .inr (.inl 52)), (1, .inr (.inl 3)), (2, .inl x2), (3, .inl x3), (4, .inl x4)] [.inl s0] m Q := by
  refine hx_ifs .ne 51 (by decide +kernel) (fun c1 => ?_) (fun c1 => ?_)
  · have c1 : s0 ≠ 0 := c1
    refine hx_blk (npc := 58) (L' := [(0, .inr (.inl 52)), (1, .inr (.inl 3)), (2, .inl x2), (3, .inl x3), (4, .inl x4)]) (st' := [.inl 0, .inl x4, .inr (.inl 53)]) (m' := m) [((51, .aload_n 0, 1, 0, 0, 0, 0), (0, 0, 0)), ((52, .getfield 12, 3, 4, 0, 1226, 0), (1, 52, 53)), ((55, .iload 4, 2, 0, 0, 0, 0), (0, 0, 0)), ((57, .iconst 0, 1, 0, 0, 0, 0), (0, 0, 0))] (by decide +kernel) rfl ?_
    exact hx_call (E := (58, .invokevirtual 68, 3, 36, 0, 3036, 0)) (M' := yp_m36) [.inr (.inl 53), .inl x4, .inl 0] [] rfl (by decide +kernel) rfl ⟨rfl, rfl⟩ rfl rfl (hx_mono (h1 c1) (fun r m' h' => hx_pick [0, 1, 2, 3] h'))
  · have c1 : s0 = 0 := by have h : ¬ (s0 ≠ 0) := c1; omega
    refine hx_blk (npc := 50) (L' := [(0, .inr (.inl 52)), (1, .inr (.inl 3)), (2, .inl x2), (3, .inl x3), (4, .inl x4)]) (st' := [.inl 0]) (m' := m) [((49, .iconst 0, 1, 0, 0, 0, 0), (0, 0, 0))] (by decide +kernel) rfl ?_
    exact hx_reti (by decide +kernel) (h2 c1)

/-- product from 61 on -/
theorem hr32_61 {xs : List Int32} {n : Nat} {Q : hQ} {m : gx_M} {x2 x3 s0 : Int} (r_x2 : 0 ≤ x2 ∧ x2 ≤ 6) (r_x3 : 0 ≤ x3 ∧ x3 ≤ 240)
    (h1 : hxn xs n yp_m32 13 [(0, .inr (.inl 52)), (1, .inr (.inl 3)), (2, .inl x2), (3, .inl (x3 + 1))] [] m Q) : hxn xs (n + 1) yp_m32 61 [(0, .inr (.inl 52)), (1, .inr (.inl 3)), (2, .inl x2), (3, .inl x3)] [.inl s0] m Q := by
  have e1 : gx_w (x3 + 1) = x3 + 1 := gx_w_id (by omega) (by omega)
  refine hx_blks (npc := 13) (L' := [(0, .inr (.inl 52)), (1, .inr (.inl 3)), (2, .inl x2), (3, .inl (gx_w (x3 + 1)))]) (st' := []) (m' := m) ((61, .pop, 1, 0, 0, 0, 0), (0, 0, 0)) [((62, .iinc 3 1, 3, 0, 0, 0, 0), (0, 0, 0)), ((65, .goto (-52), 3, 0, 0, 0, 0), (0, 0, 0))] (by decide +kernel) rfl ?_
  rw [e1]
  exact hx_pick [0, 1, 2, 3] h1

/-- sum from 0 on -/
theorem hr31_0 {xs : List Int32} {n : Nat} {Q : hQ} {m : gx_M} {x2 : Int} (r_x2 : 0 ≤ x2 ∧ x2 ≤ 6)
    (h1 : hxn xs n yp_m32 0 [(0, .inr (.inl 52)), (1, .inr (.inl 3)), (2, .inl x2)] [] m (fun r m' => hxn xs n yp_m31 6 [(0, .inr (.inl 52)), (1, .inr (.inl 3)), (2, .inl x2)] (hrs r ++ []) m' Q)) : hxn xs (n + 1) yp_m31 0 [(0, .inr (.inl 52)), (1, .inr (.inl 3)), (2, .inl x2)] [] m Q := by
  refine hx_blks (npc := 3) (L' := [(0, .inr (.inl 52)), (1, .inr (.inl 3)), (2, .inl x2)]) (st' := [.inl x2, .inr (.inl 3), .inr (.inl 52)]) (m' := m) ((0, .aload_n 0, 1, 0, 0, 0, 0), (0, 0, 0)) [((1, .aload_n 1, 1, 0, 0, 0, 0), (0, 0, 0)), ((2, .iload_n 2, 1, 0, 0, 0, 0), (0, 0, 0))] (by decide +kernel) rfl ?_
  exact hx_call (E := (3, .invokevirtual 79, 3, 32, 0, 3018, 0)) (M' := yp_m32) [.inr (.inl 52), .inr (.inl 3), .inl x2] [] rfl (by decide +kernel) rfl ⟨rfl, rfl⟩ rfl rfl (hx_mono h1 (fun r m' h' => hx_pick [0, 1, 2] h'))

/-- sum from 6 on -/
theorem hr31_6 {xs : List Int32} {n : Nat} {Q : hQ} {m : gx_M} {x2 s0 : Int} (r_x2 : 0 ≤ x2 ∧ x2 ≤ 6)
    (h1 : (s0 ≠ 0) → hxn xs n yp_m31 13 [(0, .inr (.inl 52)), (1, .inr (.inl 3)), (2, .inl x2), (3, .inl 0)] [] m Q)
    (h2 : (s0 = 0) → Q (some (.inl 0)) m) : hxn xs (n + 1) yp_m31 6 [(0, .inr (.inl 52)), (1, .inr (.inl 3)), (2, .inl x2)] [.inl s0] m Q := by
  refine hx_ifs .ne 11 (by decide +kernel) (fun c1 => ?_) (fun c1 => ?_)
  · have c1 : s0 ≠ 0 := c1
    refine hx_blk (npc := 13) (L' := [(0, .inr (.inl 52)), (1, .inr (.inl 3)), (2, .inl x2), (3, .inl 0)]) (st' := []) (m' := m) [((11, .iconst 0, 1, 0, 0, 0, 0), (0, 0, 0)), ((12, .istore_n 3, 1, 0, 0, 0, 0), (0, 0, 0))] (by decide +kernel) rfl ?_
    exact hx_pick [0, 1, 2, 3] (h1 c1)
  · have c1 : s0 = 0 := by have h : ¬ (s0 ≠ 0) := c1; omega
    refine hx_blk (npc := 10) (L' := [(0, .inr (.inl 52)), (1, .inr (.inl 3)), (2, .inl x2)]) (st' := [.inl 0]) (m' := m) [((9, .iconst 0, 1, 0, 0, 0, 0), (0, 0, 0))] (by decide +kernel) rfl ?_
    exact hx_reti (by decide +kernel) (h2 c1)

/-- sum from 13 on -/
theorem hr31_13 {xs : List Int32} {n : Nat} {Q : hQ} {m : gx_M} {x2 x3 : Int} (r_x2 : 0 ≤ x2 ∧ x2 ≤ 6) (r_x3 : 0 ≤ x3 ∧ x3 ≤ 240)
    (h1 : (240 ≤ x3) → Q (some (.inl 1)) m)
    (h2 : (x3 < 240) → (isSm (m 3 3)) → hxn xs n yp_m30 0 [(0, .inr (.inl 3))] [] m (fun r m' => hxn xs n yp_m31 40 [(0, .inr (.inl 52)), (1, .inr (.inl 3)), (2, .inl x2), (3, .inl x3), (4, .inl (m 3 3))] (hrs r ++ []) m' Q))
    (h3 : (x3 < 240) → (¬ (isSm (m 3 3))) → Q (some (.inl 1)) m) : hxn xs (n + 1) yp_m31 13 [(0, .inr (.inl 52)), (1, .inr (.inl 3)), (2, .inl x2), (3, .inl x3)] [] m Q := by
  refine hx_blks (npc := 17) (L' := [(0, .inr (.inl 52)), (1, .inr (.inl 3)), (2, .inl x2), (3, .inl x3)]) (st' := [.inl 240, .inl x3]) (m' := m) ((13, .iload_n 3, 1, 0, 0, 0, 0), (0, 0, 0)) [((14, .sipush 240, 3, 0, 0, 0, 0), (0, 0, 0))] (by decide +kernel) rfl ?_
  refine hx_cmp .ge 68 (by decide +kernel) (fun c1 => ?_) (fun c1 => ?_)
  · have c1 : 240 ≤ x3 := c1
    refine hx_blk (npc := 69) (L' := [(0, .inr (.inl 52)), (1, .inr (.inl 3)), (2, .inl x2), (3, .inl x3)]) (st' := [.inl 1]) (m' := m) [((68, .iconst 1, 1, 0, 0, 0, 0), (0, 0, 0))] (by decide +kernel) rfl ?_
    exact hx_reti (by decide +kernel) (h1 c1)
  · have c1 : x3 < 240 := by have h : ¬ (240 ≤ x3) := c1; omega
    refine hx_blk (npc := 24) (L' := [(0, .inr (.inl 52)), (1, .inr (.inl 3)), (2, .inl x2), (3, .inl x3)]) (st' := [.inl (m 3 3)]) (m' := m) [((20, .aload_n 1, 1, 0, 0, 0, 0), (0, 0, 0)), ((21, .getfield 39, 3, 1, 3, 1055, 0), (0, 3, 0))] (by decide +kernel) rfl ?_
    refine hx_call (E := (24, .invokestatic 82, 3, 40, 0, 3051, 0)) (M' := yp_m40) [.inl (m 3 3)] [] rfl (by decide +kernel) rfl ⟨rfl, rfl⟩ rfl rfl (hs40 (fun c2 => ?_) (fun c2 => ?_))
    · have c2 : isSm (m 3 3) := c2
      show hxn xs n yp_m31 27 [(0, .inr (.inl 52)), (1, .inr (.inl 3)), (2, .inl x2), (3, .inl x3)] [.inl 1] m Q
      refine hx_if .eq 68 (by decide +kernel) (fun c3 => ?_) (fun c3 => ?_)
      · have c3 : (1 : Int) = 0 := c3
        exfalso; omega
      · have c3 : (1 : Int) ≠ 0 := c3
        refine hx_blk (npc := 37) (L' := [(0, .inr (.inl 52)), (1, .inr (.inl 3)), (2, .inl x2), (3, .inl x3), (4, .inl (m 3 3))]) (st' := [.inr (.inl 3)]) (m' := m) [((30, .aload_n 1, 1, 0, 0, 0, 0), (0, 0, 0)), ((31, .getfield 39, 3, 1, 3, 1055, 0), (0, 3, 0)), ((34, .istore 4, 2, 0, 0, 0, 0), (0, 0, 0)), ((36, .aload_n 1, 1, 0, 0, 0, 0), (0, 0, 0))] (by decide +kernel) rfl ?_
        exact hx_call (E := (37, .invokevirtual 52, 3, 30, 0, 3010, 0)) (M' := yp_m30) [.inr (.inl 3)] [] rfl (by decide +kernel) rfl ⟨rfl, rfl⟩ rfl rfl (hx_mono (h2 c1 c2) (fun r m' h' => hx_pick [0, 1, 2, 3, 4] h'))
    · have c2 : ¬ (isSm (m 3 3)) := c2
      show hxn xs n yp_m31 27 [(0, .inr (.inl 52)), (1, .inr (.inl 3)), (2, .inl x2), (3, .inl x3)] [.inl 0] m Q
      refine hx_if .eq 68 (by decide +kernel) (fun c3 => ?_) (fun c3 => ?_)
      · have c3 : (0 : Int) = 0 := c3
        refine hx_blk (npc := 69) (L' := [(0, .inr (.inl 52)), (1, .inr (.inl 3)), (2, .inl x2), (3, .inl x3)]) (st' := [.inl 1]) (m' := m) [((68, .iconst 1, 1, 0, 0, 0, 0), (0, 0, 0))] (by decide +kernel) rfl ?_
        exact hx_reti (by decide +kernel) (h3 c1 c2)
      · have c3 : (0 : Int) ≠ 0 := c3
        exfalso; omega

/-- sum from 40 on -/
theorem hr31_40 {xs : List Int32} {n : Nat} {Q : hQ} {m : gx_M} {x2 x3 x4 : Int} (r_x2 : 0 ≤ x2 ∧ x2 ≤ 6) (r_x3 : 0 ≤ x3 ∧ x3 ≤ 240)
    (h1 : hxn xs n yp_m32 0 [(0, .inr (.inl 52)), (1, .inr (.inl 3)), (2, .inl x2)] [] m (fun r m' => hxn xs n yp_m31 46 [(0, .inr (.inl 52)), (1, .inr (.inl 3)), (2, .inl x2), (3, .inl x3), (4, .inl x4)] (hrs r ++ []) m' Q)) : hxn xs (n + 1) yp_m31 40 [(0, .inr (.inl 52)), (1, .inr (.inl 3)), (2, .inl x2), (3, .inl x3), (4, .inl x4)] [] m Q := by
  refine hx_blks (npc := 43) (L' := [(0, .inr (.inl 52)), (1, .inr (.inl 3)), (2, .inl x2), (3, .inl x3), (4, .inl x4)]) (st' := [.inl x2, .inr (.inl 3), .inr (.inl 52)]) (m' := m) ((40, .aload_n 0, 1, 0, 0, 0, 0), (0, 0, 0)) [((41, .aload_n 1, 1, 0, 0, 0, 0), (0, 0, 0)), ((42, .iload_n 2, 1, 0, 0, 0, 0), (0, 0, 0))] (by decide +kernel) rfl ?_
  exact hx_call (E := (43, .invokevirtual 79, 3, 32, 0, 3018, 0)) (M' := yp_m32) [.inr (.inl 52), .inr (.inl 3), .inl x2] [] rfl (by decide +kernel) rfl ⟨rfl, rfl⟩ rfl rfl (hx_mono h1 (fun r m' h' => hx_pick [0, 1, 2, 3, 4] h'))

/-- sum from 46 on -/
theorem hr31_46 {xs : List Int32} {n : Nat} {Q : hQ} {m : gx_M} {x2 x3 x4 s0 : Int} (r_x2 : 0 ≤ x2 ∧ x2 ≤ 6) (r_x3 : 0 ≤ x3 ∧ x3 ≤ 240)
    (h1 : (s0 ≠ 0) → hxn xs n yp_m36 0 [(0, .inr (.inl 53)), (1, .inl x4), (2, .inl 0)] [] m (fun r m' => hxn xs n yp_m31 61 [(0, .inr (.inl 52)), (1, .inr (.inl 3)), (2, .inl x2), (3, .inl x3)] (hrs r ++ []) m' Q))
    (h2 : (s0 = 0) → Q (some (.inl 0)) m) : hxn xs (n + 1) yp_m31 46 [(0, .inr (.inl 52)), (1, .inr (.inl 3)), (2, .inl x2), (3, .inl x3), (4, .inl x4)] [.inl s0] m Q := by
  refine hx_ifs .ne 51 (by decide +kernel) (fun c1 => ?_) (fun c1 => ?_)
  · have c1 : s0 ≠ 0 := c1
    refine hx_blk (npc := 58) (L' := [(0, .inr (.inl 52)), (1, .inr (.inl 3)), (2, .inl x2), (3, .inl x3), (4, .inl x4)]) (st' := [.inl 0, .inl x4, .inr (.inl 53)]) (m' := m) [((51, .aload_n 0, 1, 0, 0, 0, 0), (0, 0, 0)), ((52, .getfield 12, 3, 4, 0, 1226, 0), (1, 52, 53)), ((55, .iload 4, 2, 0, 0, 0, 0), (0, 0, 0)), ((57, .iconst 0, 1, 0, 0, 0, 0), (0, 0, 0))] (by decide +kernel) rfl ?_
    exact hx_call (E := (58, .invokevirtual 68, 3, 36, 0, 3036, 0)) (M' := yp_m36) [.inr (.inl 53), .inl x4, .inl 0] [] rfl (by decide +kernel) rfl ⟨rfl, rfl⟩ rfl rfl (hx_mono (h1 c1) (fun r m' h' => hx_pick [0, 1, 2, 3] h'))
  · have c1 : s0 = 0 := by have h : ¬ (s0 ≠ 0) := c1; omega
    refine hx_blk (npc := 50) (L' := [(0, .inr (.inl 52)), (1, .inr (.inl 3)), (2, .inl x2), (3, .inl x3), (4, .inl x4)]) (st' := [.inl 0]) (m' := m) [((49, .iconst 0, 1, 0, 0, 0, 0), (0, 0, 0))] (by decide +kernel) rfl ?_
    exact hx_reti (by decide +kernel) (h2 c1)

/-- sum from 61 on -/
theorem hr31_61 {xs : List Int32} {n : Nat} {Q : hQ} {m : gx_M} {x2 x3 s0 : Int} (r_x2 : 0 ≤ x2 ∧ x2 ≤ 6) (r_x3 : 0 ≤ x3 ∧ x3 ≤ 240)
    (h1 : hxn xs n yp_m31 13 [(0, .inr (.inl 52)), (1, .inr (.inl 3)), (2, .inl x2), (3, .inl (x3 + 1))] [] m Q) : hxn xs (n + 1) yp_m31 61 [(0, .inr (.inl 52)), (1, .inr (.inl 3)), (2, .inl x2), (3, .inl x3)] [.inl s0] m Q := by
  have e1 : gx_w (x3 + 1) = x3 + 1 := gx_w_id (by omega) (by omega)
  refine hx_blks (npc := 13) (L' := [(0, .inr (.inl 52)), (1, .inr (.inl 3)), (2, .inl x2), (3, .inl (gx_w (x3 + 1)))]) (st' := []) (m' := m) ((61, .pop, 1, 0, 0, 0, 0), (0, 0, 0)) [((62, .iinc 3 1, 3, 0, 0, 0, 0), (0, 0, 0)), ((65, .goto (-52), 3, 0, 0, 0, 0), (0, 0, 0))] (by decide +kernel) rfl ?_
  rw [e1]
  exact hx_pick [0, 1, 2, 3] h1

/-- piece from 0 on -/
theorem hr43_0 {xs : List Int32} {n : Nat} {Q : hQ} {m : gx_M} {x2 : Int} (r_x2 : 0 ≤ x2 ∧ x2 ≤ 6)
    (h1 : ((m 3 3) = 33) → (x2 < 6) → ((m 3 3) ≠ 40) → ((m 3 3) = 33) → hxn xs n yp_m30 0 [(0, .inr (.inl 3))] [] m (fun r m' => hxn xs n yp_m43 79 [(0, .inr (.inl 52)), (1, .inr (.inl 3)), (2, .inl x2)] (hrs r ++ []) m' Q))
    (h2 : ((m 3 3) = 33) → (6 ≤ x2) → hxn xs n yp_m29 0 [(0, .inr (.inl 3)), (1, .inl 5), (2, .inl (m 3 2))] [] m (fun r m' => hxn xs n yp_m43 32 [] (hrs r ++ []) m' Q))
    (h3 : ((m 3 3) ≠ 33) → ((m 3 3) ≠ 40) → ((m 3 3) ≠ 40) → ((m 3 3) ≠ 33) → hxn xs n yp_m31 0 [(0, .inr (.inl 52)), (1, .inr (.inl 3)), (2, .inl x2)] [] m (fun r m' => hxn xs n yp_m43 111 [(0, .inr (.inl 52)), (1, .inr (.inl 3)), (2, .inl x2)] (hrs r ++ []) m' Q))
    (h4 : ((m 3 3) ≠ 33) → ((m 3 3) ≠ 40) → ((m 3 3) ≠ 40) → ((m 3 3) = 33) → hxn xs n yp_m30 0 [(0, .inr (.inl 3))] [] m (fun r m' => hxn xs n yp_m43 79 [(0, .inr (.inl 52)), (1, .inr (.inl 3)), (2, .inl x2)] (hrs r ++ []) m' Q))
    (h5 : ((m 3 3) ≠ 33) → ((m 3 3) ≠ 40) → ((m 3 3) = 40) → hxn xs n yp_m30 0 [(0, .inr (.inl 3))] [] m (fun r m' => hxn xs n yp_m43 43 [(0, .inr (.inl 52)), (1, .inr (.inl 3)), (2, .inl x2)] (hrs r ++ []) m' Q))
    (h6 : ((m 3 3) ≠ 33) → ((m 3 3) = 40) → (x2 < 6) → ((m 3 3) = 40) → hxn xs n yp_m30 0 [(0, .inr (.inl 3))] [] m (fun r m' => hxn xs n yp_m43 43 [(0, .inr (.inl 52)), (1, .inr (.inl 3)), (2, .inl x2)] (hrs r ++ []) m' Q))
    (h7 : ((m 3 3) ≠ 33) → ((m 3 3) = 40) → (6 ≤ x2) → hxn xs n yp_m29 0 [(0, .inr (.inl 3)), (1, .inl 5), (2, .inl (m 3 2))] [] m (fun r m' => hxn xs n yp_m43 32 [] (hrs r ++ []) m' Q)) : hxn xs (n + 1) yp_m43 0 [(0, .inr (.inl 52)), (1, .inr (.inl 3)), (2, .inl x2)] [] m Q := by
  refine hx_blks (npc := 8) (L' := [(0, .inr (.inl 52)), (1, .inr (.inl 3)), (2, .inl x2), (3, .inl (m 3 3))]) (st' := [.inl 33, .inl (m 3 3)]) (m' := m) ((0, .aload_n 1, 1, 0, 0, 0, 0), (0, 0, 0)) [((1, .getfield 39, 3, 1, 3, 1055, 0), (0, 3, 0)), ((4, .istore_n 3, 1, 0, 0, 0, 0), (0, 0, 0)), ((5, .iload_n 3, 1, 0, 0, 0, 0), (0, 0, 0)), ((6, .bipush 33, 2, 0, 0, 0, 0), (0, 0, 0))] (by decide +kernel) rfl ?_
  refine hx_cmp .eq 17 (by decide +kernel) (fun c1 => ?_) (fun c1 => ?_)
  · have c1 : (m 3 3) = 33 := c1
    refine hx_blk (npc := 20) (L' := [(0, .inr (.inl 52)), (1, .inr (.inl 3)), (2, .inl x2), (3, .inl (m 3 3))]) (st' := [.inl 6, .inl x2]) (m' := m) [((17, .iload_n 2, 1, 0, 0, 0, 0), (0, 0, 0)), ((18, .bipush 6, 2, 0, 0, 0, 0), (0, 0, 0))] (by decide +kernel) rfl ?_
    refine hx_cmp .lt 33 (by decide +kernel) (fun c2 => ?_) (fun c2 => ?_)
    · have c2 : x2 < 6 := c2
      refine hx_blk (npc := 36) (L' := [(0, .inr (.inl 52)), (1, .inr (.inl 3)), (2, .inl x2), (3, .inl (m 3 3))]) (st' := [.inl 40, .inl (m 3 3)]) (m' := m) [((33, .iload_n 3, 1, 0, 0, 0, 0), (0, 0, 0)), ((34, .bipush 40, 2, 0, 0, 0, 0), (0, 0, 0))] (by decide +kernel) rfl ?_
      refine hx_cmp .ne 69 (by decide +kernel) (fun c3 => ?_) (fun c3 => ?_)
      · have c3 : (m 3 3) ≠ 40 := c3
        refine hx_blk (npc := 72) (L' := [(0, .inr (.inl 52)), (1, .inr (.inl 3)), (2, .inl x2), (3, .inl (m 3 3))]) (st' := [.inl 33, .inl (m 3 3)]) (m' := m) [((69, .iload_n 3, 1, 0, 0, 0, 0), (0, 0, 0)), ((70, .bipush 33, 2, 0, 0, 0, 0), (0, 0, 0))] (by decide +kernel) rfl ?_
        refine hx_cmp .ne 105 (by decide +kernel) (fun c4 => ?_) (fun c4 => ?_)
        · have c4 : (m 3 3) ≠ 33 := c4
          exfalso; omega
        · have c4 : (m 3 3) = 33 := by have h : ¬ ((m 3 3) ≠ 33) := c4; omega
          refine hx_blk (npc := 76) (L' := [(0, .inr (.inl 52)), (1, .inr (.inl 3)), (2, .inl x2), (3, .inl (m 3 3))]) (st' := [.inr (.inl 3)]) (m' := m) [((75, .aload_n 1, 1, 0, 0, 0, 0), (0, 0, 0))] (by decide +kernel) rfl ?_
          exact hx_call (E := (76, .invokevirtual 52, 3, 30, 0, 3010, 0)) (M' := yp_m30) [.inr (.inl 3)] [] rfl (by decide +kernel) rfl ⟨rfl, rfl⟩ rfl rfl (hx_mono (h1 c1 c2 c3 c4) (fun r m' h' => hx_pick [0, 1, 2] h'))
      · have c3 : (m 3 3) = 40 := by have h : ¬ ((m 3 3) ≠ 40) := c3; omega
        exfalso; omega
    · have c2 : 6 ≤ x2 := by have h : ¬ (x2 < 6) := c2; omega
      refine hx_blk (npc := 29) (L' := [(0, .inr (.inl 52)), (1, .inr (.inl 3)), (2, .inl x2), (3, .inl (m 3 3))]) (st' := [.inl (m 3 2), .inl 5, .inr (.inl 3)]) (m' := m) [((23, .aload_n 1, 1, 0, 0, 0, 0), (0, 0, 0)), ((24, .iconst 5, 1, 0, 0, 0, 0), (0, 0, 0)), ((25, .aload_n 1, 1, 0, 0, 0, 0), (0, 0, 0)), ((26, .getfield 45, 3, 1, 2, 1053, 0), (0, 3, 0))] (by decide +kernel) rfl ?_
      exact hx_call (E := (29, .invokevirtual 48, 3, 29, 0, 3009, 0)) (M' := yp_m29) [.inr (.inl 3), .inl 5, .inl (m 3 2)] [] rfl (by decide +kernel) rfl ⟨rfl, rfl⟩ rfl rfl (hx_mono (h2 c1 c2) (fun r m' h' => hx_pick [] h'))
  · have c1 : (m 3 3) ≠ 33 := c1
    refine hx_blk (npc := 14) (L' := [(0, .inr (.inl 52)), (1, .inr (.inl 3)), (2, .inl x2), (3, .inl (m 3 3))]) (st' := [.inl 40, .inl (m 3 3)]) (m' := m) [((11, .iload_n 3, 1, 0, 0, 0, 0), (0, 0, 0)), ((12, .bipush 40, 2, 0, 0, 0, 0), (0, 0, 0))] (by decide +kernel) rfl ?_
    refine hx_cmp .ne 33 (by decide +kernel) (fun c2 => ?_) (fun c2 => ?_)
    · have c2 : (m 3 3) ≠ 40 := c2
      refine hx_blk (npc := 36) (L' := [(0, .inr (.inl 52)), (1, .inr (.inl 3)), (2, .inl x2), (3, .inl (m 3 3))]) (st' := [.inl 40, .inl (m 3 3)]) (m' := m) [((33, .iload_n 3, 1, 0, 0, 0, 0), (0, 0, 0)), ((34, .bipush 40, 2, 0, 0, 0, 0), (0, 0, 0))] (by decide +kernel) rfl ?_
      refine hx_cmp .ne 69 (by decide +kernel) (fun c3 => ?_) (fun c3 => ?_)
      · have c3 : (m 3 3) ≠ 40 := c3
        refine hx_blk (npc := 72) (L' := [(0, .inr (.inl 52)), (1, .inr (.inl 3)), (2, .inl x2), (3, .inl (m 3 3))]) (st' := [.inl 33, .inl (m 3 3)]) (m' := m) [((69, .iload_n 3, 1, 0, 0, 0, 0), (0, 0, 0)), ((70, .bipush 33, 2, 0, 0, 0, 0), (0, 0, 0))] (by decide +kernel) rfl ?_
        refine hx_cmp .ne 105 (by decide +kernel) (fun c4 => ?_) (fun c4 => ?_)
        · have c4 : (m 3 3) ≠ 33 := c4
          refine hx_blk (npc := 108) (L' := [(0, .inr (.inl 52)), (1, .inr (.inl 3)), (2, .inl x2), (3, .inl (m 3 3))]) (st' := [.inl x2, .inr (.inl 3), .inr (.inl 52)]) (m' := m) [((105, .aload_n 0, 1, 0, 0, 0, 0), (0, 0, 0)), ((106, .aload_n 1, 1, 0, 0, 0, 0), (0, 0, 0)), ((107, .iload_n 2, 1, 0, 0, 0, 0), (0, 0, 0))] (by decide +kernel) rfl ?_
          exact hx_call (E := (108, .invokevirtual 55, 3, 31, 0, 3014, 0)) (M' := yp_m31) [.inr (.inl 52), .inr (.inl 3), .inl x2] [] rfl (by decide +kernel) rfl ⟨rfl, rfl⟩ rfl rfl (hx_mono (h3 c1 c2 c3 c4) (fun r m' h' => hx_pick [0, 1, 2] h'))
        · have c4 : (m 3 3) = 33 := by have h : ¬ ((m 3 3) ≠ 33) := c4; omega
          refine hx_blk (npc := 76) (L' := [(0, .inr (.inl 52)), (1, .inr (.inl 3)), (2, .inl x2), (3, .inl (m 3 3))]) (st' := [.inr (.inl 3)]) (m' := m) [((75, .aload_n 1, 1, 0, 0, 0, 0), (0, 0, 0))] (by decide +kernel) rfl ?_
          exact hx_call (E := (76, .invokevirtual 52, 3, 30, 0, 3010, 0)) (M' := yp_m30) [.inr (.inl 3)] [] rfl (by decide +kernel) rfl ⟨rfl, rfl⟩ rfl rfl (hx_mono (h4 c1 c2 c3 c4) (fun r m' h' => hx_pick [0, 1, 2] h'))
      · have c3 : (m 3 3) = 40 := by have h : ¬ ((m 3 3) ≠ 40) := c3; omega
        refine hx_blk (npc := 40) (L' := [(0, .inr (.inl 52)), (1, .inr (.inl 3)), (2, .inl x2), (3, .inl (m 3 3))]) (st' := [.inr (.inl 3)]) (m' := m) [((39, .aload_n 1, 1, 0, 0, 0, 0), (0, 0, 0))] (by decide +kernel) rfl ?_
        exact hx_call (E := (40, .invokevirtual 52, 3, 30, 0, 3010, 0)) (M' := yp_m30) [.inr (.inl 3)] [] rfl (by decide +kernel) rfl ⟨rfl, rfl⟩ rfl rfl (hx_mono (h5 c1 c2 c3) (fun r m' h' => hx_pick [0, 1, 2] h'))
    · have c2 : (m 3 3) = 40 := by have h : ¬ ((m 3 3) ≠ 40) := c2; omega
      refine hx_blk (npc := 20) (L' := [(0, .inr (.inl 52)), (1, .inr (.inl 3)), (2, .inl x2), (3, .inl (m 3 3))]) (st' := [.inl 6, .inl x2]) (m' := m) [((17, .iload_n 2, 1, 0, 0, 0, 0), (0, 0, 0)), ((18, .bipush 6, 2, 0, 0, 0, 0), (0, 0, 0))] (by decide +kernel) rfl ?_
      refine hx_cmp .lt 33 (by decide +kernel) (fun c3 => ?_) (fun c3 => ?_)
      · have c3 : x2 < 6 := c3
        refine hx_blk (npc := 36) (L' := [(0, .inr (.inl 52)), (1, .inr (.inl 3)), (2, .inl x2), (3, .inl (m 3 3))]) (st' := [.inl 40, .inl (m 3 3)]) (m' := m) [((33, .iload_n 3, 1, 0, 0, 0, 0), (0, 0, 0)), ((34, .bipush 40, 2, 0, 0, 0, 0), (0, 0, 0))] (by decide +kernel) rfl ?_
        refine hx_cmp .ne 69 (by decide +kernel) (fun c4 => ?_) (fun c4 => ?_)
        · have c4 : (m 3 3) ≠ 40 := c4
          exfalso; omega
        · have c4 : (m 3 3) = 40 := by have h : ¬ ((m 3 3) ≠ 40) := c4; omega
          refine hx_blk (npc := 40) (L' := [(0, .inr (.inl 52)), (1, .inr (.inl 3)), (2, .inl x2), (3, .inl (m 3 3))]) (st' := [.inr (.inl 3)]) (m' := m) [((39, .aload_n 1, 1, 0, 0, 0, 0), (0, 0, 0))] (by decide +kernel) rfl ?_
          exact hx_call (E := (40, .invokevirtual 52, 3, 30, 0, 3010, 0)) (M' := yp_m30) [.inr (.inl 3)] [] rfl (by decide +kernel) rfl ⟨rfl, rfl⟩ rfl rfl (hx_mono (h6 c1 c2 c3 c4) (fun r m' h' => hx_pick [0, 1, 2] h'))
      · have c3 : 6 ≤ x2 := by have h : ¬ (x2 < 6) := c3; omega
        refine hx_blk (npc := 29) (L' := [(0, .inr (.inl 52)), (1, .inr (.inl 3)), (2, .inl x2), (3, .inl (m 3 3))]) (st' := [.inl (m 3 2), .inl 5, .inr (.inl 3)]) (m' := m) [((23, .aload_n 1, 1, 0, 0, 0, 0), (0, 0, 0)), ((24, .iconst 5, 1, 0, 0, 0, 0), (0, 0, 0)), ((25, .aload_n 1, 1, 0, 0, 0, 0), (0, 0, 0)), ((26, .getfield 45, 3, 1, 2, 1053, 0), (0, 3, 0))] (by decide +kernel) rfl ?_
        exact hx_call (E := (29, .invokevirtual 48, 3, 29, 0, 3009, 0)) (M' := yp_m29) [.inr (.inl 3), .inl 5, .inl (m 3 2)] [] rfl (by decide +kernel) rfl ⟨rfl, rfl⟩ rfl rfl (hx_mono (h7 c1 c2 c3) (fun r m' h' => hx_pick [] h'))

/-- piece from 32 on -/
theorem hr43_32 {xs : List Int32} {n : Nat} {Q : hQ} {m : gx_M} {s0 : Int}
    (h1 : Q (some (.inl s0)) m) : hxn xs (n + 1) yp_m43 32 [] [.inl s0] m Q := by
  exact hx_reti (by decide +kernel) h1

/-- piece from 43 on -/
theorem hr43_43 {xs : List Int32} {n : Nat} {Q : hQ} {m : gx_M} {x2 : Int} (r_x2 : 0 ≤ x2 ∧ x2 ≤ 6)
    (h1 : hxn xs n yp_m41 0 [(0, .inr (.inl 52)), (1, .inr (.inl 3)), (2, .inl (x2 + 1))] [] m (fun r m' => hxn xs n yp_m43 51 [(1, .inr (.inl 3))] (hrs r ++ []) m' Q)) : hxn xs (n + 1) yp_m43 43 [(0, .inr (.inl 52)), (1, .inr (.inl 3)), (2, .inl x2)] [] m Q := by
  have e1 : gx_w (x2 + 1) = x2 + 1 := gx_w_id (by omega) (by omega)
  refine hx_blks (npc := 48) (L' := [(0, .inr (.inl 52)), (1, .inr (.inl 3)), (2, .inl x2)]) (st' := [.inl (gx_w (x2 + 1)), .inr (.inl 3), .inr (.inl 52)]) (m' := m) ((43, .aload_n 0, 1, 0, 0, 0, 0), (0, 0, 0)) [((44, .aload_n 1, 1, 0, 0, 0, 0), (0, 0, 0)), ((45, .iload_n 2, 1, 0, 0, 0, 0), (0, 0, 0)), ((46, .iconst 1, 1, 0, 0, 0, 0), (0, 0, 0)), ((47, .iadd, 1, 0, 0, 0, 0), (0, 0, 0))] (by decide +kernel) rfl ?_
  rw [e1]
  exact hx_call (E := (48, .invokevirtual 58, 3, 41, 0, 3054, 0)) (M' := yp_m41) [.inr (.inl 52), .inr (.inl 3), .inl (x2 + 1)] [] rfl (by decide +kernel) rfl ⟨rfl, rfl⟩ rfl rfl (hx_mono h1 (fun r m' h' => hx_pick [1] h'))

/-- piece from 51 on -/
theorem hr43_51 {xs : List Int32} {n : Nat} {Q : hQ} {m : gx_M} {s0 : Int}
    (h1 : (s0 = 0) → Q (some (.inl 0)) m)
    (h2 : (s0 ≠ 0) → hxn xs n yp_m37 0 [(0, .inr (.inl 3)), (1, .inl 41)] [] m (fun r m' => hxn xs n yp_m43 60 [] (hrs r ++ []) m' Q)) : hxn xs (n + 1) yp_m43 51 [(1, .inr (.inl 3))] [.inl s0] m Q := by
  refine hx_ifs .eq 67 (by decide +kernel) (fun c1 => ?_) (fun c1 => ?_)
  · have c1 : s0 = 0 := c1
    refine hx_blk (npc := 68) (L' := [(1, .inr (.inl 3))]) (st' := [.inl 0]) (m' := m) [((67, .iconst 0, 1, 0, 0, 0, 0), (0, 0, 0))] (by decide +kernel) rfl ?_
    exact hx_reti (by decide +kernel) (h1 c1)
  · have c1 : s0 ≠ 0 := c1
    refine hx_blk (npc := 57) (L' := [(1, .inr (.inl 3))]) (st' := [.inl 41, .inr (.inl 3)]) (m' := m) [((54, .aload_n 1, 1, 0, 0, 0, 0), (0, 0, 0)), ((55, .bipush 41, 2, 0, 0, 0, 0), (0, 0, 0))] (by decide +kernel) rfl ?_
    exact hx_call (E := (57, .invokevirtual 35, 3, 37, 0, 3040, 0)) (M' := yp_m37) [.inr (.inl 3), .inl 41] [] rfl (by decide +kernel) rfl ⟨rfl, rfl⟩ rfl rfl (hx_mono (h2 c1) (fun r m' h' => hx_pick [] h'))

/-- piece from 60 on -/
theorem hr43_60 {xs : List Int32} {n : Nat} {Q : hQ} {m : gx_M} {s0 : Int}
    (h1 : (s0 = 0) → Q (some (.inl 0)) m)
    (h2 : (s0 ≠ 0) → Q (some (.inl 1)) m) : hxn xs (n + 1) yp_m43 60 [] [.inl s0] m Q := by
  refine hx_ifs .eq 67 (by decide +kernel) (fun c1 => ?_) (fun c1 => ?_)
  · have c1 : s0 = 0 := c1
    refine hx_blk (npc := 68) (L' := []) (st' := [.inl 0]) (m' := m) [((67, .iconst 0, 1, 0, 0, 0, 0), (0, 0, 0))] (by decide +kernel) rfl ?_
    exact hx_reti (by decide +kernel) (h1 c1)
  · have c1 : s0 ≠ 0 := c1
    refine hx_blk (npc := 68) (L' := []) (st' := [.inl 1]) (m' := m) [((63, .iconst 1, 1, 0, 0, 0, 0), (0, 0, 0)), ((64, .goto 4, 3, 0, 0, 0, 0), (0, 0, 0))] (by decide +kernel) rfl ?_
    exact hx_reti (by decide +kernel) (h2 c1)

/-- piece from 79 on -/
theorem hr43_79 {xs : List Int32} {n : Nat} {Q : hQ} {m : gx_M} {x2 : Int} (r_x2 : 0 ≤ x2 ∧ x2 ≤ 6)
    (h1 : hxn xs n yp_m43 0 [(0, .inr (.inl 52)), (1, .inr (.inl 3)), (2, .inl (x2 + 1))] [] m (fun r m' => hxn xs n yp_m43 87 [(0, .inr (.inl 52))] (hrs r ++ []) m' Q)) : hxn xs (n + 1) yp_m43 79 [(0, .inr (.inl 52)), (1, .inr (.inl 3)), (2, .inl x2)] [] m Q := by
  have e1 : gx_w (x2 + 1) = x2 + 1 := gx_w_id (by omega) (by omega)
  refine hx_blks (npc := 84) (L' := [(0, .inr (.inl 52)), (1, .inr (.inl 3)), (2, .inl x2)]) (st' := [.inl (gx_w (x2 + 1)), .inr (.inl 3), .inr (.inl 52)]) (m' := m) ((79, .aload_n 0, 1, 0, 0, 0, 0), (0, 0, 0)) [((80, .aload_n 1, 1, 0, 0, 0, 0), (0, 0, 0)), ((81, .iload_n 2, 1, 0, 0, 0, 0), (0, 0, 0)), ((82, .iconst 1, 1, 0, 0, 0, 0), (0, 0, 0)), ((83, .iadd, 1, 0, 0, 0, 0), (0, 0, 0))] (by decide +kernel) rfl ?_
  rw [e1]
  exact hx_call (E := (84, .invokevirtual 76, 3, 43, 0, 3062, 0)) (M' := yp_m43) [.inr (.inl 52), .inr (.inl 3), .inl (x2 + 1)] [] rfl (by decide +kernel) rfl ⟨rfl, rfl⟩ rfl rfl (hx_mono h1 (fun r m' h' => hx_pick [0] h'))

/-- piece from 87 on -/
theorem hr43_87 {xs : List Int32} {n : Nat} {Q : hQ} {m : gx_M} {s0 : Int}
    (h1 : (s0 ≠ 0) → hxn xs n yp_m36 0 [(0, .inr (.inl 53)), (1, .inl 33), (2, .inl 0)] [] m (fun r m' => hxn xs n yp_m43 102 [] (hrs r ++ []) m' Q))
    (h2 : (s0 = 0) → Q (some (.inl 0)) m) : hxn xs (n + 1) yp_m43 87 [(0, .inr (.inl 52))] [.inl s0] m Q := by
  refine hx_ifs .ne 92 (by decide +kernel) (fun c1 => ?_) (fun c1 => ?_)
  · have c1 : s0 ≠ 0 := c1
    refine hx_blk (npc := 99) (L' := [(0, .inr (.inl 52))]) (st' := [.inl 0, .inl 33, .inr (.inl 53)]) (m' := m) [((92, .aload_n 0, 1, 0, 0, 0, 0), (0, 0, 0)), ((93, .getfield 12, 3, 4, 0, 1226, 0), (1, 52, 53)), ((96, .bipush 33, 2, 0, 0, 0, 0), (0, 0, 0)), ((98, .iconst 0, 1, 0, 0, 0, 0), (0, 0, 0))] (by decide +kernel) rfl ?_
    exact hx_call (E := (99, .invokevirtual 68, 3, 36, 0, 3036, 0)) (M' := yp_m36) [.inr (.inl 53), .inl 33, .inl 0] [] rfl (by decide +kernel) rfl ⟨rfl, rfl⟩ rfl rfl (hx_mono (h1 c1) (fun r m' h' => hx_pick [] h'))
  · have c1 : s0 = 0 := by have h : ¬ (s0 ≠ 0) := c1; omega
    refine hx_blk (npc := 91) (L' := [(0, .inr (.inl 52))]) (st' := [.inl 0]) (m' := m) [((90, .iconst 0, 1, 0, 0, 0, 0), (0, 0, 0))] (by decide +kernel) rfl ?_
    exact hx_reti (by decide +kernel) (h2 c1)

/-- piece from 102 on -/
theorem hr43_102 {xs : List Int32} {n : Nat} {Q : hQ} {m : gx_M} {s0 : Int}
    (h1 : Q (some (.inl 1)) m) : hxn xs (n + 1) yp_m43 102 [] [.inl s0] m Q := by
  refine hx_blks (npc := 104) (L' := []) (st' := [.inl 1]) (m' := m) ((102, .pop, 1, 0, 0, 0, 0), (0, 0, 0)) [((103, .iconst 1, 1, 0, 0, 0, 0), (0, 0, 0))] (by decide +kernel) rfl ?_
  exact hx_reti (by decide +kernel) h1

/-- piece from 111 on -/
theorem hr43_111 {xs : List Int32} {n : Nat} {Q : hQ} {m : gx_M} {x2 s0 : Int} (r_x2 : 0 ≤ x2 ∧ x2 ≤ 6)
    (h1 : (s0 ≠ 0) → ((m 3 3) = 60) → hxn xs n yp_m30 0 [(0, .inr (.inl 3))] [] m (fun r m' => hxn xs n yp_m43 152 [(0, .inr (.inl 52)), (1, .inr (.inl 3)), (2, .inl x2), (4, .inl (m 3 3))] (hrs r ++ []) m' Q))
    (h2 : (s0 ≠ 0) → ((m 3 3) ≠ 60) → ((m 3 3) = 62) → hxn xs n yp_m30 0 [(0, .inr (.inl 3))] [] m (fun r m' => hxn xs n yp_m43 152 [(0, .inr (.inl 52)), (1, .inr (.inl 3)), (2, .inl x2), (4, .inl (m 3 3))] (hrs r ++ []) m' Q))
    (h3 : (s0 ≠ 0) → ((m 3 3) ≠ 60) → ((m 3 3) ≠ 62) → ((m 3 3) = 61) → hxn xs n yp_m30 0 [(0, .inr (.inl 3))] [] m (fun r m' => hxn xs n yp_m43 152 [(0, .inr (.inl 52)), (1, .inr (.inl 3)), (2, .inl x2), (4, .inl (m 3 3))] (hrs r ++ []) m' Q))
    (h4 : (s0 ≠ 0) → ((m 3 3) ≠ 60) → ((m 3 3) ≠ 62) → ((m 3 3) ≠ 61) → hxn xs n yp_m28 0 [(0, .inr (.inl 3))] [] m (fun r m' => hxn xs n yp_m43 147 [] (hrs r ++ []) m' Q))
    (h5 : (s0 = 0) → Q (some (.inl 0)) m) : hxn xs (n + 1) yp_m43 111 [(0, .inr (.inl 52)), (1, .inr (.inl 3)), (2, .inl x2)] [.inl s0] m Q := by
  refine hx_ifs .ne 116 (by decide +kernel) (fun c1 => ?_) (fun c1 => ?_)
  · have c1 : s0 ≠ 0 := c1
    refine hx_blk (npc := 126) (L' := [(0, .inr (.inl 52)), (1, .inr (.inl 3)), (2, .inl x2), (4, .inl (m 3 3))]) (st' := [.inl 60, .inl (m 3 3)]) (m' := m) [((116, .aload_n 1, 1, 0, 0, 0, 0), (0, 0, 0)), ((117, .getfield 39, 3, 1, 3, 1055, 0), (0, 3, 0)), ((120, .istore 4, 2, 0, 0, 0, 0), (0, 0, 0)), ((122, .iload 4, 2, 0, 0, 0, 0), (0, 0, 0)), ((124, .bipush 60, 2, 0, 0, 0, 0), (0, 0, 0))] (by decide +kernel) rfl ?_
    refine hx_cmp .eq 148 (by decide +kernel) (fun c2 => ?_) (fun c2 => ?_)
    · have c2 : (m 3 3) = 60 := c2
      refine hx_blk (npc := 149) (L' := [(0, .inr (.inl 52)), (1, .inr (.inl 3)), (2, .inl x2), (4, .inl (m 3 3))]) (st' := [.inr (.inl 3)]) (m' := m) [((148, .aload_n 1, 1, 0, 0, 0, 0), (0, 0, 0))] (by decide +kernel) rfl ?_
      exact hx_call (E := (149, .invokevirtual 52, 3, 30, 0, 3010, 0)) (M' := yp_m30) [.inr (.inl 3)] [] rfl (by decide +kernel) rfl ⟨rfl, rfl⟩ rfl rfl (hx_mono (h1 c1 c2) (fun r m' h' => hx_pick [0, 1, 2, 4] h'))
    · have c2 : (m 3 3) ≠ 60 := c2
      refine hx_blk (npc := 133) (L' := [(0, .inr (.inl 52)), (1, .inr (.inl 3)), (2, .inl x2), (4, .inl (m 3 3))]) (st' := [.inl 62, .inl (m 3 3)]) (m' := m) [((129, .iload 4, 2, 0, 0, 0, 0), (0, 0, 0)), ((131, .bipush 62, 2, 0, 0, 0, 0), (0, 0, 0))] (by decide +kernel) rfl ?_
      refine hx_cmp .eq 148 (by decide +kernel) (fun c3 => ?_) (fun c3 => ?_)
      · have c3 : (m 3 3) = 62 := c3
        refine hx_blk (npc := 149) (L' := [(0, .inr (.inl 52)), (1, .inr (.inl 3)), (2, .inl x2), (4, .inl (m 3 3))]) (st' := [.inr (.inl 3)]) (m' := m) [((148, .aload_n 1, 1, 0, 0, 0, 0), (0, 0, 0))] (by decide +kernel) rfl ?_
        exact hx_call (E := (149, .invokevirtual 52, 3, 30, 0, 3010, 0)) (M' := yp_m30) [.inr (.inl 3)] [] rfl (by decide +kernel) rfl ⟨rfl, rfl⟩ rfl rfl (hx_mono (h2 c1 c2 c3) (fun r m' h' => hx_pick [0, 1, 2, 4] h'))
      · have c3 : (m 3 3) ≠ 62 := c3
        refine hx_blk (npc := 140) (L' := [(0, .inr (.inl 52)), (1, .inr (.inl 3)), (2, .inl x2), (4, .inl (m 3 3))]) (st' := [.inl 61, .inl (m 3 3)]) (m' := m) [((136, .iload 4, 2, 0, 0, 0, 0), (0, 0, 0)), ((138, .bipush 61, 2, 0, 0, 0, 0), (0, 0, 0))] (by decide +kernel) rfl ?_
        refine hx_cmp .eq 148 (by decide +kernel) (fun c4 => ?_) (fun c4 => ?_)
        · have c4 : (m 3 3) = 61 := c4
          refine hx_blk (npc := 149) (L' := [(0, .inr (.inl 52)), (1, .inr (.inl 3)), (2, .inl x2), (4, .inl (m 3 3))]) (st' := [.inr (.inl 3)]) (m' := m) [((148, .aload_n 1, 1, 0, 0, 0, 0), (0, 0, 0))] (by decide +kernel) rfl ?_
          exact hx_call (E := (149, .invokevirtual 52, 3, 30, 0, 3010, 0)) (M' := yp_m30) [.inr (.inl 3)] [] rfl (by decide +kernel) rfl ⟨rfl, rfl⟩ rfl rfl (hx_mono (h3 c1 c2 c3 c4) (fun r m' h' => hx_pick [0, 1, 2, 4] h'))
        · have c4 : (m 3 3) ≠ 61 := c4
          refine hx_blk (npc := 144) (L' := [(0, .inr (.inl 52)), (1, .inr (.inl 3)), (2, .inl x2), (4, .inl (m 3 3))]) (st' := [.inr (.inl 3)]) (m' := m) [((143, .aload_n 1, 1, 0, 0, 0, 0), (0, 0, 0))] (by decide +kernel) rfl ?_
          exact hx_call (E := (144, .invokevirtual 42, 3, 28, 0, 3001, 0)) (M' := yp_m28) [.inr (.inl 3)] [] rfl (by decide +kernel) rfl ⟨rfl, rfl⟩ rfl rfl (hx_mono (h4 c1 c2 c3 c4) (fun r m' h' => hx_pick [] h'))
  · have c1 : s0 = 0 := by have h : ¬ (s0 ≠ 0) := c1; omega
    refine hx_blk (npc := 115) (L' := [(0, .inr (.inl 52)), (1, .inr (.inl 3)), (2, .inl x2)]) (st' := [.inl 0]) (m' := m) [((114, .iconst 0, 1, 0, 0, 0, 0), (0, 0, 0))] (by decide +kernel) rfl ?_
    exact hx_reti (by decide +kernel) (h5 c1)

/-- piece from 147 on -/
theorem hr43_147 {xs : List Int32} {n : Nat} {Q : hQ} {m : gx_M} {s0 : Int}
    (h1 : Q (some (.inl s0)) m) : hxn xs (n + 1) yp_m43 147 [] [.inl s0] m Q := by
  exact hx_reti (by decide +kernel) h1

/-- piece from 152 on -/
theorem hr43_152 {xs : List Int32} {n : Nat} {Q : hQ} {m : gx_M} {x2 x4 : Int} (r_x2 : 0 ≤ x2 ∧ x2 ≤ 6)
    (h1 : hxn xs n yp_m31 0 [(0, .inr (.inl 52)), (1, .inr (.inl 3)), (2, .inl x2)] [] m (fun r m' => hxn xs n yp_m43 158 [(0, .inr (.inl 52)), (4, .inl x4)] (hrs r ++ []) m' Q)) : hxn xs (n + 1) yp_m43 152 [(0, .inr (.inl 52)), (1, .inr (.inl 3)), (2, .inl x2), (4, .inl x4)] [] m Q := by
  refine hx_blks (npc := 155) (L' := [(0, .inr (.inl 52)), (1, .inr (.inl 3)), (2, .inl x2), (4, .inl x4)]) (st' := [.inl x2, .inr (.inl 3), .inr (.inl 52)]) (m' := m) ((152, .aload_n 0, 1, 0, 0, 0, 0), (0, 0, 0)) [((153, .aload_n 1, 1, 0, 0, 0, 0), (0, 0, 0)), ((154, .iload_n 2, 1, 0, 0, 0, 0), (0, 0, 0))] (by decide +kernel) rfl ?_
  exact hx_call (E := (155, .invokevirtual 55, 3, 31, 0, 3014, 0)) (M' := yp_m31) [.inr (.inl 52), .inr (.inl 3), .inl x2] [] rfl (by decide +kernel) rfl ⟨rfl, rfl⟩ rfl rfl (hx_mono h1 (fun r m' h' => hx_pick [0, 4] h'))

/-- piece from 158 on -/
theorem hr43_158 {xs : List Int32} {n : Nat} {Q : hQ} {m : gx_M} {x4 s0 : Int}
    (h1 : (s0 ≠ 0) → hxn xs n yp_m36 0 [(0, .inr (.inl 53)), (1, .inl x4), (2, .inl 0)] [] m (fun r m' => hxn xs n yp_m43 173 [] (hrs r ++ []) m' Q))
    (h2 : (s0 = 0) → Q (some (.inl 0)) m) : hxn xs (n + 1) yp_m43 158 [(0, .inr (.inl 52)), (4, .inl x4)] [.inl s0] m Q := by
  refine hx_ifs .ne 163 (by decide +kernel) (fun c1 => ?_) (fun c1 => ?_)
  · have c1 : s0 ≠ 0 := c1
    refine hx_blk (npc := 170) (L' := [(0, .inr (.inl 52)), (4, .inl x4)]) (st' := [.inl 0, .inl x4, .inr (.inl 53)]) (m' := m) [((163, .aload_n 0, 1, 0, 0, 0, 0), (0, 0, 0)), ((164, .getfield 12, 3, 4, 0, 1226, 0), (1, 52, 53)), ((167, .iload 4, 2, 0, 0, 0, 0), (0, 0, 0)), ((169, .iconst 0, 1, 0, 0, 0, 0), (0, 0, 0))] (by decide +kernel) rfl ?_
    exact hx_call (E := (170, .invokevirtual 68, 3, 36, 0, 3036, 0)) (M' := yp_m36) [.inr (.inl 53), .inl x4, .inl 0] [] rfl (by decide +kernel) rfl ⟨rfl, rfl⟩ rfl rfl (hx_mono (h1 c1) (fun r m' h' => hx_pick [] h'))
  · have c1 : s0 = 0 := by have h : ¬ (s0 ≠ 0) := c1; omega
    refine hx_blk (npc := 162) (L' := [(0, .inr (.inl 52)), (4, .inl x4)]) (st' := [.inl 0]) (m' := m) [((161, .iconst 0, 1, 0, 0, 0, 0), (0, 0, 0))] (by decide +kernel) rfl ?_
    exact hx_reti (by decide +kernel) (h2 c1)

/-- piece from 173 on -/
theorem hr43_173 {xs : List Int32} {n : Nat} {Q : hQ} {m : gx_M} {s0 : Int}
    (h1 : Q (some (.inl 1)) m) : hxn xs (n + 1) yp_m43 173 [] [.inl s0] m Q := by
  refine hx_blks (npc := 175) (L' := []) (st' := [.inl 1]) (m' := m) ((173, .pop, 1, 0, 0, 0, 0), (0, 0, 0)) [((174, .iconst 1, 1, 0, 0, 0, 0), (0, 0, 0))] (by decide +kernel) rfl ?_
  exact hx_reti (by decide +kernel) h1

/-- part from 0 on -/
theorem hr42_0 {xs : List Int32} {n : Nat} {Q : hQ} {m : gx_M} {x2 : Int} (r_x2 : 0 ≤ x2 ∧ x2 ≤ 6)
    (h1 : hxn xs n yp_m43 0 [(0, .inr (.inl 52)), (1, .inr (.inl 3)), (2, .inl x2)] [] m (fun r m' => hxn xs n yp_m42 6 [(0, .inr (.inl 52)), (1, .inr (.inl 3)), (2, .inl x2)] (hrs r ++ []) m' Q)) : hxn xs (n + 1) yp_m42 0 [(0, .inr (.inl 52)), (1, .inr (.inl 3)), (2, .inl x2)] [] m Q := by
  refine hx_blks (npc := 3) (L' := [(0, .inr (.inl 52)), (1, .inr (.inl 3)), (2, .inl x2)]) (st' := [.inl x2, .inr (.inl 3), .inr (.inl 52)]) (m' := m) ((0, .aload_n 0, 1, 0, 0, 0, 0), (0, 0, 0)) [((1, .aload_n 1, 1, 0, 0, 0, 0), (0, 0, 0)), ((2, .iload_n 2, 1, 0, 0, 0, 0), (0, 0, 0))] (by decide +kernel) rfl ?_
  exact hx_call (E := (3, .invokevirtual 76, 3, 43, 0, 3062, 0)) (M' := yp_m43) [.inr (.inl 52), .inr (.inl 3), .inl x2] [] rfl (by decide +kernel) rfl ⟨rfl, rfl⟩ rfl rfl (hx_mono h1 (fun r m' h' => hx_pick [0, 1, 2] h'))

/-- part from 6 on -/
theorem hr42_6 {xs : List Int32} {n : Nat} {Q : hQ} {m : gx_M} {x2 s0 : Int} (r_x2 : 0 ≤ x2 ∧ x2 ≤ 6)
    (h1 : (s0 ≠ 0) → hxn xs n yp_m42 13 [(0, .inr (.inl 52)), (1, .inr (.inl 3)), (2, .inl x2), (3, .inl 0)] [] m Q)
    (h2 : (s0 = 0) → Q (some (.inl 0)) m) : hxn xs (n + 1) yp_m42 6 [(0, .inr (.inl 52)), (1, .inr (.inl 3)), (2, .inl x2)] [.inl s0] m Q := by
  refine hx_ifs .ne 11 (by decide +kernel) (fun c1 => ?_) (fun c1 => ?_)
  · have c1 : s0 ≠ 0 := c1
    refine hx_blk (npc := 13) (L' := [(0, .inr (.inl 52)), (1, .inr (.inl 3)), (2, .inl x2), (3, .inl 0)]) (st' := []) (m' := m) [((11, .iconst 0, 1, 0, 0, 0, 0), (0, 0, 0)), ((12, .istore_n 3, 1, 0, 0, 0, 0), (0, 0, 0))] (by decide +kernel) rfl ?_
    exact hx_pick [0, 1, 2, 3] (h1 c1)
  · have c1 : s0 = 0 := by have h : ¬ (s0 ≠ 0) := c1; omega
    refine hx_blk (npc := 10) (L' := [(0, .inr (.inl 52)), (1, .inr (.inl 3)), (2, .inl x2)]) (st' := [.inl 0]) (m' := m) [((9, .iconst 0, 1, 0, 0, 0, 0), (0, 0, 0))] (by decide +kernel) rfl ?_
    exact hx_reti (by decide +kernel) (h2 c1)

/-- part from 13 on -/
theorem hr42_13 {xs : List Int32} {n : Nat} {Q : hQ} {m : gx_M} {x2 x3 : Int} (r_x2 : 0 ≤ x2 ∧ x2 ≤ 6) (r_x3 : 0 ≤ x3 ∧ x3 ≤ 240)
    (h1 : (240 ≤ x3) → Q (some (.inl 1)) m)
    (h2 : (x3 < 240) → ((m 3 3) ≠ 38) → Q (some (.inl 1)) m)
    (h3 : (x3 < 240) → ((m 3 3) = 38) → hxn xs n yp_m30 0 [(0, .inr (.inl 3))] [] m (fun r m' => hxn xs n yp_m42 33 [(0, .inr (.inl 52)), (1, .inr (.inl 3)), (2, .inl x2), (3, .inl x3)] (hrs r ++ []) m' Q)) : hxn xs (n + 1) yp_m42 13 [(0, .inr (.inl 52)), (1, .inr (.inl 3)), (2, .inl x2), (3, .inl x3)] [] m Q := by
  refine hx_blks (npc := 17) (L' := [(0, .inr (.inl 52)), (1, .inr (.inl 3)), (2, .inl x2), (3, .inl x3)]) (st' := [.inl 240, .inl x3]) (m' := m) ((13, .iload_n 3, 1, 0, 0, 0, 0), (0, 0, 0)) [((14, .sipush 240, 3, 0, 0, 0, 0), (0, 0, 0))] (by decide +kernel) rfl ?_
  refine hx_cmp .ge 71 (by decide +kernel) (fun c1 => ?_) (fun c1 => ?_)
  · have c1 : 240 ≤ x3 := c1
    refine hx_blk (npc := 72) (L' := [(0, .inr (.inl 52)), (1, .inr (.inl 3)), (2, .inl x2), (3, .inl x3)]) (st' := [.inl 1]) (m' := m) [((71, .iconst 1, 1, 0, 0, 0, 0), (0, 0, 0))] (by decide +kernel) rfl ?_
    exact hx_reti (by decide +kernel) (h1 c1)
  · have c1 : x3 < 240 := by have h : ¬ (240 ≤ x3) := c1; omega
    refine hx_blk (npc := 26) (L' := [(0, .inr (.inl 52)), (1, .inr (.inl 3)), (2, .inl x2), (3, .inl x3)]) (st' := [.inl 38, .inl (m 3 3)]) (m' := m) [((20, .aload_n 1, 1, 0, 0, 0, 0), (0, 0, 0)), ((21, .getfield 39, 3, 1, 3, 1055, 0), (0, 3, 0)), ((24, .bipush 38, 2, 0, 0, 0, 0), (0, 0, 0))] (by decide +kernel) rfl ?_
    refine hx_cmp .ne 71 (by decide +kernel) (fun c2 => ?_) (fun c2 => ?_)
    · have c2 : (m 3 3) ≠ 38 := c2
      refine hx_blk (npc := 72) (L' := [(0, .inr (.inl 52)), (1, .inr (.inl 3)), (2, .inl x2), (3, .inl x3)]) (st' := [.inl 1]) (m' := m) [((71, .iconst 1, 1, 0, 0, 0, 0), (0, 0, 0))] (by decide +kernel) rfl ?_
      exact hx_reti (by decide +kernel) (h2 c1 c2)
    · have c2 : (m 3 3) = 38 := by have h : ¬ ((m 3 3) ≠ 38) := c2; omega
      refine hx_blk (npc := 30) (L' := [(0, .inr (.inl 52)), (1, .inr (.inl 3)), (2, .inl x2), (3, .inl x3)]) (st' := [.inr (.inl 3)]) (m' := m) [((29, .aload_n 1, 1, 0, 0, 0, 0), (0, 0, 0))] (by decide +kernel) rfl ?_
      exact hx_call (E := (30, .invokevirtual 52, 3, 30, 0, 3010, 0)) (M' := yp_m30) [.inr (.inl 3)] [] rfl (by decide +kernel) rfl ⟨rfl, rfl⟩ rfl rfl (hx_mono (h3 c1 c2) (fun r m' h' => hx_pick [0, 1, 2, 3] h'))

/-- part from 33 on -/
theorem hr42_33 {xs : List Int32} {n : Nat} {Q : hQ} {m : gx_M} {x2 x3 : Int} (r_x2 : 0 ≤ x2 ∧ x2 ≤ 6) (r_x3 : 0 ≤ x3 ∧ x3 ≤ 240)
    (h1 : hxn xs n yp_m36 0 [(0, .inr (.inl 53)), (1, .inl 38), (2, .inl 0)] [] m (fun r m' => hxn xs n yp_m42 43 [(0, .inr (.inl 52)), (1, .inr (.inl 3)), (2, .inl x2), (3, .inl x3)] (hrs r ++ []) m' Q)) : hxn xs (n + 1) yp_m42 33 [(0, .inr (.inl 52)), (1, .inr (.inl 3)), (2, .inl x2), (3, .inl x3)] [] m Q := by
  refine hx_blks (npc := 40) (L' := [(0, .inr (.inl 52)), (1, .inr (.inl 3)), (2, .inl x2), (3, .inl x3)]) (st' := [.inl 0, .inl 38, .inr (.inl 53)]) (m' := m) ((33, .aload_n 0, 1, 0, 0, 0, 0), (0, 0, 0)) [((34, .getfield 12, 3, 4, 0, 1226, 0), (1, 52, 53)), ((37, .bipush 38, 2, 0, 0, 0, 0), (0, 0, 0)), ((39, .iconst 0, 1, 0, 0, 0, 0), (0, 0, 0))] (by decide +kernel) rfl ?_
  exact hx_call (E := (40, .invokevirtual 68, 3, 36, 0, 3036, 0)) (M' := yp_m36) [.inr (.inl 53), .inl 38, .inl 0] [] rfl (by decide +kernel) rfl ⟨rfl, rfl⟩ rfl rfl (hx_mono h1 (fun r m' h' => hx_pick [0, 1, 2, 3] h'))

/-- part from 43 on -/
theorem hr42_43 {xs : List Int32} {n : Nat} {Q : hQ} {m : gx_M} {x2 x3 s0 : Int} (r_x2 : 0 ≤ x2 ∧ x2 ≤ 6) (r_x3 : 0 ≤ x3 ∧ x3 ≤ 240)
    (h1 : hxn xs n yp_m43 0 [(0, .inr (.inl 52)), (1, .inr (.inl 3)), (2, .inl x2)] [] m (fun r m' => hxn xs n yp_m42 51 [(0, .inr (.inl 52)), (1, .inr (.inl 3)), (2, .inl x2), (3, .inl x3), (4, .inl s0)] (hrs r ++ []) m' Q)) : hxn xs (n + 1) yp_m42 43 [(0, .inr (.inl 52)), (1, .inr (.inl 3)), (2, .inl x2), (3, .inl x3)] [.inl s0] m Q := by
  refine hx_blks (npc := 48) (L' := [(0, .inr (.inl 52)), (1, .inr (.inl 3)), (2, .inl x2), (3, .inl x3), (4, .inl s0)]) (st' := [.inl x2, .inr (.inl 3), .inr (.inl 52)]) (m' := m) ((43, .istore 4, 2, 0, 0, 0, 0), (0, 0, 0)) [((45, .aload_n 0, 1, 0, 0, 0, 0), (0, 0, 0)), ((46, .aload_n 1, 1, 0, 0, 0, 0), (0, 0, 0)), ((47, .iload_n 2, 1, 0, 0, 0, 0), (0, 0, 0))] (by decide +kernel) rfl ?_
  exact hx_call (E := (48, .invokevirtual 76, 3, 43, 0, 3062, 0)) (M' := yp_m43) [.inr (.inl 52), .inr (.inl 3), .inl x2] [] rfl (by decide +kernel) rfl ⟨rfl, rfl⟩ rfl rfl (hx_mono h1 (fun r m' h' => hx_pick [0, 1, 2, 3, 4] h'))

/-- part from 51 on -/
theorem hr42_51 {xs : List Int32} {n : Nat} {Q : hQ} {m : gx_M} {x2 x3 x4 s0 : Int} (r_x2 : 0 ≤ x2 ∧ x2 ≤ 6) (r_x3 : 0 ≤ x3 ∧ x3 ≤ 240)
    (h1 : (s0 ≠ 0) → hxn xs n yp_m44 0 [(0, .inr (.inl 53)), (1, .inl x4)] [] m (fun r m' => hxn xs n yp_m42 65 [(0, .inr (.inl 52)), (1, .inr (.inl 3)), (2, .inl x2), (3, .inl x3)] (hrs r ++ []) m' Q))
    (h2 : (s0 = 0) → Q (some (.inl 0)) m) : hxn xs (n + 1) yp_m42 51 [(0, .inr (.inl 52)), (1, .inr (.inl 3)), (2, .inl x2), (3, .inl x3), (4, .inl x4)] [.inl s0] m Q := by
  refine hx_ifs .ne 56 (by decide +kernel) (fun c1 => ?_) (fun c1 => ?_)
  · have c1 : s0 ≠ 0 := c1
    refine hx_blk (npc := 62) (L' := [(0, .inr (.inl 52)), (1, .inr (.inl 3)), (2, .inl x2), (3, .inl x3), (4, .inl x4)]) (st' := [.inl x4, .inr (.inl 53)]) (m' := m) [((56, .aload_n 0, 1, 0, 0, 0, 0), (0, 0, 0)), ((57, .getfield 12, 3, 4, 0, 1226, 0), (1, 52, 53)), ((60, .iload 4, 2, 0, 0, 0, 0), (0, 0, 0))] (by decide +kernel) rfl ?_
    exact hx_call (E := (62, .invokevirtual 72, 3, 44, 0, 3066, 0)) (M' := yp_m44) [.inr (.inl 53), .inl x4] [] rfl (by decide +kernel) rfl ⟨rfl, rfl⟩ rfl rfl (hx_mono (h1 c1) (fun r m' h' => hx_pick [0, 1, 2, 3] h'))
  · have c1 : s0 = 0 := by have h : ¬ (s0 ≠ 0) := c1; omega
    refine hx_blk (npc := 55) (L' := [(0, .inr (.inl 52)), (1, .inr (.inl 3)), (2, .inl x2), (3, .inl x3), (4, .inl x4)]) (st' := [.inl 0]) (m' := m) [((54, .iconst 0, 1, 0, 0, 0, 0), (0, 0, 0))] (by decide +kernel) rfl ?_
    exact hx_reti (by decide +kernel) (h2 c1)

/-- part from 65 on -/
theorem hr42_65 {xs : List Int32} {n : Nat} {Q : hQ} {m : gx_M} {x2 x3 : Int} (r_x2 : 0 ≤ x2 ∧ x2 ≤ 6) (r_x3 : 0 ≤ x3 ∧ x3 ≤ 240)
    (h1 : hxn xs n yp_m42 13 [(0, .inr (.inl 52)), (1, .inr (.inl 3)), (2, .inl x2), (3, .inl (x3 + 1))] [] m Q) : hxn xs (n + 1) yp_m42 65 [(0, .inr (.inl 52)), (1, .inr (.inl 3)), (2, .inl x2), (3, .inl x3)] [] m Q := by
  have e1 : gx_w (x3 + 1) = x3 + 1 := gx_w_id (by omega) (by omega)
  refine hx_blks (npc := 13) (L' := [(0, .inr (.inl 52)), (1, .inr (.inl 3)), (2, .inl x2), (3, .inl (gx_w (x3 + 1)))]) (st' := []) (m' := m) ((65, .iinc 3 1, 3, 0, 0, 0, 0), (0, 0, 0)) [((68, .goto (-55), 3, 0, 0, 0, 0), (0, 0, 0))] (by decide +kernel) rfl ?_
  rw [e1]
  exact hx_pick [0, 1, 2, 3] h1

/-- condition from 0 on -/
theorem hr41_0 {xs : List Int32} {n : Nat} {Q : hQ} {m : gx_M} {x2 : Int} (r_x2 : 0 ≤ x2 ∧ x2 ≤ 6)
    (h1 : hxn xs n yp_m42 0 [(0, .inr (.inl 52)), (1, .inr (.inl 3)), (2, .inl x2)] [] m (fun r m' => hxn xs n yp_m41 6 [(0, .inr (.inl 52)), (1, .inr (.inl 3)), (2, .inl x2)] (hrs r ++ []) m' Q)) : hxn xs (n + 1) yp_m41 0 [(0, .inr (.inl 52)), (1, .inr (.inl 3)), (2, .inl x2)] [] m Q := by
  refine hx_blks (npc := 3) (L' := [(0, .inr (.inl 52)), (1, .inr (.inl 3)), (2, .inl x2)]) (st' := [.inl x2, .inr (.inl 3), .inr (.inl 52)]) (m' := m) ((0, .aload_n 0, 1, 0, 0, 0, 0), (0, 0, 0)) [((1, .aload_n 1, 1, 0, 0, 0, 0), (0, 0, 0)), ((2, .iload_n 2, 1, 0, 0, 0, 0), (0, 0, 0))] (by decide +kernel) rfl ?_
  exact hx_call (E := (3, .invokevirtual 65, 3, 42, 0, 3058, 0)) (M' := yp_m42) [.inr (.inl 52), .inr (.inl 3), .inl x2] [] rfl (by decide +kernel) rfl ⟨rfl, rfl⟩ rfl rfl (hx_mono h1 (fun r m' h' => hx_pick [0, 1, 2] h'))

/-- condition from 6 on -/
theorem hr41_6 {xs : List Int32} {n : Nat} {Q : hQ} {m : gx_M} {x2 s0 : Int} (r_x2 : 0 ≤ x2 ∧ x2 ≤ 6)
    (h1 : (s0 ≠ 0) → hxn xs n yp_m41 13 [(0, .inr (.inl 52)), (1, .inr (.inl 3)), (2, .inl x2), (3, .inl 0)] [] m Q)
    (h2 : (s0 = 0) → Q (some (.inl 0)) m) : hxn xs (n + 1) yp_m41 6 [(0, .inr (.inl 52)), (1, .inr (.inl 3)), (2, .inl x2)] [.inl s0] m Q := by
  refine hx_ifs .ne 11 (by decide +kernel) (fun c1 => ?_) (fun c1 => ?_)
  · have c1 : s0 ≠ 0 := c1
    refine hx_blk (npc := 13) (L' := [(0, .inr (.inl 52)), (1, .inr (.inl 3)), (2, .inl x2), (3, .inl 0)]) (st' := []) (m' := m) [((11, .iconst 0, 1, 0, 0, 0, 0), (0, 0, 0)), ((12, .istore_n 3, 1, 0, 0, 0, 0), (0, 0, 0))] (by decide +kernel) rfl ?_
    exact hx_pick [0, 1, 2, 3] (h1 c1)
  · have c1 : s0 = 0 := by have h : ¬ (s0 ≠ 0) := c1; omega
    refine hx_blk (npc := 10) (L' := [(0, .inr (.inl 52)), (1, .inr (.inl 3)), (2, .inl x2)]) (st' := [.inl 0]) (m' := m) [((9, .iconst 0, 1, 0, 0, 0, 0), (0, 0, 0))] (by decide +kernel) rfl ?_
    exact hx_reti (by decide +kernel) (h2 c1)

/-- condition from 13 on -/
theorem hr41_13 {xs : List Int32} {n : Nat} {Q : hQ} {m : gx_M} {x2 x3 : Int} (r_x2 : 0 ≤ x2 ∧ x2 ≤ 6) (r_x3 : 0 ≤ x3 ∧ x3 ≤ 240)
    (h1 : (240 ≤ x3) → Q (some (.inl 1)) m)
    (h2 : (x3 < 240) → ((m 3 3) ≠ 124) → Q (some (.inl 1)) m)
    (h3 : (x3 < 240) → ((m 3 3) = 124) → hxn xs n yp_m30 0 [(0, .inr (.inl 3))] [] m (fun r m' => hxn xs n yp_m41 33 [(0, .inr (.inl 52)), (1, .inr (.inl 3)), (2, .inl x2), (3, .inl x3)] (hrs r ++ []) m' Q)) : hxn xs (n + 1) yp_m41 13 [(0, .inr (.inl 52)), (1, .inr (.inl 3)), (2, .inl x2), (3, .inl x3)] [] m Q := by
  refine hx_blks (npc := 17) (L' := [(0, .inr (.inl 52)), (1, .inr (.inl 3)), (2, .inl x2), (3, .inl x3)]) (st' := [.inl 240, .inl x3]) (m' := m) ((13, .iload_n 3, 1, 0, 0, 0, 0), (0, 0, 0)) [((14, .sipush 240, 3, 0, 0, 0, 0), (0, 0, 0))] (by decide +kernel) rfl ?_
  refine hx_cmp .ge 71 (by decide +kernel) (fun c1 => ?_) (fun c1 => ?_)
  · have c1 : 240 ≤ x3 := c1
    refine hx_blk (npc := 72) (L' := [(0, .inr (.inl 52)), (1, .inr (.inl 3)), (2, .inl x2), (3, .inl x3)]) (st' := [.inl 1]) (m' := m) [((71, .iconst 1, 1, 0, 0, 0, 0), (0, 0, 0))] (by decide +kernel) rfl ?_
    exact hx_reti (by decide +kernel) (h1 c1)
  · have c1 : x3 < 240 := by have h : ¬ (240 ≤ x3) := c1; omega
    refine hx_blk (npc := 26) (L' := [(0, .inr (.inl 52)), (1, .inr (.inl 3)), (2, .inl x2), (3, .inl x3)]) (st' := [.inl 124, .inl (m 3 3)]) (m' := m) [((20, .aload_n 1, 1, 0, 0, 0, 0), (0, 0, 0)), ((21, .getfield 39, 3, 1, 3, 1055, 0), (0, 3, 0)), ((24, .bipush 124, 2, 0, 0, 0, 0), (0, 0, 0))] (by decide +kernel) rfl ?_
    refine hx_cmp .ne 71 (by decide +kernel) (fun c2 => ?_) (fun c2 => ?_)
    · have c2 : (m 3 3) ≠ 124 := c2
      refine hx_blk (npc := 72) (L' := [(0, .inr (.inl 52)), (1, .inr (.inl 3)), (2, .inl x2), (3, .inl x3)]) (st' := [.inl 1]) (m' := m) [((71, .iconst 1, 1, 0, 0, 0, 0), (0, 0, 0))] (by decide +kernel) rfl ?_
      exact hx_reti (by decide +kernel) (h2 c1 c2)
    · have c2 : (m 3 3) = 124 := by have h : ¬ ((m 3 3) ≠ 124) := c2; omega
      refine hx_blk (npc := 30) (L' := [(0, .inr (.inl 52)), (1, .inr (.inl 3)), (2, .inl x2), (3, .inl x3)]) (st' := [.inr (.inl 3)]) (m' := m) [((29, .aload_n 1, 1, 0, 0, 0, 0), (0, 0, 0))] (by decide +kernel) rfl ?_
      exact hx_call (E := (30, .invokevirtual 52, 3, 30, 0, 3010, 0)) (M' := yp_m30) [.inr (.inl 3)] [] rfl (by decide +kernel) rfl ⟨rfl, rfl⟩ rfl rfl (hx_mono (h3 c1 c2) (fun r m' h' => hx_pick [0, 1, 2, 3] h'))

/-- condition from 33 on -/
theorem hr41_33 {xs : List Int32} {n : Nat} {Q : hQ} {m : gx_M} {x2 x3 : Int} (r_x2 : 0 ≤ x2 ∧ x2 ≤ 6) (r_x3 : 0 ≤ x3 ∧ x3 ≤ 240)
    (h1 : hxn xs n yp_m36 0 [(0, .inr (.inl 53)), (1, .inl 124), (2, .inl 0)] [] m (fun r m' => hxn xs n yp_m41 43 [(0, .inr (.inl 52)), (1, .inr (.inl 3)), (2, .inl x2), (3, .inl x3)] (hrs r ++ []) m' Q)) : hxn xs (n + 1) yp_m41 33 [(0, .inr (.inl 52)), (1, .inr (.inl 3)), (2, .inl x2), (3, .inl x3)] [] m Q := by
  refine hx_blks (npc := 40) (L' := [(0, .inr (.inl 52)), (1, .inr (.inl 3)), (2, .inl x2), (3, .inl x3)]) (st' := [.inl 0, .inl 124, .inr (.inl 53)]) (m' := m) ((33, .aload_n 0, 1, 0, 0, 0, 0), (0, 0, 0)) [((34, .getfield 12, 3, 4, 0, 1226, 0), (1, 52, 53)), ((37, .bipush 124, 2, 0, 0, 0, 0), (0, 0, 0)), ((39, .iconst 0, 1, 0, 0, 0, 0), (0, 0, 0))] (by decide +kernel) rfl ?_
  exact hx_call (E := (40, .invokevirtual 68, 3, 36, 0, 3036, 0)) (M' := yp_m36) [.inr (.inl 53), .inl 124, .inl 0] [] rfl (by decide +kernel) rfl ⟨rfl, rfl⟩ rfl rfl (hx_mono h1 (fun r m' h' => hx_pick [0, 1, 2, 3] h'))

/-- condition from 43 on -/
theorem hr41_43 {xs : List Int32} {n : Nat} {Q : hQ} {m : gx_M} {x2 x3 s0 : Int} (r_x2 : 0 ≤ x2 ∧ x2 ≤ 6) (r_x3 : 0 ≤ x3 ∧ x3 ≤ 240)
    (h1 : hxn xs n yp_m42 0 [(0, .inr (.inl 52)), (1, .inr (.inl 3)), (2, .inl x2)] [] m (fun r m' => hxn xs n yp_m41 51 [(0, .inr (.inl 52)), (1, .inr (.inl 3)), (2, .inl x2), (3, .inl x3), (4, .inl s0)] (hrs r ++ []) m' Q)) : hxn xs (n + 1) yp_m41 43 [(0, .inr (.inl 52)), (1, .inr (.inl 3)), (2, .inl x2), (3, .inl x3)] [.inl s0] m Q := by
  refine hx_blks (npc := 48) (L' := [(0, .inr (.inl 52)), (1, .inr (.inl 3)), (2, .inl x2), (3, .inl x3), (4, .inl s0)]) (st' := [.inl x2, .inr (.inl 3), .inr (.inl 52)]) (m' := m) ((43, .istore 4, 2, 0, 0, 0, 0), (0, 0, 0)) [((45, .aload_n 0, 1, 0, 0, 0, 0), (0, 0, 0)), ((46, .aload_n 1, 1, 0, 0, 0, 0), (0, 0, 0)), ((47, .iload_n 2, 1, 0, 0, 0, 0), (0, 0, 0))] (by decide +kernel) rfl ?_
  exact hx_call (E := (48, .invokevirtual 65, 3, 42, 0, 3058, 0)) (M' := yp_m42) [.inr (.inl 52), .inr (.inl 3), .inl x2] [] rfl (by decide +kernel) rfl ⟨rfl, rfl⟩ rfl rfl (hx_mono h1 (fun r m' h' => hx_pick [0, 1, 2, 3, 4] h'))

/-- condition from 51 on -/
theorem hr41_51 {xs : List Int32} {n : Nat} {Q : hQ} {m : gx_M} {x2 x3 x4 s0 : Int} (r_x2 : 0 ≤ x2 ∧ x2 ≤ 6) (r_x3 : 0 ≤ x3 ∧ x3 ≤ 240)
    (h1 : (s0 ≠ 0) → hxn xs n yp_m44 0 [(0, .inr (.inl 53)), (1, .inl x4)] [] m (fun r m' => hxn xs n yp_m41 65 [(0, .inr (.inl 52)), (1, .inr (.inl 3)), (2, .inl x2), (3, .inl x3)] (hrs r ++ []) m' Q))
    (h2 : (s0 = 0) → Q (some (.inl 0)) m) : hxn xs (n + 1) yp_m41 51 [(0, .inr (.inl 52)), (1, .inr (.inl 3)), (2, .inl x2), (3, .inl x3), (4, .inl x4)] [.inl s0] m Q := by
  refine hx_ifs .ne 56 (by decide +kernel) (fun c1 => ?_) (fun c1 => ?_)
  · have c1 : s0 ≠ 0 := c1
    refine hx_blk (npc := 62) (L' := [(0, .inr (.inl 52)), (1, .inr (.inl 3)), (2, .inl x2), (3, .inl x3), (4, .inl x4)]) (st' := [.inl x4, .inr (.inl 53)]) (m' := m) [((56, .aload_n 0, 1, 0, 0, 0, 0), (0, 0, 0)), ((57, .getfield 12, 3, 4, 0, 1226, 0), (1, 52, 53)), ((60, .iload 4, 2, 0, 0, 0, 0), (0, 0, 0))] (by decide +kernel) rfl ?_
    exact hx_call (E := (62, .invokevirtual 72, 3, 44, 0, 3066, 0)) (M' := yp_m44) [.inr (.inl 53), .inl x4] [] rfl (by decide +kernel) rfl ⟨rfl, rfl⟩ rfl rfl (hx_mono (h1 c1) (fun r m' h' => hx_pick [0, 1, 2, 3] h'))
  · have c1 : s0 = 0 := by have h : ¬ (s0 ≠ 0) := c1; omega
    refine hx_blk (npc := 55) (L' := [(0, .inr (.inl 52)), (1, .inr (.inl 3)), (2, .inl x2), (3, .inl x3), (4, .inl x4)]) (st' := [.inl 0]) (m' := m) [((54, .iconst 0, 1, 0, 0, 0, 0), (0, 0, 0))] (by decide +kernel) rfl ?_
    exact hx_reti (by decide +kernel) (h2 c1)

/-- condition from 65 on -/
theorem hr41_65 {xs : List Int32} {n : Nat} {Q : hQ} {m : gx_M} {x2 x3 : Int} (r_x2 : 0 ≤ x2 ∧ x2 ≤ 6) (r_x3 : 0 ≤ x3 ∧ x3 ≤ 240)
    (h1 : hxn xs n yp_m41 13 [(0, .inr (.inl 52)), (1, .inr (.inl 3)), (2, .inl x2), (3, .inl (x3 + 1))] [] m Q) : hxn xs (n + 1) yp_m41 65 [(0, .inr (.inl 52)), (1, .inr (.inl 3)), (2, .inl x2), (3, .inl x3)] [] m Q := by
  have e1 : gx_w (x3 + 1) = x3 + 1 := gx_w_id (by omega) (by omega)
  refine hx_blks (npc := 13) (L' := [(0, .inr (.inl 52)), (1, .inr (.inl 3)), (2, .inl x2), (3, .inl (gx_w (x3 + 1)))]) (st' := []) (m' := m) ((65, .iinc 3 1, 3, 0, 0, 0, 0), (0, 0, 0)) [((68, .goto (-55), 3, 0, 0, 0, 0), (0, 0, 0))] (by decide +kernel) rfl ?_
  rw [e1]
  exact hx_pick [0, 1, 2, 3] h1

