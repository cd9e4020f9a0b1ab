/-! deals as the class reads them: roads -/
def isPn (c : Int) : Prop := 97 ≤ c ∧ c ≤ 104
def isSg (c : Int) : Prop := c = 62 ∨ c = 93 ∨ c = 91 ∨ c = 61
def isPc (c : Int) : Prop := c = 62 ∨ c = 93
def aYr (s : Nat → Int) (y : Int) : Prop := 0 ≤ y ∧ y < 40 ∧ s (440 + y).toNat = 1
/-- isPerson from 0 on -/
theorem hs51 {xs : List Int32} {n : Nat} {Q : hQ} {m : gx_M} {x0 : Int}
    (h1 : isPn x0 → Q (some (.inl 1)) m) (h0 : ¬ (isPn x0) → Q (some (.inl 0)) m) : hxn xs n yp_m51 0 [(0, .inl x0)] [] m Q := by
  refine hx_dn ?_
  refine hx_blks (npc := 3) (L' := [(0, .inl x0)]) (st' := [.inl 97, .inl x0]) (m' := m) ((0, .iload_n 0, 1, 0, 0, 0, 0), (0, 0, 0)) [((1, .bipush 97, 2, 0, 0, 0, 0), (0, 0, 0))] (by decide +kernel) rfl ?_
  refine hx_cmp .lt 16 (by decide +kernel) (fun c1 => ?_) (fun c1 => ?_)
  · have c1 : x0 < 97 := c1
    refine hx_blk (npc := 17) (L' := [(0, .inl x0)]) (st' := [.inl 0]) (m' := m) [((16, .iconst 0, 1, 0, 0, 0, 0), (0, 0, 0))] (by decide +kernel) rfl ?_
    exact hx_reti (by decide +kernel) (h0 (by unfold isPn; omega))
  · have c1 : 97 ≤ x0 := by have h : ¬ (x0 < 97) := c1; omega
    refine hx_blk (npc := 9) (L' := [(0, .inl x0)]) (st' := [.inl 104, .inl x0]) (m' := m) [((6, .iload_n 0, 1, 0, 0, 0, 0), (0, 0, 0)), ((7, .bipush 104, 2, 0, 0, 0, 0), (0, 0, 0))] (by decide +kernel) rfl ?_
    refine hx_cmp .gt 16 (by decide +kernel) (fun c2 => ?_) (fun c2 => ?_)
    · have c2 : 104 < x0 := c2
      refine hx_blk (npc := 17) (L' := [(0, .inl x0)]) (st' := [.inl 0]) (m' := m) [((16, .iconst 0, 1, 0, 0, 0, 0), (0, 0, 0))] (by decide +kernel) rfl ?_
      exact hx_reti (by decide +kernel) (h0 (by unfold isPn; omega))
    · have c2 : x0 ≤ 104 := by have h : ¬ (104 < x0) := c2; omega
      refine hx_blk (npc := 17) (L' := [(0, .inl x0)]) (st' := [.inl 1]) (m' := m) [((12, .iconst 1, 1, 0, 0, 0, 0), (0, 0, 0)), ((13, .goto 4, 3, 0, 0, 0, 0), (0, 0, 0))] (by decide +kernel) rfl ?_
      exact hx_reti (by decide +kernel) (h1 (by unfold isPn; omega))

/-- readDeal from 0 on -/
theorem hr52_0 {xs : List Int32} {n : Nat} {Q : hQ} {m : gx_M}
    (h1 : ((m 61 5) < 0) → Q (some (.inl 0)) m)
    (h2 : (0 ≤ (m 61 5)) → ((m 61 5) < 16) → ((m 3 3) = 62) → hxn xs n yp_m30 0 [(0, .inr (.inl 3))] [] (gx_u m 64 (m 61 5).toNat (m 3 3)) (fun r m' => hxn xs n yp_m52 66 [(0, .inr (.inl 61)), (1, .inr (.inl 3)), (2, .inl (m 3 3))] (hrs r ++ []) m' Q))
    (h3 : (0 ≤ (m 61 5)) → ((m 61 5) < 16) → ((m 3 3) ≠ 62) → ((m 3 3) = 93) → hxn xs n yp_m30 0 [(0, .inr (.inl 3))] [] (gx_u m 64 (m 61 5).toNat (m 3 3)) (fun r m' => hxn xs n yp_m52 66 [(0, .inr (.inl 61)), (1, .inr (.inl 3)), (2, .inl (m 3 3))] (hrs r ++ []) m' Q))
    (h4 : (0 ≤ (m 61 5)) → ((m 61 5) < 16) → ((m 3 3) ≠ 62) → ((m 3 3) ≠ 93) → ((m 3 3) = 91) → hxn xs n yp_m30 0 [(0, .inr (.inl 3))] [] (gx_u m 64 (m 61 5).toNat (m 3 3)) (fun r m' => hxn xs n yp_m52 66 [(0, .inr (.inl 61)), (1, .inr (.inl 3)), (2, .inl (m 3 3))] (hrs r ++ []) m' Q))
    (h5 : (0 ≤ (m 61 5)) → ((m 61 5) < 16) → ((m 3 3) ≠ 62) → ((m 3 3) ≠ 93) → ((m 3 3) ≠ 91) → ((m 3 3) = 61) → hxn xs n yp_m30 0 [(0, .inr (.inl 3))] [] (gx_u m 64 (m 61 5).toNat (m 3 3)) (fun r m' => hxn xs n yp_m52 66 [(0, .inr (.inl 61)), (1, .inr (.inl 3)), (2, .inl (m 3 3))] (hrs r ++ []) m' Q))
    (h6 : (0 ≤ (m 61 5)) → ((m 61 5) < 16) → ((m 3 3) ≠ 62) → ((m 3 3) ≠ 93) → ((m 3 3) ≠ 91) → ((m 3 3) ≠ 61) → hxn xs n yp_m28 0 [(0, .inr (.inl 3))] [] m (fun r m' => hxn xs n yp_m52 51 [] (hrs r ++ []) m' Q))
    (h7 : (0 ≤ (m 61 5)) → (16 ≤ (m 61 5)) → Q (some (.inl 0)) m) : hxn xs (n + 1) yp_m52 0 [(0, .inr (.inl 61)), (1, .inr (.inl 3))] [] m Q := by
  refine hx_blks (npc := 4) (L' := [(0, .inr (.inl 61)), (1, .inr (.inl 3))]) (st' := [.inl (m 61 5)]) (m' := m) ((0, .aload_n 0, 1, 0, 0, 0, 0), (0, 0, 0)) [((1, .getfield 33, 3, 5, 5, 2002, 0), (0, 61, 0))] (by decide +kernel) rfl ?_
  refine hx_if .lt 16 (by decide +kernel) (fun c1 => ?_) (fun c1 => ?_)
  · have c1 : (m 61 5) < 0 := c1
    refine hx_blk (npc := 17) (L' := [(0, .inr (.inl 61)), (1, .inr (.inl 3))]) (st' := [.inl 0]) (m' := m) [((16, .iconst 0, 1, 0, 0, 0, 0), (0, 0, 0))] (by decide +kernel) rfl ?_
    exact hx_reti (by decide +kernel) (h1 c1)
  · have c1 : 0 ≤ (m 61 5) := by have h : ¬ ((m 61 5) < 0) := c1; omega
    refine hx_blk (npc := 13) (L' := [(0, .inr (.inl 61)), (1, .inr (.inl 3))]) (st' := [.inl 16, .inl (m 61 5)]) (m' := m) [((7, .aload_n 0, 1, 0, 0, 0, 0), (0, 0, 0)), ((8, .getfield 33, 3, 5, 5, 2002, 0), (0, 61, 0)), ((11, .bipush 16, 2, 0, 0, 0, 0), (0, 0, 0))] (by decide +kernel) rfl ?_
    refine hx_cmp .lt 18 (by decide +kernel) (fun c2 => ?_) (fun c2 => ?_)
    · have c2 : (m 61 5) < 16 := c2
      refine hx_blk (npc := 26) (L' := [(0, .inr (.inl 61)), (1, .inr (.inl 3)), (2, .inl (m 3 3))]) (st' := [.inl 62, .inl (m 3 3)]) (m' := m) [((18, .aload_n 1, 1, 0, 0, 0, 0), (0, 0, 0)), ((19, .getfield 68, 3, 1, 3, 1056, 0), (0, 3, 0)), ((22, .istore_n 2, 1, 0, 0, 0, 0), (0, 0, 0)), ((23, .iload_n 2, 1, 0, 0, 0, 0), (0, 0, 0)), ((24, .bipush 62, 2, 0, 0, 0, 0), (0, 0, 0))] (by decide +kernel) rfl ?_
      refine hx_cmp .eq 52 (by decide +kernel) (fun c3 => ?_) (fun c3 => ?_)
      · have c3 : (m 3 3) = 62 := c3
        refine hx_blk (npc := 63) (L' := [(0, .inr (.inl 61)), (1, .inr (.inl 3)), (2, .inl (m 3 3))]) (st' := [.inr (.inl 3)]) (m' := (gx_u m 64 (m 61 5).toNat (m 3 3))) [((52, .aload_n 0, 1, 0, 0, 0, 0), (0, 0, 0)), ((53, .getfield 18, 3, 5, 2, 1239, 0), (1, 61, 64)), ((56, .aload_n 0, 1, 0, 0, 0, 0), (0, 0, 0)), ((57, .getfield 33, 3, 5, 5, 2002, 0), (0, 61, 0)), ((60, .iload_n 2, 1, 0, 0, 0, 0), (0, 0, 0)), ((61, .iastore, 1, 0, 0, 0, 0), (0, 64, 0)), ((62, .aload_n 1, 1, 0, 0, 0, 0), (0, 0, 0))] (by decide +kernel) rfl ?_
        exact hx_call (E := (63, .invokevirtual 73, 3, 30, 0, 3102, 0)) (M' := yp_m30) [.inr (.inl 3)] [] rfl (by decide +kernel) rfl ⟨rfl, rfl⟩ rfl rfl (hx_mono (h2 c1 c2 c3) (fun r m' h' => hx_pick [0, 1, 2] h'))
      · have c3 : (m 3 3) ≠ 62 := c3
        refine hx_blk (npc := 32) (L' := [(0, .inr (.inl 61)), (1, .inr (.inl 3)), (2, .inl (m 3 3))]) (st' := [.inl 93, .inl (m 3 3)]) (m' := m) [((29, .iload_n 2, 1, 0, 0, 0, 0), (0, 0, 0)), ((30, .bipush 93, 2, 0, 0, 0, 0), (0, 0, 0))] (by decide +kernel) rfl ?_
        refine hx_cmp .eq 52 (by decide +kernel) (fun c4 => ?_) (fun c4 => ?_)
        · have c4 : (m 3 3) = 93 := c4
          refine hx_blk (npc := 63) (L' := [(0, .inr (.inl 61)), (1, .inr (.inl 3)), (2, .inl (m 3 3))]) (st' := [.inr (.inl 3)]) (m' := (gx_u m 64 (m 61 5).toNat (m 3 3))) [((52, .aload_n 0, 1, 0, 0, 0, 0), (0, 0, 0)), ((53, .getfield 18, 3, 5, 2, 1239, 0), (1, 61, 64)), ((56, .aload_n 0, 1, 0, 0, 0, 0), (0, 0, 0)), ((57, .getfield 33, 3, 5, 5, 2002, 0), (0, 61, 0)), ((60, .iload_n 2, 1, 0, 0, 0, 0), (0, 0, 0)), ((61, .iastore, 1, 0, 0, 0, 0), (0, 64, 0)), ((62, .aload_n 1, 1, 0, 0, 0, 0), (0, 0, 0))] (by decide +kernel) rfl ?_
          exact hx_call (E := (63, .invokevirtual 73, 3, 30, 0, 3102, 0)) (M' := yp_m30) [.inr (.inl 3)] [] rfl (by decide +kernel) rfl ⟨rfl, rfl⟩ rfl rfl (hx_mono (h3 c1 c2 c3 c4) (fun r m' h' => hx_pick [0, 1, 2] h'))
        · have c4 : (m 3 3) ≠ 93 := c4
          refine hx_blk (npc := 38) (L' := [(0, .inr (.inl 61)), (1, .inr (.inl 3)), (2, .inl (m 3 3))]) (st' := [.inl 91, .inl (m 3 3)]) (m' := m) [((35, .iload_n 2, 1, 0, 0, 0, 0), (0, 0, 0)), ((36, .bipush 91, 2, 0, 0, 0, 0), (0, 0, 0))] (by decide +kernel) rfl ?_
          refine hx_cmp .eq 52 (by decide +kernel) (fun c5 => ?_) (fun c5 => ?_)
          · have c5 : (m 3 3) = 91 := c5
            refine hx_blk (npc := 63) (L' := [(0, .inr (.inl 61)), (1, .inr (.inl 3)), (2, .inl (m 3 3))]) (st' := [.inr (.inl 3)]) (m' := (gx_u m 64 (m 61 5).toNat (m 3 3))) [((52, .aload_n 0, 1, 0, 0, 0, 0), (0, 0, 0)), ((53, .getfield 18, 3, 5, 2, 1239, 0), (1, 61, 64)), ((56, .aload_n 0, 1, 0, 0, 0, 0), (0, 0, 0)), ((57, .getfield 33, 3, 5, 5, 2002, 0), (0, 61, 0)), ((60, .iload_n 2, 1, 0, 0, 0, 0), (0, 0, 0)), ((61, .iastore, 1, 0, 0, 0, 0), (0, 64, 0)), ((62, .aload_n 1, 1, 0, 0, 0, 0), (0, 0, 0))] (by decide +kernel) rfl ?_
            exact hx_call (E := (63, .invokevirtual 73, 3, 30, 0, 3102, 0)) (M' := yp_m30) [.inr (.inl 3)] [] rfl (by decide +kernel) rfl ⟨rfl, rfl⟩ rfl rfl (hx_mono (h4 c1 c2 c3 c4 c5) (fun r m' h' => hx_pick [0, 1, 2] h'))
          · have c5 : (m 3 3) ≠ 91 := c5
            refine hx_blk (npc := 44) (L' := [(0, .inr (.inl 61)), (1, .inr (.inl 3)), (2, .inl (m 3 3))]) (st' := [.inl 61, .inl (m 3 3)]) (m' := m) [((41, .iload_n 2, 1, 0, 0, 0, 0), (0, 0, 0)), ((42, .bipush 61, 2, 0, 0, 0, 0), (0, 0, 0))] (by decide +kernel) rfl ?_
            refine hx_cmp .eq 52 (by decide +kernel) (fun c6 => ?_) (fun c6 => ?_)
            · have c6 : (m 3 3) = 61 := c6
              refine hx_blk (npc := 63) (L' := [(0, .inr (.inl 61)), (1, .inr (.inl 3)), (2, .inl (m 3 3))]) (st' := [.inr (.inl 3)]) (m' := (gx_u m 64 (m 61 5).toNat (m 3 3))) [((52, .aload_n 0, 1, 0, 0, 0, 0), (0, 0, 0)), ((53, .getfield 18, 3, 5, 2, 1239, 0), (1, 61, 64)), ((56, .aload_n 0, 1, 0, 0, 0, 0), (0, 0, 0)), ((57, .getfield 33, 3, 5, 5, 2002, 0), (0, 61, 0)), ((60, .iload_n 2, 1, 0, 0, 0, 0), (0, 0, 0)), ((61, .iastore, 1, 0, 0, 0, 0), (0, 64, 0)), ((62, .aload_n 1, 1, 0, 0, 0, 0), (0, 0, 0))] (by decide +kernel) rfl ?_
              exact hx_call (E := (63, .invokevirtual 73, 3, 30, 0, 3102, 0)) (M' := yp_m30) [.inr (.inl 3)] [] rfl (by decide +kernel) rfl ⟨rfl, rfl⟩ rfl rfl (hx_mono (h5 c1 c2 c3 c4 c5 c6) (fun r m' h' => hx_pick [0, 1, 2] h'))
            · have c6 : (m 3 3) ≠ 61 := c6
              refine hx_blk (npc := 48) (L' := [(0, .inr (.inl 61)), (1, .inr (.inl 3)), (2, .inl (m 3 3))]) (st' := [.inr (.inl 3)]) (m' := m) [((47, .aload_n 1, 1, 0, 0, 0, 0), (0, 0, 0))] (by decide +kernel) rfl ?_
              exact hx_call (E := (48, .invokevirtual 54, 3, 28, 0, 3096, 0)) (M' := yp_m28) [.inr (.inl 3)] [] rfl (by decide +kernel) rfl ⟨rfl, rfl⟩ rfl rfl (hx_mono (h6 c1 c2 c3 c4 c5 c6) (fun r m' h' => hx_pick [] h'))
    · have c2 : 16 ≤ (m 61 5) := by have h : ¬ ((m 61 5) < 16) := c2; omega
      refine hx_blk (npc := 17) (L' := [(0, .inr (.inl 61)), (1, .inr (.inl 3))]) (st' := [.inl 0]) (m' := m) [((16, .iconst 0, 1, 0, 0, 0, 0), (0, 0, 0))] (by decide +kernel) rfl ?_
      exact hx_reti (by decide +kernel) (h7 c1 c2)

/-- readDeal from 51 on -/
theorem hr52_51 {xs : List Int32} {n : Nat} {Q : hQ} {m : gx_M} {s0 : Int}
    (h1 : Q (some (.inl s0)) m) : hxn xs (n + 1) yp_m52 51 [] [.inl s0] m Q := by
  exact hx_reti (by decide +kernel) h1

/-- readDeal from 66 on -/
theorem hr52_66 {xs : List Int32} {n : Nat} {Q : hQ} {m : gx_M} {x2 : Int}
    (h1 : (isPn (m 3 3)) → hxn xs n yp_m52 97 [(0, .inr (.inl 61)), (1, .inr (.inl 3)), (2, .inl x2)] [] (gx_u m 65 (m 61 5).toNat (gx_w ((m 3 3) - 97))) Q)
    (h2 : (¬ (isPn (m 3 3))) → hxn xs n yp_m28 0 [(0, .inr (.inl 3))] [] m (fun r m' => hxn xs n yp_m52 80 [] (hrs r ++ []) m' Q)) : hxn xs (n + 1) yp_m52 66 [(0, .inr (.inl 61)), (1, .inr (.inl 3)), (2, .inl x2)] [] m Q := by
  refine hx_blks (npc := 70) (L' := [(0, .inr (.inl 61)), (1, .inr (.inl 3)), (2, .inl x2)]) (st' := [.inl (m 3 3)]) (m' := m) ((66, .aload_n 1, 1, 0, 0, 0, 0), (0, 0, 0)) [((67, .getfield 68, 3, 1, 3, 1056, 0), (0, 3, 0))] (by decide +kernel) rfl ?_
  refine hx_call (E := (70, .invokestatic 70, 3, 51, 0, 3099, 0)) (M' := yp_m51) [.inl (m 3 3)] [] rfl (by decide +kernel) rfl ⟨rfl, rfl⟩ rfl rfl (hs51 (fun c1 => ?_) (fun c1 => ?_))
  · have c1 : isPn (m 3 3) := c1
    show hxn xs n yp_m52 73 [(0, .inr (.inl 61)), (1, .inr (.inl 3)), (2, .inl x2)] [.inl 1] m Q
    refine hx_if .ne 81 (by decide +kernel) (fun c2 => ?_) (fun c2 => ?_)
    · have c2 : (1 : Int) ≠ 0 := c2
      refine hx_blk (npc := 97) (L' := [(0, .inr (.inl 61)), (1, .inr (.inl 3)), (2, .inl x2)]) (st' := []) (m' := (gx_u m 65 (m 61 5).toNat (gx_w ((m 3 3) - 97)))) [((81, .aload_n 0, 1, 0, 0, 0, 0), (0, 0, 0)), ((82, .getfield 21, 3, 5, 3, 2000, 0), (1, 61, 65)), ((85, .aload_n 0, 1, 0, 0, 0, 0), (0, 0, 0)), ((86, .getfield 33, 3, 5, 5, 2002, 0), (0, 61, 0)), ((89, .aload_n 1, 1, 0, 0, 0, 0), (0, 0, 0)), ((90, .getfield 68, 3, 1, 3, 1056, 0), (0, 3, 0)), ((93, .bipush 97, 2, 0, 0, 0, 0), (0, 0, 0)), ((95, .isub, 1, 0, 0, 0, 0), (0, 0, 0)), ((96, .iastore, 1, 0, 0, 0, 0), (0, 65, 0))] (by decide +kernel) rfl ?_
      exact hx_pick [0, 1, 2] (h1 c1)
    · have c2 : (1 : Int) = 0 := by have h : ¬ ((1 : Int) ≠ 0) := c2; omega
      exfalso; omega
  · have c1 : ¬ (isPn (m 3 3)) := c1
    show hxn xs n yp_m52 73 [(0, .inr (.inl 61)), (1, .inr (.inl 3)), (2, .inl x2)] [.inl 0] m Q
    refine hx_if .ne 81 (by decide +kernel) (fun c2 => ?_) (fun c2 => ?_)
    · have c2 : (0 : Int) ≠ 0 := c2
      exfalso; omega
    · have c2 : (0 : Int) = 0 := by have h : ¬ ((0 : Int) ≠ 0) := c2; omega
      refine hx_blk (npc := 77) (L' := [(0, .inr (.inl 61)), (1, .inr (.inl 3)), (2, .inl x2)]) (st' := [.inr (.inl 3)]) (m' := m) [((76, .aload_n 1, 1, 0, 0, 0, 0), (0, 0, 0))] (by decide +kernel) rfl ?_
      exact hx_call (E := (77, .invokevirtual 54, 3, 28, 0, 3096, 0)) (M' := yp_m28) [.inr (.inl 3)] [] rfl (by decide +kernel) rfl ⟨rfl, rfl⟩ rfl rfl (hx_mono (h2 c1) (fun r m' h' => hx_pick [] h'))

/-- readDeal from 80 on -/
theorem hr52_80 {xs : List Int32} {n : Nat} {Q : hQ} {m : gx_M} {s0 : Int}
    (h1 : Q (some (.inl s0)) m) : hxn xs (n + 1) yp_m52 80 [] [.inl s0] m Q := by
  exact hx_reti (by decide +kernel) h1

/-- readDeal from 97 on -/
theorem hr52_97 {xs : List Int32} {n : Nat} {Q : hQ} {m : gx_M} {x2 : Int}
    (h1 : ((m 65 (m 61 5).toNat) ≠ (m 63 (m 61 5).toNat)) → hxn xs n yp_m30 0 [(0, .inr (.inl 3))] [] m (fun r m' => hxn xs n yp_m52 133 [(0, .inr (.inl 61)), (1, .inr (.inl 3)), (2, .inl x2)] (hrs r ++ []) m' Q))
    (h2 : ((m 65 (m 61 5).toNat) = (m 63 (m 61 5).toNat)) → hxn xs n yp_m29 0 [(0, .inr (.inl 3)), (1, .inl 6), (2, .inl (m 3 2))] [] m (fun r m' => hxn xs n yp_m52 128 [] (hrs r ++ []) m' Q)) : hxn xs (n + 1) yp_m52 97 [(0, .inr (.inl 61)), (1, .inr (.inl 3)), (2, .inl x2)] [] m Q := by
  refine hx_blks (npc := 115) (L' := [(0, .inr (.inl 61)), (1, .inr (.inl 3)), (2, .inl x2)]) (st' := [.inl (m 63 (m 61 5).toNat), .inl (m 65 (m 61 5).toNat)]) (m' := m) ((97, .aload_n 0, 1, 0, 0, 0, 0), (0, 0, 0)) [((98, .getfield 21, 3, 5, 3, 2000, 0), (1, 61, 65)), ((101, .aload_n 0, 1, 0, 0, 0, 0), (0, 0, 0)), ((102, .getfield 33, 3, 5, 5, 2002, 0), (0, 61, 0)), ((105, .iaload, 1, 0, 0, 0, 0), (0, 65, 0)), ((106, .aload_n 0, 1, 0, 0, 0, 0), (0, 0, 0)), ((107, .getfield 15, 3, 5, 1, 1238, 0), (1, 61, 63)), ((110, .aload_n 0, 1, 0, 0, 0, 0), (0, 0, 0)), ((111, .getfield 33, 3, 5, 5, 2002, 0), (0, 61, 0)), ((114, .iaload, 1, 0, 0, 0, 0), (0, 63, 0))] (by decide +kernel) rfl ?_
  refine hx_cmp .ne 129 (by decide +kernel) (fun c1 => ?_) (fun c1 => ?_)
  · have c1 : (m 65 (m 61 5).toNat) ≠ (m 63 (m 61 5).toNat) := c1
    refine hx_blk (npc := 130) (L' := [(0, .inr (.inl 61)), (1, .inr (.inl 3)), (2, .inl x2)]) (st' := [.inr (.inl 3)]) (m' := m) [((129, .aload_n 1, 1, 0, 0, 0, 0), (0, 0, 0))] (by decide +kernel) rfl ?_
    exact hx_call (E := (130, .invokevirtual 73, 3, 30, 0, 3102, 0)) (M' := yp_m30) [.inr (.inl 3)] [] rfl (by decide +kernel) rfl ⟨rfl, rfl⟩ rfl rfl (hx_mono (h1 c1) (fun r m' h' => hx_pick [0, 1, 2] h'))
  · have c1 : (m 65 (m 61 5).toNat) = (m 63 (m 61 5).toNat) := by have h : ¬ ((m 65 (m 61 5).toNat) ≠ (m 63 (m 61 5).toNat)) := c1; omega
    refine hx_blk (npc := 125) (L' := [(0, .inr (.inl 61)), (1, .inr (.inl 3)), (2, .inl x2)]) (st' := [.inl (m 3 2), .inl 6, .inr (.inl 3)]) (m' := m) [((118, .aload_n 1, 1, 0, 0, 0, 0), (0, 0, 0)), ((119, .bipush 6, 2, 0, 0, 0, 0), (0, 0, 0)), ((121, .aload_n 1, 1, 0, 0, 0, 0), (0, 0, 0)), ((122, .getfield 57, 3, 1, 2, 1052, 0), (0, 3, 0))] (by decide +kernel) rfl ?_
    exact hx_call (E := (125, .invokevirtual 60, 3, 29, 0, 3097, 0)) (M' := yp_m29) [.inr (.inl 3), .inl 6, .inl (m 3 2)] [] rfl (by decide +kernel) rfl ⟨rfl, rfl⟩ rfl rfl (hx_mono (h2 c1) (fun r m' h' => hx_pick [] h'))

/-- readDeal from 128 on -/
theorem hr52_128 {xs : List Int32} {n : Nat} {Q : hQ} {m : gx_M} {s0 : Int}
    (h1 : Q (some (.inl s0)) m) : hxn xs (n + 1) yp_m52 128 [] [.inl s0] m Q := by
  exact hx_reti (by decide +kernel) h1

/-- readDeal from 133 on -/
theorem hr52_133 {xs : List Int32} {n : Nat} {Q : hQ} {m : gx_M} {x2 : Int}
    (h1 : (x2 = 62) → (isDg (m 3 3)) → hxn xs n yp_m35 0 [(0, .inr (.inl 3)), (1, .inl 4)] [] m (fun r m' => hxn xs n yp_m52 184 [(0, .inr (.inl 61))] (hrs r ++ [.inl (m 61 5), .inr (.inl 66)]) m' Q))
    (h2 : (x2 = 62) → (¬ (isDg (m 3 3))) → hxn xs n yp_m28 0 [(0, .inr (.inl 3))] [] m (fun r m' => hxn xs n yp_m52 166 [] (hrs r ++ []) m' Q))
    (h3 : (x2 ≠ 62) → (x2 ≠ 93) → Q (some (.inl 1)) (gx_u (gx_u m 66 (m 61 5).toNat 0) 61 5 (gx_w ((m 61 5) + 1))))
    (h4 : (x2 ≠ 62) → (x2 = 93) → (isDg (m 3 3)) → hxn xs n yp_m35 0 [(0, .inr (.inl 3)), (1, .inl 4)] [] m (fun r m' => hxn xs n yp_m52 184 [(0, .inr (.inl 61))] (hrs r ++ [.inl (m 61 5), .inr (.inl 66)]) m' Q))
    (h5 : (x2 ≠ 62) → (x2 = 93) → (¬ (isDg (m 3 3))) → hxn xs n yp_m28 0 [(0, .inr (.inl 3))] [] m (fun r m' => hxn xs n yp_m52 166 [] (hrs r ++ []) m' Q)) : hxn xs (n + 1) yp_m52 133 [(0, .inr (.inl 61)), (1, .inr (.inl 3)), (2, .inl x2)] [] m Q := by
  refine hx_blks (npc := 136) (L' := [(0, .inr (.inl 61)), (1, .inr (.inl 3)), (2, .inl x2)]) (st' := [.inl 62, .inl x2]) (m' := m) ((133, .iload_n 2, 1, 0, 0, 0, 0), (0, 0, 0)) [((134, .bipush 62, 2, 0, 0, 0, 0), (0, 0, 0))] (by decide +kernel) rfl ?_
  refine hx_cmp .eq 145 (by decide +kernel) (fun c1 => ?_) (fun c1 => ?_)
  · have c1 : x2 = 62 := c1
    refine hx_blk (npc := 152) (L' := [(0, .inr (.inl 61)), (1, .inr (.inl 3)), (2, .inl x2), (3, .inl 1)]) (st' := [.inl 1]) (m' := m) [((145, .iconst 1, 1, 0, 0, 0, 0), (0, 0, 0)), ((146, .goto 4, 3, 0, 0, 0, 0), (0, 0, 0)), ((150, .istore_n 3, 1, 0, 0, 0, 0), (0, 0, 0)), ((151, .iload_n 3, 1, 0, 0, 0, 0), (0, 0, 0))] (by decide +kernel) rfl ?_
    refine hx_if .eq 167 (by decide +kernel) (fun c2 => ?_) (fun c2 => ?_)
    · have c2 : (1 : Int) = 0 := c2
      exfalso; omega
    · have c2 : (1 : Int) ≠ 0 := c2
      refine hx_blk (npc := 156) (L' := [(0, .inr (.inl 61)), (1, .inr (.inl 3)), (2, .inl x2), (3, .inl 1)]) (st' := [.inr (.inl 3)]) (m' := m) [((155, .aload_n 1, 1, 0, 0, 0, 0), (0, 0, 0))] (by decide +kernel) rfl ?_
      refine hx_call (E := (156, .invokevirtual 51, 3, 34, 0, 3095, 0)) (M' := yp_m34) [.inr (.inl 3)] [] rfl (by decide +kernel) rfl ⟨rfl, rfl⟩ rfl rfl (hs34 (fun c2 => ?_) (fun c2 => ?_))
      · have c2 : isDg (m 3 3) := c2
        show hxn xs n yp_m52 159 [(0, .inr (.inl 61)), (1, .inr (.inl 3)), (2, .inl x2), (3, .inl 1)] [.inl 1] m Q
        refine hx_if .ne 167 (by decide +kernel) (fun c3 => ?_) (fun c3 => ?_)
        · have c3 : (1 : Int) ≠ 0 := c3
          refine hx_blk (npc := 176) (L' := [(0, .inr (.inl 61)), (1, .inr (.inl 3)), (2, .inl x2), (3, .inl 1)]) (st' := [.inl 1, .inl (m 61 5), .inr (.inl 66)]) (m' := m) [((167, .aload_n 0, 1, 0, 0, 0, 0), (0, 0, 0)), ((168, .getfield 24, 3, 5, 4, 2001, 0), (1, 61, 66)), ((171, .aload_n 0, 1, 0, 0, 0, 0), (0, 0, 0)), ((172, .getfield 33, 3, 5, 5, 2002, 0), (0, 61, 0)), ((175, .iload_n 3, 1, 0, 0, 0, 0), (0, 0, 0))] (by decide +kernel) rfl ?_
          refine hx_if .eq 187 (by decide +kernel) (fun c3 => ?_) (fun c3 => ?_)
          · have c3 : (1 : Int) = 0 := c3
            exfalso; omega
          · have c3 : (1 : Int) ≠ 0 := c3
            refine hx_blk (npc := 181) (L' := [(0, .inr (.inl 61)), (1, .inr (.inl 3)), (2, .inl x2), (3, .inl 1)]) (st' := [.inl 4, .inr (.inl 3), .inl (m 61 5), .inr (.inl 66)]) (m' := m) [((179, .aload_n 1, 1, 0, 0, 0, 0), (0, 0, 0)), ((180, .iconst 4, 1, 0, 0, 0, 0), (0, 0, 0))] (by decide +kernel) rfl ?_
            exact hx_call (E := (181, .invokevirtual 64, 3, 35, 0, 3098, 0)) (M' := yp_m35) [.inr (.inl 3), .inl 4] [.inl (m 61 5), .inr (.inl 66)] rfl (by decide +kernel) rfl ⟨rfl, rfl⟩ rfl rfl (hx_mono (h1 c1 c2) (fun r m' h' => hx_pick [0] h'))
        · have c3 : (1 : Int) = 0 := by have h : ¬ ((1 : Int) ≠ 0) := c3; omega
          exfalso; omega
      · have c2 : ¬ (isDg (m 3 3)) := c2
        show hxn xs n yp_m52 159 [(0, .inr (.inl 61)), (1, .inr (.inl 3)), (2, .inl x2), (3, .inl 1)] [.inl 0] m Q
        refine hx_if .ne 167 (by decide +kernel) (fun c3 => ?_) (fun c3 => ?_)
        · have c3 : (0 : Int) ≠ 0 := c3
          exfalso; omega
        · have c3 : (0 : Int) = 0 := by have h : ¬ ((0 : Int) ≠ 0) := c3; omega
          refine hx_blk (npc := 163) (L' := [(0, .inr (.inl 61)), (1, .inr (.inl 3)), (2, .inl x2), (3, .inl 1)]) (st' := [.inr (.inl 3)]) (m' := m) [((162, .aload_n 1, 1, 0, 0, 0, 0), (0, 0, 0))] (by decide +kernel) rfl ?_
          exact hx_call (E := (163, .invokevirtual 54, 3, 28, 0, 3096, 0)) (M' := yp_m28) [.inr (.inl 3)] [] rfl (by decide +kernel) rfl ⟨rfl, rfl⟩ rfl rfl (hx_mono (h2 c1 c2) (fun r m' h' => hx_pick [] h'))
  · have c1 : x2 ≠ 62 := c1
    refine hx_blk (npc := 142) (L' := [(0, .inr (.inl 61)), (1, .inr (.inl 3)), (2, .inl x2)]) (st' := [.inl 93, .inl x2]) (m' := m) [((139, .iload_n 2, 1, 0, 0, 0, 0), (0, 0, 0)), ((140, .bipush 93, 2, 0, 0, 0, 0), (0, 0, 0))] (by decide +kernel) rfl ?_
    refine hx_cmp .ne 149 (by decide +kernel) (fun c2 => ?_) (fun c2 => ?_)
    · have c2 : x2 ≠ 93 := c2
      refine hx_blk (npc := 152) (L' := [(0, .inr (.inl 61)), (1, .inr (.inl 3)), (2, .inl x2), (3, .inl 0)]) (st' := [.inl 0]) (m' := m) [((149, .iconst 0, 1, 0, 0, 0, 0), (0, 0, 0)), ((150, .istore_n 3, 1, 0, 0, 0, 0), (0, 0, 0)), ((151, .iload_n 3, 1, 0, 0, 0, 0), (0, 0, 0))] (by decide +kernel) rfl ?_
      refine hx_if .eq 167 (by decide +kernel) (fun c3 => ?_) (fun c3 => ?_)
      · have c3 : (0 : Int) = 0 := c3
        refine hx_blk (npc := 176) (L' := [(0, .inr (.inl 61)), (1, .inr (.inl 3)), (2, .inl x2), (3, .inl 0)]) (st' := [.inl 0, .inl (m 61 5), .inr (.inl 66)]) (m' := m) [((167, .aload_n 0, 1, 0, 0, 0, 0), (0, 0, 0)), ((168, .getfield 24, 3, 5, 4, 2001, 0), (1, 61, 66)), ((171, .aload_n 0, 1, 0, 0, 0, 0), (0, 0, 0)), ((172, .getfield 33, 3, 5, 5, 2002, 0), (0, 61, 0)), ((175, .iload_n 3, 1, 0, 0, 0, 0), (0, 0, 0))] (by decide +kernel) rfl ?_
        refine hx_if .eq 187 (by decide +kernel) (fun c3 => ?_) (fun c3 => ?_)
        · have c3 : (0 : Int) = 0 := c3
          refine hx_blk (npc := 200) (L' := [(0, .inr (.inl 61)), (1, .inr (.inl 3)), (2, .inl x2), (3, .inl 0)]) (st' := [.inl 1]) (m' := (gx_u (gx_u m 66 (m 61 5).toNat 0) 61 5 (gx_w ((m 61 5) + 1)))) [((187, .iconst 0, 1, 0, 0, 0, 0), (0, 0, 0)), ((188, .iastore, 1, 0, 0, 0, 0), (0, 66, 0)), ((189, .aload_n 0, 1, 0, 0, 0, 0), (0, 0, 0)), ((190, .dup, 1, 0, 0, 0, 0), (0, 0, 0)), ((191, .getfield 33, 3, 5, 5, 2002, 0), (0, 61, 0)), ((194, .iconst 1, 1, 0, 0, 0, 0), (0, 0, 0)), ((195, .iadd, 1, 0, 0, 0, 0), (0, 0, 0)), ((196, .putfield 33, 3, 5, 5, 2002, 0), (0, 61, 0)), ((199, .iconst 1, 1, 0, 0, 0, 0), (0, 0, 0))] (by decide +kernel) rfl ?_
          exact hx_reti (by decide +kernel) (h3 c1 c2)
        · have c3 : (0 : Int) ≠ 0 := c3
          exfalso; omega
      · have c3 : (0 : Int) ≠ 0 := c3
        exfalso; omega
    · have c2 : x2 = 93 := by have h : ¬ (x2 ≠ 93) := c2; omega
      refine hx_blk (npc := 152) (L' := [(0, .inr (.inl 61)), (1, .inr (.inl 3)), (2, .inl x2), (3, .inl 1)]) (st' := [.inl 1]) (m' := m) [((145, .iconst 1, 1, 0, 0, 0, 0), (0, 0, 0)), ((146, .goto 4, 3, 0, 0, 0, 0), (0, 0, 0)), ((150, .istore_n 3, 1, 0, 0, 0, 0), (0, 0, 0)), ((151, .iload_n 3, 1, 0, 0, 0, 0), (0, 0, 0))] (by decide +kernel) rfl ?_
      refine hx_if .eq 167 (by decide +kernel) (fun c3 => ?_) (fun c3 => ?_)
      · have c3 : (1 : Int) = 0 := c3
        exfalso; omega
      · have c3 : (1 : Int) ≠ 0 := c3
        refine hx_blk (npc := 156) (L' := [(0, .inr (.inl 61)), (1, .inr (.inl 3)), (2, .inl x2), (3, .inl 1)]) (st' := [.inr (.inl 3)]) (m' := m) [((155, .aload_n 1, 1, 0, 0, 0, 0), (0, 0, 0))] (by decide +kernel) rfl ?_
        refine hx_call (E := (156, .invokevirtual 51, 3, 34, 0, 3095, 0)) (M' := yp_m34) [.inr (.inl 3)] [] rfl (by decide +kernel) rfl ⟨rfl, rfl⟩ rfl rfl (hs34 (fun c3 => ?_) (fun c3 => ?_))
        · have c3 : isDg (m 3 3) := c3
          show hxn xs n yp_m52 159 [(0, .inr (.inl 61)), (1, .inr (.inl 3)), (2, .inl x2), (3, .inl 1)] [.inl 1] m Q
          refine hx_if .ne 167 (by decide +kernel) (fun c4 => ?_) (fun c4 => ?_)
          · have c4 : (1 : Int) ≠ 0 := c4
            refine hx_blk (npc := 176) (L' := [(0, .inr (.inl 61)), (1, .inr (.inl 3)), (2, .inl x2), (3, .inl 1)]) (st' := [.inl 1, .inl (m 61 5), .inr (.inl 66)]) (m' := m) [((167, .aload_n 0, 1, 0, 0, 0, 0), (0, 0, 0)), ((168, .getfield 24, 3, 5, 4, 2001, 0), (1, 61, 66)), ((171, .aload_n 0, 1, 0, 0, 0, 0), (0, 0, 0)), ((172, .getfield 33, 3, 5, 5, 2002, 0), (0, 61, 0)), ((175, .iload_n 3, 1, 0, 0, 0, 0), (0, 0, 0))] (by decide +kernel) rfl ?_
            refine hx_if .eq 187 (by decide +kernel) (fun c4 => ?_) (fun c4 => ?_)
            · have c4 : (1 : Int) = 0 := c4
              exfalso; omega
            · have c4 : (1 : Int) ≠ 0 := c4
              refine hx_blk (npc := 181) (L' := [(0, .inr (.inl 61)), (1, .inr (.inl 3)), (2, .inl x2), (3, .inl 1)]) (st' := [.inl 4, .inr (.inl 3), .inl (m 61 5), .inr (.inl 66)]) (m' := m) [((179, .aload_n 1, 1, 0, 0, 0, 0), (0, 0, 0)), ((180, .iconst 4, 1, 0, 0, 0, 0), (0, 0, 0))] (by decide +kernel) rfl ?_
              exact hx_call (E := (181, .invokevirtual 64, 3, 35, 0, 3098, 0)) (M' := yp_m35) [.inr (.inl 3), .inl 4] [.inl (m 61 5), .inr (.inl 66)] rfl (by decide +kernel) rfl ⟨rfl, rfl⟩ rfl rfl (hx_mono (h4 c1 c2 c3) (fun r m' h' => hx_pick [0] h'))
          · have c4 : (1 : Int) = 0 := by have h : ¬ ((1 : Int) ≠ 0) := c4; omega
            exfalso; omega
        · have c3 : ¬ (isDg (m 3 3)) := c3
          show hxn xs n yp_m52 159 [(0, .inr (.inl 61)), (1, .inr (.inl 3)), (2, .inl x2), (3, .inl 1)] [.inl 0] m Q
          refine hx_if .ne 167 (by decide +kernel) (fun c4 => ?_) (fun c4 => ?_)
          · have c4 : (0 : Int) ≠ 0 := c4
            exfalso; omega
          · have c4 : (0 : Int) = 0 := by have h : ¬ ((0 : Int) ≠ 0) := c4; omega
            refine hx_blk (npc := 163) (L' := [(0, .inr (.inl 61)), (1, .inr (.inl 3)), (2, .inl x2), (3, .inl 1)]) (st' := [.inr (.inl 3)]) (m' := m) [((162, .aload_n 1, 1, 0, 0, 0, 0), (0, 0, 0))] (by decide +kernel) rfl ?_
            exact hx_call (E := (163, .invokevirtual 54, 3, 28, 0, 3096, 0)) (M' := yp_m28) [.inr (.inl 3)] [] rfl (by decide +kernel) rfl ⟨rfl, rfl⟩ rfl rfl (hx_mono (h5 c1 c2 c3) (fun r m' h' => hx_pick [] h'))

/-- readDeal from 166 on -/
theorem hr52_166 {xs : List Int32} {n : Nat} {Q : hQ} {m : gx_M} {s0 : Int}
    (h1 : Q (some (.inl s0)) m) : hxn xs (n + 1) yp_m52 166 [] [.inl s0] m Q := by
  exact hx_reti (by decide +kernel) h1

/-- readDeal from 184 on -/
theorem hr52_184 {xs : List Int32} {n : Nat} {Q : hQ} {m : gx_M} {s1 s2 : Int}
    (h1 : Q (some (.inl 1)) (gx_u (gx_u m 66 (s1).toNat s2) 61 5 (gx_w ((m 61 5) + 1)))) : hxn xs (n + 1) yp_m52 184 [(0, .inr (.inl 61))] [.inl s2, .inl s1, .inr (.inl 66)] m Q := by
  refine hx_blks (npc := 200) (L' := [(0, .inr (.inl 61))]) (st' := [.inl 1]) (m' := (gx_u (gx_u m 66 (s1).toNat s2) 61 5 (gx_w ((m 61 5) + 1)))) ((184, .goto 4, 3, 0, 0, 0, 0), (0, 0, 0)) [((188, .iastore, 1, 0, 0, 0, 0), (0, 66, 0)), ((189, .aload_n 0, 1, 0, 0, 0, 0), (0, 0, 0)), ((190, .dup, 1, 0, 0, 0, 0), (0, 0, 0)), ((191, .getfield 33, 3, 5, 5, 2002, 0), (0, 61, 0)), ((194, .iconst 1, 1, 0, 0, 0, 0), (0, 0, 0)), ((195, .iadd, 1, 0, 0, 0, 0), (0, 0, 0)), ((196, .putfield 33, 3, 5, 5, 2002, 0), (0, 61, 0)), ((199, .iconst 1, 1, 0, 0, 0, 0), (0, 0, 0))] (by decide +kernel) rfl ?_
  exact hx_reti (by decide +kernel) h1

/-- readAct from 0 on -/
theorem hr50_0 {xs : List Int32} {n : Nat} {Q : hQ} {m : gx_M}
    (h1 : (isDg (m 3 3)) → ((m 61 5) < 0) → hxn xs n yp_m29 0 [(0, .inr (.inl 3)), (1, .inl 4), (2, .inl (m 3 2))] [] m (fun r m' => hxn xs n yp_m50 39 [] (hrs r ++ []) m' Q))
    (h2 : (isDg (m 3 3)) → (0 ≤ (m 61 5)) → ((m 61 5) < 16) → hxn xs n yp_m35 0 [(0, .inr (.inl 3)), (1, .inl 2)] [] m (fun r m' => hxn xs n yp_m50 53 [(0, .inr (.inl 61)), (1, .inr (.inl 3)), (2, .inl (m 3 2))] (hrs r ++ [.inl (m 61 5), .inr (.inl 62)]) m' Q))
    (h3 : (isDg (m 3 3)) → (0 ≤ (m 61 5)) → (16 ≤ (m 61 5)) → hxn xs n yp_m29 0 [(0, .inr (.inl 3)), (1, .inl 4), (2, .inl (m 3 2))] [] m (fun r m' => hxn xs n yp_m50 39 [] (hrs r ++ []) m' Q))
    (h4 : (¬ (isDg (m 3 3))) → hxn xs n yp_m28 0 [(0, .inr (.inl 3))] [] m (fun r m' => hxn xs n yp_m50 11 [] (hrs r ++ []) m' Q)) : hxn xs (n + 1) yp_m50 0 [(0, .inr (.inl 61)), (1, .inr (.inl 3))] [] m Q := by
  refine hx_blks (npc := 1) (L' := [(0, .inr (.inl 61)), (1, .inr (.inl 3))]) (st' := [.inr (.inl 3)]) (m' := m) ((0, .aload_n 1, 1, 0, 0, 0, 0), (0, 0, 0)) [] (by decide +kernel) rfl ?_
  refine hx_call (E := (1, .invokevirtual 51, 3, 34, 0, 3095, 0)) (M' := yp_m34) [.inr (.inl 3)] [] rfl (by decide +kernel) rfl ⟨rfl, rfl⟩ rfl rfl (hs34 (fun c1 => ?_) (fun c1 => ?_))
  · have c1 : isDg (m 3 3) := c1
    show hxn xs n yp_m50 4 [(0, .inr (.inl 61)), (1, .inr (.inl 3))] [.inl 1] m Q
    refine hx_if .ne 12 (by decide +kernel) (fun c2 => ?_) (fun c2 => ?_)
    · have c2 : (1 : Int) ≠ 0 := c2
      refine hx_blk (npc := 21) (L' := [(0, .inr (.inl 61)), (1, .inr (.inl 3)), (2, .inl (m 3 2))]) (st' := [.inl (m 61 5)]) (m' := m) [((12, .aload_n 1, 1, 0, 0, 0, 0), (0, 0, 0)), ((13, .getfield 57, 3, 1, 2, 1052, 0), (0, 3, 0)), ((16, .istore_n 2, 1, 0, 0, 0, 0), (0, 0, 0)), ((17, .aload_n 0, 1, 0, 0, 0, 0), (0, 0, 0)), ((18, .getfield 33, 3, 5, 5, 2002, 0), (0, 61, 0))] (by decide +kernel) rfl ?_
      refine hx_if .lt 33 (by decide +kernel) (fun c2 => ?_) (fun c2 => ?_)
      · have c2 : (m 61 5) < 0 := c2
        refine hx_blk (npc := 36) (L' := [(0, .inr (.inl 61)), (1, .inr (.inl 3)), (2, .inl (m 3 2))]) (st' := [.inl (m 3 2), .inl 4, .inr (.inl 3)]) (m' := m) [((33, .aload_n 1, 1, 0, 0, 0, 0), (0, 0, 0)), ((34, .iconst 4, 1, 0, 0, 0, 0), (0, 0, 0)), ((35, .iload_n 2, 1, 0, 0, 0, 0), (0, 0, 0))] (by decide +kernel) rfl ?_
        exact hx_call (E := (36, .invokevirtual 60, 3, 29, 0, 3097, 0)) (M' := yp_m29) [.inr (.inl 3), .inl 4, .inl (m 3 2)] [] rfl (by decide +kernel) rfl ⟨rfl, rfl⟩ rfl rfl (hx_mono (h1 c1 c2) (fun r m' h' => hx_pick [] h'))
      · have c2 : 0 ≤ (m 61 5) := by have h : ¬ ((m 61 5) < 0) := c2; omega
        refine hx_blk (npc := 30) (L' := [(0, .inr (.inl 61)), (1, .inr (.inl 3)), (2, .inl (m 3 2))]) (st' := [.inl 16, .inl (m 61 5)]) (m' := m) [((24, .aload_n 0, 1, 0, 0, 0, 0), (0, 0, 0)), ((25, .getfield 33, 3, 5, 5, 2002, 0), (0, 61, 0)), ((28, .bipush 16, 2, 0, 0, 0, 0), (0, 0, 0))] (by decide +kernel) rfl ?_
        refine hx_cmp .lt 40 (by decide +kernel) (fun c3 => ?_) (fun c3 => ?_)
        · have c3 : (m 61 5) < 16 := c3
          refine hx_blk (npc := 50) (L' := [(0, .inr (.inl 61)), (1, .inr (.inl 3)), (2, .inl (m 3 2))]) (st' := [.inl 2, .inr (.inl 3), .inl (m 61 5), .inr (.inl 62)]) (m' := m) [((40, .aload_n 0, 1, 0, 0, 0, 0), (0, 0, 0)), ((41, .getfield 9, 3, 5, 0, 1237, 0), (1, 61, 62)), ((44, .aload_n 0, 1, 0, 0, 0, 0), (0, 0, 0)), ((45, .getfield 33, 3, 5, 5, 2002, 0), (0, 61, 0)), ((48, .aload_n 1, 1, 0, 0, 0, 0), (0, 0, 0)), ((49, .iconst 2, 1, 0, 0, 0, 0), (0, 0, 0))] (by decide +kernel) rfl ?_
          exact hx_call (E := (50, .invokevirtual 64, 3, 35, 0, 3098, 0)) (M' := yp_m35) [.inr (.inl 3), .inl 2] [.inl (m 61 5), .inr (.inl 62)] rfl (by decide +kernel) rfl ⟨rfl, rfl⟩ rfl rfl (hx_mono (h2 c1 c2 c3) (fun r m' h' => hx_pick [0, 1, 2] h'))
        · have c3 : 16 ≤ (m 61 5) := by have h : ¬ ((m 61 5) < 16) := c3; omega
          refine hx_blk (npc := 36) (L' := [(0, .inr (.inl 61)), (1, .inr (.inl 3)), (2, .inl (m 3 2))]) (st' := [.inl (m 3 2), .inl 4, .inr (.inl 3)]) (m' := m) [((33, .aload_n 1, 1, 0, 0, 0, 0), (0, 0, 0)), ((34, .iconst 4, 1, 0, 0, 0, 0), (0, 0, 0)), ((35, .iload_n 2, 1, 0, 0, 0, 0), (0, 0, 0))] (by decide +kernel) rfl ?_
          exact hx_call (E := (36, .invokevirtual 60, 3, 29, 0, 3097, 0)) (M' := yp_m29) [.inr (.inl 3), .inl 4, .inl (m 3 2)] [] rfl (by decide +kernel) rfl ⟨rfl, rfl⟩ rfl rfl (hx_mono (h3 c1 c2 c3) (fun r m' h' => hx_pick [] h'))
    · have c2 : (1 : Int) = 0 := by have h : ¬ ((1 : Int) ≠ 0) := c2; omega
      exfalso; omega
  · have c1 : ¬ (isDg (m 3 3)) := c1
    show hxn xs n yp_m50 4 [(0, .inr (.inl 61)), (1, .inr (.inl 3))] [.inl 0] m Q
    refine hx_if .ne 12 (by decide +kernel) (fun c2 => ?_) (fun c2 => ?_)
    · have c2 : (0 : Int) ≠ 0 := c2
      exfalso; omega
    · have c2 : (0 : Int) = 0 := by have h : ¬ ((0 : Int) ≠ 0) := c2; omega
      refine hx_blk (npc := 8) (L' := [(0, .inr (.inl 61)), (1, .inr (.inl 3))]) (st' := [.inr (.inl 3)]) (m' := m) [((7, .aload_n 1, 1, 0, 0, 0, 0), (0, 0, 0))] (by decide +kernel) rfl ?_
      exact hx_call (E := (8, .invokevirtual 54, 3, 28, 0, 3096, 0)) (M' := yp_m28) [.inr (.inl 3)] [] rfl (by decide +kernel) rfl ⟨rfl, rfl⟩ rfl rfl (hx_mono (h4 c1) (fun r m' h' => hx_pick [] h'))

/-- readAct from 11 on -/
theorem hr50_11 {xs : List Int32} {n : Nat} {Q : hQ} {m : gx_M} {s0 : Int}
    (h1 : Q (some (.inl s0)) m) : hxn xs (n + 1) yp_m50 11 [] [.inl s0] m Q := by
  exact hx_reti (by decide +kernel) h1

/-- readAct from 39 on -/
theorem hr50_39 {xs : List Int32} {n : Nat} {Q : hQ} {m : gx_M} {s0 : Int}
    (h1 : Q (some (.inl s0)) m) : hxn xs (n + 1) yp_m50 39 [] [.inl s0] m Q := by
  exact hx_reti (by decide +kernel) h1

/-- readAct from 53 on -/
theorem hr50_53 {xs : List Int32} {n : Nat} {Q : hQ} {m : gx_M} {x2 s1 s2 : Int}
    (h1 : (((gx_u m 62 (s1).toNat s2) 62 (m 61 5).toNat) < 40) → (isPn (m 3 3)) → hxn xs n yp_m30 0 [(0, .inr (.inl 3))] [] (gx_u (gx_u m 62 (s1).toNat s2) 63 (m 61 5).toNat (gx_w ((m 3 3) - 97))) (fun r m' => hxn xs n yp_m50 110 [(0, .inr (.inl 61)), (1, .inr (.inl 3))] (hrs r ++ []) m' Q))
    (h2 : (((gx_u m 62 (s1).toNat s2) 62 (m 61 5).toNat) < 40) → (¬ (isPn (m 3 3))) → hxn xs n yp_m28 0 [(0, .inr (.inl 3))] [] (gx_u m 62 (s1).toNat s2) (fun r m' => hxn xs n yp_m50 89 [] (hrs r ++ []) m' Q))
    (h3 : (40 ≤ ((gx_u m 62 (s1).toNat s2) 62 (m 61 5).toNat)) → hxn xs n yp_m29 0 [(0, .inr (.inl 3)), (1, .inl 3), (2, .inl x2)] [] (gx_u m 62 (s1).toNat s2) (fun r m' => hxn xs n yp_m50 74 [] (hrs r ++ []) m' Q)) : hxn xs (n + 1) yp_m50 53 [(0, .inr (.inl 61)), (1, .inr (.inl 3)), (2, .inl x2)] [.inl s2, .inl s1, .inr (.inl 62)] m Q := by
  refine hx_blks (npc := 65) (L' := [(0, .inr (.inl 61)), (1, .inr (.inl 3)), (2, .inl x2)]) (st' := [.inl 40, .inl ((gx_u m 62 (s1).toNat s2) 62 (m 61 5).toNat)]) (m' := (gx_u m 62 (s1).toNat s2)) ((53, .iastore, 1, 0, 0, 0, 0), (0, 62, 0)) [((54, .aload_n 0, 1, 0, 0, 0, 0), (0, 0, 0)), ((55, .getfield 9, 3, 5, 0, 1237, 0), (1, 61, 62)), ((58, .aload_n 0, 1, 0, 0, 0, 0), (0, 0, 0)), ((59, .getfield 33, 3, 5, 5, 2002, 0), (0, 61, 0)), ((62, .iaload, 1, 0, 0, 0, 0), (0, 62, 0)), ((63, .bipush 40, 2, 0, 0, 0, 0), (0, 0, 0))] (by decide +kernel) rfl ?_
  refine hx_cmp .lt 75 (by decide +kernel) (fun c1 => ?_) (fun c1 => ?_)
  · have c1 : ((gx_u m 62 (s1).toNat s2) 62 (m 61 5).toNat) < 40 := c1
    refine hx_blk (npc := 79) (L' := [(0, .inr (.inl 61)), (1, .inr (.inl 3)), (2, .inl x2)]) (st' := [.inl (m 3 3)]) (m' := (gx_u m 62 (s1).toNat s2)) [((75, .aload_n 1, 1, 0, 0, 0, 0), (0, 0, 0)), ((76, .getfield 68, 3, 1, 3, 1056, 0), (0, 3, 0))] (by decide +kernel) rfl ?_
    refine hx_call (E := (79, .invokestatic 70, 3, 51, 0, 3099, 0)) (M' := yp_m51) [.inl (m 3 3)] [] rfl (by decide +kernel) rfl ⟨rfl, rfl⟩ rfl rfl (hs51 (fun c2 => ?_) (fun c2 => ?_))
    · have c2 : isPn (m 3 3) := c2
      show hxn xs n yp_m50 82 [(0, .inr (.inl 61)), (1, .inr (.inl 3)), (2, .inl x2)] [.inl 1] (gx_u m 62 (s1).toNat s2) Q
      refine hx_if .ne 90 (by decide +kernel) (fun c3 => ?_) (fun c3 => ?_)
      · have c3 : (1 : Int) ≠ 0 := c3
        refine hx_blk (npc := 107) (L' := [(0, .inr (.inl 61)), (1, .inr (.inl 3)), (2, .inl x2)]) (st' := [.inr (.inl 3)]) (m' := (gx_u (gx_u m 62 (s1).toNat s2) 63 (m 61 5).toNat (gx_w ((m 3 3) - 97)))) [((90, .aload_n 0, 1, 0, 0, 0, 0), (0, 0, 0)), ((91, .getfield 15, 3, 5, 1, 1238, 0), (1, 61, 63)), ((94, .aload_n 0, 1, 0, 0, 0, 0), (0, 0, 0)), ((95, .getfield 33, 3, 5, 5, 2002, 0), (0, 61, 0)), ((98, .aload_n 1, 1, 0, 0, 0, 0), (0, 0, 0)), ((99, .getfield 68, 3, 1, 3, 1056, 0), (0, 3, 0)), ((102, .bipush 97, 2, 0, 0, 0, 0), (0, 0, 0)), ((104, .isub, 1, 0, 0, 0, 0), (0, 0, 0)), ((105, .iastore, 1, 0, 0, 0, 0), (0, 63, 0)), ((106, .aload_n 1, 1, 0, 0, 0, 0), (0, 0, 0))] (by decide +kernel) rfl ?_
        exact hx_call (E := (107, .invokevirtual 73, 3, 30, 0, 3102, 0)) (M' := yp_m30) [.inr (.inl 3)] [] rfl (by decide +kernel) rfl ⟨rfl, rfl⟩ rfl rfl (hx_mono (h1 c1 c2) (fun r m' h' => hx_pick [0, 1] h'))
      · have c3 : (1 : Int) = 0 := by have h : ¬ ((1 : Int) ≠ 0) := c3; omega
        exfalso; omega
    · have c2 : ¬ (isPn (m 3 3)) := c2
      show hxn xs n yp_m50 82 [(0, .inr (.inl 61)), (1, .inr (.inl 3)), (2, .inl x2)] [.inl 0] (gx_u m 62 (s1).toNat s2) Q
      refine hx_if .ne 90 (by decide +kernel) (fun c3 => ?_) (fun c3 => ?_)
      · have c3 : (0 : Int) ≠ 0 := c3
        exfalso; omega
      · have c3 : (0 : Int) = 0 := by have h : ¬ ((0 : Int) ≠ 0) := c3; omega
        refine hx_blk (npc := 86) (L' := [(0, .inr (.inl 61)), (1, .inr (.inl 3)), (2, .inl x2)]) (st' := [.inr (.inl 3)]) (m' := (gx_u m 62 (s1).toNat s2)) [((85, .aload_n 1, 1, 0, 0, 0, 0), (0, 0, 0))] (by decide +kernel) rfl ?_
        exact hx_call (E := (86, .invokevirtual 54, 3, 28, 0, 3096, 0)) (M' := yp_m28) [.inr (.inl 3)] [] rfl (by decide +kernel) rfl ⟨rfl, rfl⟩ rfl rfl (hx_mono (h2 c1 c2) (fun r m' h' => hx_pick [] h'))
  · have c1 : 40 ≤ ((gx_u m 62 (s1).toNat s2) 62 (m 61 5).toNat) := by have h : ¬ (((gx_u m 62 (s1).toNat s2) 62 (m 61 5).toNat) < 40) := c1; omega
    refine hx_blk (npc := 71) (L' := [(0, .inr (.inl 61)), (1, .inr (.inl 3)), (2, .inl x2)]) (st' := [.inl x2, .inl 3, .inr (.inl 3)]) (m' := (gx_u m 62 (s1).toNat s2)) [((68, .aload_n 1, 1, 0, 0, 0, 0), (0, 0, 0)), ((69, .iconst 3, 1, 0, 0, 0, 0), (0, 0, 0)), ((70, .iload_n 2, 1, 0, 0, 0, 0), (0, 0, 0))] (by decide +kernel) rfl ?_
    exact hx_call (E := (71, .invokevirtual 60, 3, 29, 0, 3097, 0)) (M' := yp_m29) [.inr (.inl 3), .inl 3, .inl x2] [] rfl (by decide +kernel) rfl ⟨rfl, rfl⟩ rfl rfl (hx_mono (h3 c1) (fun r m' h' => hx_pick [] h'))

/-- readAct from 74 on -/
theorem hr50_74 {xs : List Int32} {n : Nat} {Q : hQ} {m : gx_M} {s0 : Int}
    (h1 : Q (some (.inl s0)) m) : hxn xs (n + 1) yp_m50 74 [] [.inl s0] m Q := by
  exact hx_reti (by decide +kernel) h1

/-- readAct from 89 on -/
theorem hr50_89 {xs : List Int32} {n : Nat} {Q : hQ} {m : gx_M} {s0 : Int}
    (h1 : Q (some (.inl s0)) m) : hxn xs (n + 1) yp_m50 89 [] [.inl s0] m Q := by
  exact hx_reti (by decide +kernel) h1

/-- readAct from 110 on -/
theorem hr50_110 {xs : List Int32} {n : Nat} {Q : hQ} {m : gx_M}
    (h1 : hxn xs n yp_m52 0 [(0, .inr (.inl 61)), (1, .inr (.inl 3))] [] m (fun r m' => hxn xs n yp_m50 115 [] (hrs r ++ []) m' Q)) : hxn xs (n + 1) yp_m50 110 [(0, .inr (.inl 61)), (1, .inr (.inl 3))] [] m Q := by
  refine hx_blks (npc := 112) (L' := [(0, .inr (.inl 61)), (1, .inr (.inl 3))]) (st' := [.inr (.inl 3), .inr (.inl 61)]) (m' := m) ((110, .aload_n 0, 1, 0, 0, 0, 0), (0, 0, 0)) [((111, .aload_n 1, 1, 0, 0, 0, 0), (0, 0, 0))] (by decide +kernel) rfl ?_
  exact hx_call (E := (112, .invokevirtual 76, 3, 52, 0, 3103, 0)) (M' := yp_m52) [.inr (.inl 61), .inr (.inl 3)] [] rfl (by decide +kernel) rfl ⟨rfl, rfl⟩ rfl rfl (hx_mono h1 (fun r m' h' => hx_pick [] h'))

/-- readAct from 115 on -/
theorem hr50_115 {xs : List Int32} {n : Nat} {Q : hQ} {m : gx_M} {s0 : Int}
    (h1 : Q (some (.inl s0)) m) : hxn xs (n + 1) yp_m50 115 [] [.inl s0] m Q := by
  exact hx_reti (by decide +kernel) h1

/-- read from 0 on -/
theorem hr49_0 {xs : List Int32} {n : Nat} {Q : hQ} {m : gx_M}
    (h1 : hxn xs n yp_m49 7 [(0, .inr (.inl 61)), (1, .inr (.inl 3)), (2, .inl 0)] [] (gx_u m 61 5 0) Q) : hxn xs (n + 1) yp_m49 0 [(0, .inr (.inl 61)), (1, .inr (.inl 3))] [] m Q := by
  refine hx_blks (npc := 7) (L' := [(0, .inr (.inl 61)), (1, .inr (.inl 3)), (2, .inl 0)]) (st' := []) (m' := (gx_u m 61 5 0)) ((0, .aload_n 0, 1, 0, 0, 0, 0), (0, 0, 0)) [((1, .iconst 0, 1, 0, 0, 0, 0), (0, 0, 0)), ((2, .putfield 33, 3, 5, 5, 2002, 0), (0, 61, 0)), ((5, .iconst 0, 1, 0, 0, 0, 0), (0, 0, 0)), ((6, .istore_n 2, 1, 0, 0, 0, 0), (0, 0, 0))] (by decide +kernel) rfl ?_
  exact hx_pick [0, 1, 2] h1

/-- read from 7 on -/
theorem hr49_7 {xs : List Int32} {n : Nat} {Q : hQ} {m : gx_M} {x2 : Int}
    (h1 : (16 < x2) → Q (some (.inl 0)) m)
    (h2 : (x2 ≤ 16) → hxn xs n yp_m50 0 [(0, .inr (.inl 61)), (1, .inr (.inl 3))] [] m (fun r m' => hxn xs n yp_m49 18 [(0, .inr (.inl 61)), (1, .inr (.inl 3)), (2, .inl x2)] (hrs r ++ []) m' Q)) : hxn xs (n + 1) yp_m49 7 [(0, .inr (.inl 61)), (1, .inr (.inl 3)), (2, .inl x2)] [] m Q := by
  refine hx_blks (npc := 10) (L' := [(0, .inr (.inl 61)), (1, .inr (.inl 3)), (2, .inl x2)]) (st' := [.inl 16, .inl x2]) (m' := m) ((7, .iload_n 2, 1, 0, 0, 0, 0), (0, 0, 0)) [((8, .bipush 16, 2, 0, 0, 0, 0), (0, 0, 0))] (by decide +kernel) rfl ?_
  refine hx_cmp .gt 49 (by decide +kernel) (fun c1 => ?_) (fun c1 => ?_)
  · have c1 : 16 < x2 := c1
    refine hx_blk (npc := 50) (L' := [(0, .inr (.inl 61)), (1, .inr (.inl 3)), (2, .inl x2)]) (st' := [.inl 0]) (m' := m) [((49, .iconst 0, 1, 0, 0, 0, 0), (0, 0, 0))] (by decide +kernel) rfl ?_
    exact hx_reti (by decide +kernel) (h1 c1)
  · have c1 : x2 ≤ 16 := by have h : ¬ (16 < x2) := c1; omega
    refine hx_blk (npc := 15) (L' := [(0, .inr (.inl 61)), (1, .inr (.inl 3)), (2, .inl x2)]) (st' := [.inr (.inl 3), .inr (.inl 61)]) (m' := m) [((13, .aload_n 0, 1, 0, 0, 0, 0), (0, 0, 0)), ((14, .aload_n 1, 1, 0, 0, 0, 0), (0, 0, 0))] (by decide +kernel) rfl ?_
    exact hx_call (E := (15, .invokevirtual 37, 3, 50, 0, 3091, 0)) (M' := yp_m50) [.inr (.inl 61), .inr (.inl 3)] [] rfl (by decide +kernel) rfl ⟨rfl, rfl⟩ rfl rfl (hx_mono (h2 c1) (fun r m' h' => hx_pick [0, 1, 2] h'))

/-- read from 18 on -/
theorem hr49_18 {xs : List Int32} {n : Nat} {Q : hQ} {m : gx_M} {x2 s0 : Int}
    (h1 : (s0 ≠ 0) → hxn xs n yp_m46 0 [(0, .inr (.inl 3))] [] m (fun r m' => hxn xs n yp_m49 27 [(0, .inr (.inl 61)), (1, .inr (.inl 3)), (2, .inl x2)] (hrs r ++ []) m' Q))
    (h2 : (s0 = 0) → Q (some (.inl 0)) m) : hxn xs (n + 1) yp_m49 18 [(0, .inr (.inl 61)), (1, .inr (.inl 3)), (2, .inl x2)] [.inl s0] m Q := by
  refine hx_ifs .ne 23 (by decide +kernel) (fun c1 => ?_) (fun c1 => ?_)
  · have c1 : s0 ≠ 0 := c1
    refine hx_blk (npc := 24) (L' := [(0, .inr (.inl 61)), (1, .inr (.inl 3)), (2, .inl x2)]) (st' := [.inr (.inl 3)]) (m' := m) [((23, .aload_n 1, 1, 0, 0, 0, 0), (0, 0, 0))] (by decide +kernel) rfl ?_
    exact hx_call (E := (24, .invokevirtual 41, 3, 46, 0, 3107, 0)) (M' := yp_m46) [.inr (.inl 3)] [] rfl (by decide +kernel) rfl ⟨rfl, rfl⟩ rfl rfl (hx_mono (h1 c1) (fun r m' h' => hx_pick [0, 1, 2] h'))
  · have c1 : s0 = 0 := by have h : ¬ (s0 ≠ 0) := c1; omega
    refine hx_blk (npc := 22) (L' := [(0, .inr (.inl 61)), (1, .inr (.inl 3)), (2, .inl x2)]) (st' := [.inl 0]) (m' := m) [((21, .iconst 0, 1, 0, 0, 0, 0), (0, 0, 0))] (by decide +kernel) rfl ?_
    exact hx_reti (by decide +kernel) (h2 c1)

/-- read from 27 on -/
theorem hr49_27 {xs : List Int32} {n : Nat} {Q : hQ} {m : gx_M} {x2 s0 : Int}
    (h1 : (s0 = 0) → hxn xs n yp_m37 0 [(0, .inr (.inl 3)), (1, .inl 59)] [] m (fun r m' => hxn xs n yp_m49 38 [(0, .inr (.inl 61)), (1, .inr (.inl 3)), (2, .inl x2)] (hrs r ++ []) m' Q))
    (h2 : (s0 ≠ 0) → Q (some (.inl 1)) m) : hxn xs (n + 1) yp_m49 27 [(0, .inr (.inl 61)), (1, .inr (.inl 3)), (2, .inl x2)] [.inl s0] m Q := by
  refine hx_ifs .eq 32 (by decide +kernel) (fun c1 => ?_) (fun c1 => ?_)
  · have c1 : s0 = 0 := c1
    refine hx_blk (npc := 35) (L' := [(0, .inr (.inl 61)), (1, .inr (.inl 3)), (2, .inl x2)]) (st' := [.inl 59, .inr (.inl 3)]) (m' := m) [((32, .aload_n 1, 1, 0, 0, 0, 0), (0, 0, 0)), ((33, .bipush 59, 2, 0, 0, 0, 0), (0, 0, 0))] (by decide +kernel) rfl ?_
    exact hx_call (E := (35, .invokevirtual 47, 3, 37, 0, 3108, 0)) (M' := yp_m37) [.inr (.inl 3), .inl 59] [] rfl (by decide +kernel) rfl ⟨rfl, rfl⟩ rfl rfl (hx_mono (h1 c1) (fun r m' h' => hx_pick [0, 1, 2] h'))
  · have c1 : s0 ≠ 0 := c1
    refine hx_blk (npc := 31) (L' := [(0, .inr (.inl 61)), (1, .inr (.inl 3)), (2, .inl x2)]) (st' := [.inl 1]) (m' := m) [((30, .iconst 1, 1, 0, 0, 0, 0), (0, 0, 0))] (by decide +kernel) rfl ?_
    exact hx_reti (by decide +kernel) (h2 c1)

/-- read from 38 on -/
theorem hr49_38 {xs : List Int32} {n : Nat} {Q : hQ} {m : gx_M} {x2 s0 : Int}
    (h1 : (s0 ≠ 0) → hxn xs n yp_m49 7 [(0, .inr (.inl 61)), (1, .inr (.inl 3)), (2, .inl (gx_w (x2 + 1)))] [] m Q)
    (h2 : (s0 = 0) → Q (some (.inl 0)) m) : hxn xs (n + 1) yp_m49 38 [(0, .inr (.inl 61)), (1, .inr (.inl 3)), (2, .inl x2)] [.inl s0] m Q := by
  refine hx_ifs .ne 43 (by decide +kernel) (fun c1 => ?_) (fun c1 => ?_)
  · have c1 : s0 ≠ 0 := c1
    refine hx_blk (npc := 7) (L' := [(0, .inr (.inl 61)), (1, .inr (.inl 3)), (2, .inl (gx_w (x2 + 1)))]) (st' := []) (m' := m) [((43, .iinc 2 1, 3, 0, 0, 0, 0), (0, 0, 0)), ((46, .goto (-39), 3, 0, 0, 0, 0), (0, 0, 0))] (by decide +kernel) rfl ?_
    exact hx_pick [0, 1, 2] (h1 c1)
  · have c1 : s0 = 0 := by have h : ¬ (s0 ≠ 0) := c1; omega
    refine hx_blk (npc := 42) (L' := [(0, .inr (.inl 61)), (1, .inr (.inl 3)), (2, .inl x2)]) (st' := [.inl 0]) (m' := m) [((41, .iconst 0, 1, 0, 0, 0, 0), (0, 0, 0))] (by decide +kernel) rfl ?_
    exact hx_reti (by decide +kernel) (h2 c1)

/-- deals from 0 on -/
theorem hr48_0 {xs : List Int32} {n : Nat} {Q : hQ} {m : gx_M} {x1 : Int}
    (h1 : hxn xs n yp_m23 0 [(0, .inr (.inl 1)), (1, .inl x1), (2, .inl 160)] [] m (fun r m' => hxn xs n yp_m48 11 [(0, .inr (.inl 0)), (1, .inl x1)] (hrs r ++ []) m' Q)) : hxn xs (n + 1) yp_m48 0 [(0, .inr (.inl 0)), (1, .inl x1)] [] m Q := by
  refine hx_blks (npc := 8) (L' := [(0, .inr (.inl 0)), (1, .inl x1)]) (st' := [.inl 160, .inl x1, .inr (.inl 1)]) (m' := m) ((0, .aload_n 0, 1, 0, 0, 0, 0), (0, 0, 0)) [((1, .getfield 10, 3, 9, 0, 2119, 0), (1, 0, 1)), ((4, .iload_n 1, 1, 0, 0, 0, 0), (0, 0, 0)), ((5, .sipush 160, 3, 0, 0, 0, 0), (0, 0, 0))] (by decide +kernel) rfl ?_
  exact hx_call (E := (8, .invokevirtual 124, 3, 23, 0, 2212, 0)) (M' := yp_m23) [.inr (.inl 1), .inl x1, .inl 160] [] rfl (by decide +kernel) rfl ⟨rfl, rfl⟩ rfl rfl (hx_mono h1 (fun r m' h' => hx_pick [0, 1] h'))

/-- deals from 11 on -/
theorem hr48_11 {xs : List Int32} {n : Nat} {Q : hQ} {m : gx_M} {x1 s0 : Int}
    (h1 : (s0 ≠ 0) → hxn xs n yp_m24 0 [(0, .inr (.inl 3)), (1, .inr (.inl 1)), (2, .inl x1)] [] m (fun r m' => hxn xs n yp_m48 28 [(0, .inr (.inl 0))] (hrs r ++ []) m' Q))
    (h2 : (s0 = 0) → Q (some (.inl (-1))) m) : hxn xs (n + 1) yp_m48 11 [(0, .inr (.inl 0)), (1, .inl x1)] [.inl s0] m Q := by
  refine hx_ifs .ne 16 (by decide +kernel) (fun c1 => ?_) (fun c1 => ?_)
  · have c1 : s0 ≠ 0 := c1
    refine hx_blk (npc := 25) (L' := [(0, .inr (.inl 0)), (1, .inl x1)]) (st' := [.inl x1, .inr (.inl 1), .inr (.inl 3)]) (m' := m) [((16, .aload_n 0, 1, 0, 0, 0, 0), (0, 0, 0)), ((17, .getfield 19, 3, 9, 1, 2120, 0), (1, 0, 3)), ((20, .aload_n 0, 1, 0, 0, 0, 0), (0, 0, 0)), ((21, .getfield 10, 3, 9, 0, 2119, 0), (1, 0, 1)), ((24, .iload_n 1, 1, 0, 0, 0, 0), (0, 0, 0))] (by decide +kernel) rfl ?_
    exact hx_call (E := (25, .invokevirtual 128, 3, 24, 0, 2216, 0)) (M' := yp_m24) [.inr (.inl 3), .inr (.inl 1), .inl x1] [] rfl (by decide +kernel) rfl ⟨rfl, rfl⟩ rfl rfl (hx_mono (h1 c1) (fun r m' h' => hx_pick [0] h'))
  · have c1 : s0 = 0 := by have h : ¬ (s0 ≠ 0) := c1; omega
    refine hx_blk (npc := 15) (L' := [(0, .inr (.inl 0)), (1, .inl x1)]) (st' := [.inl (-1)]) (m' := m) [((14, .iconst (-1), 1, 0, 0, 0, 0), (0, 0, 0))] (by decide +kernel) rfl ?_
    exact hx_reti (by decide +kernel) (h2 c1)

/-- deals from 28 on -/
theorem hr48_28 {xs : List Int32} {n : Nat} {Q : hQ} {m : gx_M}
    (h1 : hxn xs n yp_m49 0 [(0, .inr (.inl 61)), (1, .inr (.inl 3))] [] m (fun r m' => hxn xs n yp_m48 39 [(0, .inr (.inl 0))] (hrs r ++ []) m' Q)) : hxn xs (n + 1) yp_m48 28 [(0, .inr (.inl 0))] [] m Q := by
  refine hx_blks (npc := 36) (L' := [(0, .inr (.inl 0))]) (st' := [.inr (.inl 3), .inr (.inl 61)]) (m' := m) ((28, .aload_n 0, 1, 0, 0, 0, 0), (0, 0, 0)) [((29, .getfield 53, 3, 9, 7, 2126, 0), (1, 0, 61)), ((32, .aload_n 0, 1, 0, 0, 0, 0), (0, 0, 0)), ((33, .getfield 19, 3, 9, 1, 2120, 0), (1, 0, 3))] (by decide +kernel) rfl ?_
  exact hx_call (E := (36, .invokevirtual 147, 3, 49, 0, 3087, 0)) (M' := yp_m49) [.inr (.inl 61), .inr (.inl 3)] [] rfl (by decide +kernel) rfl ⟨rfl, rfl⟩ rfl rfl (hx_mono h1 (fun r m' h' => hx_pick [0] h'))

/-- deals from 39 on -/
theorem hr48_39 {xs : List Int32} {n : Nat} {Q : hQ} {m : gx_M} {s0 : Int}
    (h1 : (s0 ≠ 0) → hxn xs n yp_m48 54 [(0, .inr (.inl 0)), (2, .inl 0), (3, .inl 0)] [] m Q)
    (h2 : (s0 = 0) → Q (some (.inl (m 3 4))) m) : hxn xs (n + 1) yp_m48 39 [(0, .inr (.inl 0))] [.inl s0] m Q := by
  refine hx_ifs .ne 50 (by decide +kernel) (fun c1 => ?_) (fun c1 => ?_)
  · have c1 : s0 ≠ 0 := c1
    refine hx_blk (npc := 54) (L' := [(0, .inr (.inl 0)), (2, .inl 0), (3, .inl 0)]) (st' := []) (m' := m) [((50, .iconst 0, 1, 0, 0, 0, 0), (0, 0, 0)), ((51, .istore_n 2, 1, 0, 0, 0, 0), (0, 0, 0)), ((52, .iconst 0, 1, 0, 0, 0, 0), (0, 0, 0)), ((53, .istore_n 3, 1, 0, 0, 0, 0), (0, 0, 0))] (by decide +kernel) rfl ?_
    exact hx_pick [0, 2, 3] (h1 c1)
  · have c1 : s0 = 0 := by have h : ¬ (s0 ≠ 0) := c1; omega
    refine hx_blk (npc := 49) (L' := [(0, .inr (.inl 0))]) (st' := [.inl (m 3 4)]) (m' := m) [((42, .aload_n 0, 1, 0, 0, 0, 0), (0, 0, 0)), ((43, .getfield 19, 3, 9, 1, 2120, 0), (1, 0, 3)), ((46, .getfield 136, 3, 1, 4, 1058, 0), (0, 3, 0))] (by decide +kernel) rfl ?_
    exact hx_reti (by decide +kernel) (h2 c1)

/-- deals from 54 on -/
theorem hr48_54 {xs : List Int32} {n : Nat} {Q : hQ} {m : gx_M} {x2 x3 : Int}
    (h1 : ((m 61 5) ≤ x3) → Q (some (.inl x2)) m)
    (h2 : (x3 < (m 61 5)) → hxn xs n yp_m53 0 [(0, .inr (.inl 61)), (1, .inr (.inl 5)), (2, .inr (.inl 44)), (3, .inl x3)] [] m (fun r m' => hxn xs n yp_m48 81 [(0, .inr (.inl 0)), (2, .inl x2), (3, .inl x3)] (hrs r ++ []) m' Q)) : hxn xs (n + 1) yp_m48 54 [(0, .inr (.inl 0)), (2, .inl x2), (3, .inl x3)] [] m Q := by
  refine hx_blks (npc := 62) (L' := [(0, .inr (.inl 0)), (2, .inl x2), (3, .inl x3)]) (st' := [.inl (m 61 5), .inl x3]) (m' := m) ((54, .iload_n 3, 1, 0, 0, 0, 0), (0, 0, 0)) [((55, .aload_n 0, 1, 0, 0, 0, 0), (0, 0, 0)), ((56, .getfield 53, 3, 9, 7, 2126, 0), (1, 0, 61)), ((59, .getfield 148, 3, 5, 5, 2003, 0), (0, 61, 0))] (by decide +kernel) rfl ?_
  refine hx_cmp .ge 93 (by decide +kernel) (fun c1 => ?_) (fun c1 => ?_)
  · have c1 : (m 61 5) ≤ x3 := c1
    refine hx_blk (npc := 94) (L' := [(0, .inr (.inl 0)), (2, .inl x2), (3, .inl x3)]) (st' := [.inl x2]) (m' := m) [((93, .iload_n 2, 1, 0, 0, 0, 0), (0, 0, 0))] (by decide +kernel) rfl ?_
    exact hx_reti (by decide +kernel) (h1 c1)
  · have c1 : x3 < (m 61 5) := by have h : ¬ ((m 61 5) ≤ x3) := c1; omega
    refine hx_blk (npc := 78) (L' := [(0, .inr (.inl 0)), (2, .inl x2), (3, .inl x3)]) (st' := [.inl x3, .inr (.inl 44), .inr (.inl 5), .inr (.inl 61)]) (m' := m) [((65, .aload_n 0, 1, 0, 0, 0, 0), (0, 0, 0)), ((66, .getfield 53, 3, 9, 7, 2126, 0), (1, 0, 61)), ((69, .aload_n 0, 1, 0, 0, 0, 0), (0, 0, 0)), ((70, .getfield 26, 3, 9, 2, 2121, 0), (1, 0, 5)), ((73, .aload_n 0, 1, 0, 0, 0, 0), (0, 0, 0)), ((74, .getfield 39, 3, 9, 5, 2124, 0), (1, 0, 44)), ((77, .iload_n 3, 1, 0, 0, 0, 0), (0, 0, 0))] (by decide +kernel) rfl ?_
    exact hx_call (E := (78, .invokevirtual 149, 3, 53, 0, 3109, 0)) (M' := yp_m53) [.inr (.inl 61), .inr (.inl 5), .inr (.inl 44), .inl x3] [] rfl (by decide +kernel) rfl ⟨rfl, rfl⟩ rfl rfl (hx_mono (h2 c1) (fun r m' h' => hx_pick [0, 2, 3] h'))

/-- deals from 81 on -/
theorem hr48_81 {xs : List Int32} {n : Nat} {Q : hQ} {m : gx_M} {x2 x3 s0 : Int}
    (h1 : (s0 = 0) → hxn xs n yp_m48 54 [(0, .inr (.inl 0)), (2, .inl x2), (3, .inl (gx_w (x3 + 1)))] [] m Q)
    (h2 : (s0 ≠ 0) → hxn xs n yp_m48 54 [(0, .inr (.inl 0)), (2, .inl (gx_w (x2 + 1))), (3, .inl (gx_w (x3 + 1)))] [] m Q) : hxn xs (n + 1) yp_m48 81 [(0, .inr (.inl 0)), (2, .inl x2), (3, .inl x3)] [.inl s0] m Q := by
  refine hx_ifs .eq 87 (by decide +kernel) (fun c1 => ?_) (fun c1 => ?_)
  · have c1 : s0 = 0 := c1
    refine hx_blk (npc := 54) (L' := [(0, .inr (.inl 0)), (2, .inl x2), (3, .inl (gx_w (x3 + 1)))]) (st' := []) (m' := m) [((87, .iinc 3 1, 3, 0, 0, 0, 0), (0, 0, 0)), ((90, .goto (-36), 3, 0, 0, 0, 0), (0, 0, 0))] (by decide +kernel) rfl ?_
    exact hx_pick [0, 2, 3] (h1 c1)
  · have c1 : s0 ≠ 0 := c1
    refine hx_blk (npc := 54) (L' := [(0, .inr (.inl 0)), (2, .inl (gx_w (x2 + 1))), (3, .inl (gx_w (x3 + 1)))]) (st' := []) (m' := m) [((84, .iinc 2 1, 3, 0, 0, 0, 0), (0, 0, 0)), ((87, .iinc 3 1, 3, 0, 0, 0, 0), (0, 0, 0)), ((90, .goto (-36), 3, 0, 0, 0, 0), (0, 0, 0))] (by decide +kernel) rfl ?_
    exact hx_pick [0, 2, 3] (h2 c1)

