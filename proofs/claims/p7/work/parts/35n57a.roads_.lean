section
/-! deals as the class reads them: roads -/
def isPn (c : Int) : Prop := 97 ≤ c ∧ c ≤ 104
def isSg (c : Int) : Prop := c = 62 ∨ c = 93 ∨ c = 91 ∨ c = 61
def isPc (c : Int) : Prop := c = 62 ∨ c = 93
def aYr (s : Nat → Int) (y : Int) : Prop := 0 ≤ y ∧ y < 40 ∧ s (440 + y).toNat = 1
/-- isPerson from 0 on -/
theorem hs51 {xs : List Int32} {n : Nat} {Q : hQ} {m : gx_M} {x0 : Int}
    (h1 : isPn x0 → Q (some (.inl 1)) m) (h0 : ¬ (isPn x0) → Q (some (.inl 0)) m) : hxn xs n yp_m51 0 [(0, .inl x0)] [] m Q := by
  refine hx_dn ?_
  refine hx_blks (npc := 3) (L' := [(0, .inl x0)]) (st' := [.inl 97, .inl x0]) (m' := m) ((0, .iload_n 0, 1, 0, 0, 0, 0), (0, 0, 0)) [((1, .bipush 97, 2, 0, 0, 0, 0), (0, 0, 0))] (by decide +kernel) rfl ?_
  refine hx_cmp .lt 16 (by decide +kernel) (fun c1 => ?_) (fun c1 => ?_)
  · have c1 : x0 < 97 := c1
    refine hx_blk (npc := 17) (L' := [(0, .inl x0)]) (st' := [.inl 0]) (m' := m) [((16, .iconst 0, 1, 0, 0, 0, 0), (0, 0, 0))] (by decide +kernel) rfl ?_
    exact hx_reti (by decide +kernel) (h0 (by unfold isPn; omega))
  · have c1 : 97 ≤ x0 := by have h : ¬ (x0 < 97) := c1; omega
    refine hx_blk (npc := 9) (L' := [(0, .inl x0)]) (st' := [.inl 104, .inl x0]) (m' := m) [((6, .iload_n 0, 1, 0, 0, 0, 0), (0, 0, 0)), ((7, .bipush 104, 2, 0, 0, 0, 0), (0, 0, 0))] (by decide +kernel) rfl ?_
    refine hx_cmp .gt 16 (by decide +kernel) (fun c2 => ?_) (fun c2 => ?_)
    · have c2 : 104 < x0 := c2
      refine hx_blk (npc := 17) (L' := [(0, .inl x0)]) (st' := [.inl 0]) (m' := m) [((16, .iconst 0, 1, 0, 0, 0, 0), (0, 0, 0))] (by decide +kernel) rfl ?_
      exact hx_reti (by decide +kernel) (h0 (by unfold isPn; omega))
    · have c2 : x0 ≤ 104 := by have h : ¬ (104 < x0) := c2; omega
      refine hx_blk (npc := 17) (L' := [(0, .inl x0)]) (st' := [.inl 1]) (m' := m) [((12, .iconst 1, 1, 0, 0, 0, 0), (0, 0, 0)), ((13, .goto 4, 3, 0, 0, 0, 0), (0, 0, 0))] (by decide +kernel) rfl ?_
      exact hx_reti (by decide +kernel) (h1 (by unfold isPn; omega))

/-- readDeal from 0 on -/
theorem hr52_0 {xs : List Int32} {n : Nat} {Q : hQ} {m : gx_M}
    (h1 : ((m 61 5) < 0) → Q (some (.inl 0)) m)
    (h2 : (0 ≤ (m 61 5)) → ((m 61 5) < 16) → ((m 3 3) = 62) → hxn xs n yp_m30 0 [(0, .inr (.inl 3))] [] (gx_u m 64 (m 61 5).toNat (m 3 3)) (fun r m' => hxn xs n yp_m52 66 [(0, .inr (.inl 61)), (1, .inr (.inl 3)), (2, .inl (m 3 3))] (hrs r ++ []) m' Q))
    (h3 : (0 ≤ (m 61 5)) → ((m 61 5) < 16) → ((m 3 3) ≠ 62) → ((m 3 3) = 93) → hxn xs n yp_m30 0 [(0, .inr (.inl 3))] [] (gx_u m 64 (m 61 5).toNat (m 3 3)) (fun r m' => hxn xs n yp_m52 66 [(0, .inr (.inl 61)), (1, .inr (.inl 3)), (2, .inl (m 3 3))] (hrs r ++ []) m' Q))
    (h4 : (0 ≤ (m 61 5)) → ((m 61 5) < 16) → ((m 3 3) ≠ 62) → ((m 3 3) ≠ 93) → ((m 3 3) = 91) → hxn xs n yp_m30 0 [(0, .inr (.inl 3))] [] (gx_u m 64 (m 61 5).toNat (m 3 3)) (fun r m' => hxn xs n yp_m52 66 [(0, .inr (.inl 61)), (1, .inr (.inl 3)), (2, .inl (m 3 3))] (hrs r ++ []) m' Q))
    (h5 : (0 ≤ (m 61 5)) → ((m 61 5) < 16) → ((m 3 3) ≠ 62) → ((m 3 3) ≠ 93) → ((m 3 3) ≠ 91) → ((m 3 3) = 61) → hxn xs n yp_m30 0 [(0, .inr (.inl 3))] [] (gx_u m 64 (m 61 5).toNat (m 3 3)) (fun r m' => hxn xs n yp_m52 66 [(0, .inr (.inl 61)), (1, .inr (.inl 3)), (2, .inl (m 3 3))] (hrs r ++ []) m' Q))
    (h6 : (0 ≤ (m 61 5)) → ((m 61 5) < 16) → ((m 3 3) ≠ 62) → ((m 3 3) ≠ 93) → ((m 3 3) ≠ 91) → ((m 3 3) ≠ 61) → hxn xs n yp_m28 0 [(0, .inr (.inl 3))] [] m (fun r m' => hxn xs n yp_m52 51 [] (hrs r ++ []) m' Q))
    (h7 : (0 ≤ (m 61 5)) → (16 ≤ (m 61 5)) → Q (some (.inl 0)) m) : hxn xs (n + 1) yp_m52 0 [(0, .inr (.inl 61)), (1, .inr (.inl 3))] [] m Q := by
  refine hx_blks (npc := 4) (L' := [(0, .inr (.inl 61)), (1, .inr (.inl 3))]) (st' := [.inl (m 61 5)]) (m' := m) ((0, .aload_n 0, 1, 0, 0, 0, 0), (0, 0, 0)) [((1, .getfield 33, 3, 5, 5, 2002, 0), (0, 61, 0))] (by decide +kernel) rfl ?_
  refine hx_if .lt 16 (by decide +kernel) (fun c1 => ?_) (fun c1 => ?_)
  · have c1 : (m 61 5) < 0 := c1
    refine hx_blk (npc := 17) (L' := [(0, .inr (.inl 61)), (1, .inr (.inl 3))]) (st' := [.inl 0]) (m' := m) [((16, .iconst 0, 1, 0, 0, 0, 0), (0, 0, 0))] (by decide +kernel) rfl ?_
    exact hx_reti (by decide +kernel) (h1 c1)
  · have c1 : 0 ≤ (m 61 5) := by have h : ¬ ((m 61 5) < 0) := c1; omega
    refine hx_blk (npc := 13) (L' := [(0, .inr (.inl 61)), (1, .inr (.inl 3))]) (st' := [.inl 16, .inl (m 61 5)]) (m' := m) [((7, .aload_n 0, 1, 0, 0, 0, 0), (0, 0, 0)), ((8, .getfield 33, 3, 5, 5, 2002, 0), (0, 61, 0)), ((11, .bipush 16, 2, 0, 0, 0, 0), (0, 0, 0))] (by decide +kernel) rfl ?_
    refine hx_cmp .lt 18 (by decide +kernel) (fun c2 => ?_) (fun c2 => ?_)
    · have c2 : (m 61 5) < 16 := c2
      refine hx_blk (npc := 26) (L' := [(0, .inr (.inl 61)), (1, .inr (.inl 3)), (2, .inl (m 3 3))]) (st' := [.inl 62, .inl (m 3 3)]) (m' := m) [((18, .aload_n 1, 1, 0, 0, 0, 0), (0, 0, 0)), ((19, .getfield 68, 3, 1, 3, 1056, 0), (0, 3, 0)), ((22, .istore_n 2, 1, 0, 0, 0, 0), (0, 0, 0)), ((23, .iload_n 2, 1, 0, 0, 0, 0), (0, 0, 0)), ((24, .bipush 62, 2, 0, 0, 0, 0), (0, 0, 0))] (by decide +kernel) rfl ?_
      refine hx_cmp .eq 52 (by decide +kernel) (fun c3 => ?_) (fun c3 => ?_)
      · have c3 : (m 3 3) = 62 := c3
        refine hx_blk (npc := 63) (L' := [(0, .inr (.inl 61)), (1, .inr (.inl 3)), (2, .inl (m 3 3))]) (st' := [.inr (.inl 3)]) (m' := (gx_u m 64 (m 61 5).toNat (m 3 3))) [((52, .aload_n 0, 1, 0, 0, 0, 0), (0, 0, 0)), ((53, .getfield 18, 3, 5, 2, 1239, 0), (1, 61, 64)), ((56, .aload_n 0, 1, 0, 0, 0, 0), (0, 0, 0)), ((57, .getfield 33, 3, 5, 5, 2002, 0), (0, 61, 0)), ((60, .iload_n 2, 1, 0, 0, 0, 0), (0, 0, 0)), ((61, .iastore, 1, 0, 0, 0, 0), (0, 64, 0)), ((62, .aload_n 1, 1, 0, 0, 0, 0), (0, 0, 0))] (by decide +kernel) rfl ?_
        exact hx_call (E := (63, .invokevirtual 73, 3, 30, 0, 3102, 0)) (M' := yp_m30) [.inr (.inl 3)] [] rfl (by decide +kernel) rfl ⟨rfl, rfl⟩ rfl rfl (hx_mono (h2 c1 c2 c3) (fun r m' h' => hx_pick [0, 1, 2] h'))
      · have c3 : (m 3 3) ≠ 62 := c3
        refine hx_blk (npc := 32) (L' := [(0, .inr (.inl 61)), (1, .inr (.inl 3)), (2, .inl (m 3 3))]) (st' := [.inl 93, .inl (m 3 3)]) (m' := m) [((29, .iload_n 2, 1, 0, 0, 0, 0), (0, 0, 0)), ((30, .bipush 93, 2, 0, 0, 0, 0), (0, 0, 0))] (by decide +kernel) rfl ?_
        refine hx_cmp .eq 52 (by decide +kernel) (fun c4 => ?_) (fun c4 => ?_)
        · have c4 : (m 3 3) = 93 := c4
          refine hx_blk (npc := 63) (L' := [(0, .inr (.inl 61)), (1, .inr (.inl 3)), (2, .inl (m 3 3))]) (st' := [.inr (.inl 3)]) (m' := (gx_u m 64 (m 61 5).toNat (m 3 3))) [((52, .aload_n 0, 1, 0, 0, 0, 0), (0, 0, 0)), ((53, .getfield 18, 3, 5, 2, 1239, 0), (1, 61, 64)), ((56, .aload_n 0, 1, 0, 0, 0, 0), (0, 0, 0)), ((57, .getfield 33, 3, 5, 5, 2002, 0), (0, 61, 0)), ((60, .iload_n 2, 1, 0, 0, 0, 0), (0, 0, 0)), ((61, .iastore, 1, 0, 0, 0, 0), (0, 64, 0)), ((62, .aload_n 1, 1, 0, 0, 0, 0), (0, 0, 0))] (by decide +kernel) rfl ?_
          exact hx_call (E := (63, .invokevirtual 73, 3, 30, 0, 3102, 0)) (M' := yp_m30) [.inr (.inl 3)] [] rfl (by decide +kernel) rfl ⟨rfl, rfl⟩ rfl rfl (hx_mono (h3 c1 c2 c3 c4) (fun r m' h' => hx_pick [0, 1, 2] h'))
        · have c4 : (m 3 3) ≠ 93 := c4
          refine hx_blk (npc := 38) (L' := [(0, .inr (.inl 61)), (1, .inr (.inl 3)), (2, .inl (m 3 3))]) (st' := [.inl 91, .inl (m 3 3)]) (m' := m) [((35, .iload_n 2, 1, 0, 0, 0, 0), (0, 0, 0)), ((36, .bipush 91, 2, 0, 0, 0, 0), (0, 0, 0))] (by decide +kernel) rfl ?_
          refine hx_cmp .eq 52 (by decide +kernel) (fun c5 => ?_) (fun c5 => ?_)
          · have c5 : (m 3 3) = 91 := c5
            refine hx_blk (npc := 63) (L' := [(0, .inr (.inl 61)), (1, .inr (.inl 3)), (2, .inl (m 3 3))]) (st' := [.inr (.inl 3)]) (m' := (gx_u m 64 (m 61 5).toNat (m 3 3))) [((52, .aload_n 0, 1, 0, 0, 0, 0), (0, 0, 0)), ((53, .getfield 18, 3, 5, 2, 1239, 0), (1, 61, 64)), ((56, .aload_n 0, 1, 0, 0, 0, 0), (0, 0, 0)), ((57, .getfield 33, 3, 5, 5, 2002, 0), (0, 61, 0)), ((60, .iload_n 2, 1, 0, 0, 0, 0), (0, 0, 0)), ((61, .iastore, 1, 0, 0, 0, 0), (0, 64, 0)), ((62, .aload_n 1, 1, 0, 0, 0, 0), (0, 0, 0))] (by decide +kernel) rfl ?_
            exact hx_call (E := (63, .invokevirtual 73, 3, 30, 0, 3102, 0)) (M' := yp_m30) [.inr (.inl 3)] [] rfl (by decide +kernel) rfl ⟨rfl, rfl⟩ rfl rfl (hx_mono (h4 c1 c2 c3 c4 c5) (fun r m' h' => hx_pick [0, 1, 2] h'))
          · have c5 : (m 3 3) ≠ 91 := c5
            refine hx_blk (npc := 44) (L' := [(0, .inr (.inl 61)), (1, .inr (.inl 3)), (2, .inl (m 3 3))]) (st' := [.inl 61, .inl (m 3 3)]) (m' := m) [((41, .iload_n 2, 1, 0, 0, 0, 0), (0, 0, 0)), ((42, .bipush 61, 2, 0, 0, 0, 0), (0, 0, 0))] (by decide +kernel) rfl ?_
            refine hx_cmp .eq 52 (by decide +kernel) (fun c6 => ?_) (fun c6 => ?_)
            · have c6 : (m 3 3) = 61 := c6
              refine hx_blk (npc := 63) (L' := [(0, .inr (.inl 61)), (1, .inr (.inl 3)), (2, .inl (m 3 3))]) (st' := [.inr (.inl 3)]) (m' := (gx_u m 64 (m 61 5).toNat (m 3 3))) [((52, .aload_n 0, 1, 0, 0, 0, 0), (0, 0, 0)), ((53, .getfield 18, 3, 5, 2, 1239, 0), (1, 61, 64)), ((56, .aload_n 0, 1, 0, 0, 0, 0), (0, 0, 0)), ((57, .getfield 33, 3, 5, 5, 2002, 0), (0, 61, 0)), ((60, .iload_n 2, 1, 0, 0, 0, 0), (0, 0, 0)), ((61, .iastore, 1, 0, 0, 0, 0), (0, 64, 0)), ((62, .aload_n 1, 1, 0, 0, 0, 0), (0, 0, 0))] (by decide +kernel) rfl ?_
              exact hx_call (E := (63, .invokevirtual 73, 3, 30, 0, 3102, 0)) (M' := yp_m30) [.inr (.inl 3)] [] rfl (by decide +kernel) rfl ⟨rfl, rfl⟩ rfl rfl (hx_mono (h5 c1 c2 c3 c4 c5 c6) (fun r m' h' => hx_pick [0, 1, 2] h'))
            · have c6 : (m 3 3) ≠ 61 := c6
              refine hx_blk (npc := 48) (L' := [(0, .inr (.inl 61)), (1, .inr (.inl 3)), (2, .inl (m 3 3))]) (st' := [.inr (.inl 3)]) (m' := m) [((47, .aload_n 1, 1, 0, 0, 0, 0), (0, 0, 0))] (by decide +kernel) rfl ?_
              exact hx_call (E := (48, .invokevirtual 54, 3, 28, 0, 3096, 0)) (M' := yp_m28) [.inr (.inl 3)] [] rfl (by decide +kernel) rfl ⟨rfl, rfl⟩ rfl rfl (hx_mono (h6 c1 c2 c3 c4 c5 c6) (fun r m' h' => hx_pick [] h'))
    · have c2 : 16 ≤ (m 61 5) := by have h : ¬ ((m 61 5) < 16) := c2; omega
      refine hx_blk (npc := 17) (L' := [(0, .inr (.inl 61)), (1, .inr (.inl 3))]) (st' := [.inl 0]) (m' := m) [((16, .iconst 0, 1, 0, 0, 0, 0), (0, 0, 0))] (by decide +kernel) rfl ?_
      exact hx_reti (by decide +kernel) (h7 c1 c2)

/-- readDeal from 51 on -/
theorem hr52_51 {xs : List Int32} {n : Nat} {Q : hQ} {m : gx_M} {s0 : Int}
    (h1 : Q (some (.inl s0)) m) : hxn xs (n + 1) yp_m52 51 [] [.inl s0] m Q := by
  exact hx_reti (by decide +kernel) h1

/-- readDeal from 66 on -/
theorem hr52_66 {xs : List Int32} {n : Nat} {Q : hQ} {m : gx_M} {x2 : Int}
    (h1 : (isPn (m 3 3)) → hxn xs n yp_m52 97 [(0, .inr (.inl 61)), (1, .inr (.inl 3)), (2, .inl x2)] [] (gx_u m 65 (m 61 5).toNat (gx_w ((m 3 3) - 97))) Q)
    (h2 : (¬ (isPn (m 3 3))) → hxn xs n yp_m28 0 [(0, .inr (.inl 3))] [] m (fun r m' => hxn xs n yp_m52 80 [] (hrs r ++ []) m' Q)) : hxn xs (n + 1) yp_m52 66 [(0, .inr (.inl 61)), (1, .inr (.inl 3)), (2, .inl x2)] [] m Q := by
  refine hx_blks (npc := 70) (L' := [(0, .inr (.inl 61)), (1, .inr (.inl 3)), (2, .inl x2)]) (st' := [.inl (m 3 3)]) (m' := m) ((66, .aload_n 1, 1, 0, 0, 0, 0), (0, 0, 0)) [((67, .getfield 68, 3, 1, 3, 1056, 0), (0, 3, 0))] (by decide +kernel) rfl ?_
  refine hx_call (E := (70, .invokestatic 70, 3, 51, 0, 3099, 0)) (M' := yp_m51) [.inl (m 3 3)] [] rfl (by decide +kernel) rfl ⟨rfl, rfl⟩ rfl rfl (hs51 (fun c1 => ?_) (fun c1 => ?_))
  · have c1 : isPn (m 3 3) := c1
    show hxn xs n yp_m52 73 [(0, .inr (.inl 61)), (1, .inr (.inl 3)), (2, .inl x2)] [.inl 1] m Q
    refine hx_if .ne 81 (by decide +kernel) (fun c2 => ?_) (fun c2 => ?_)
    · have c2 : (1 : Int) ≠ 0 := c2
      refine hx_blk (npc := 97) (L' := [(0, .inr (.inl 61)), (1, .inr (.inl 3)), (2, .inl x2)]) (st' := []) (m' := (gx_u m 65 (m 61 5).toNat (gx_w ((m 3 3) - 97)))) [((81, .aload_n 0, 1, 0, 0, 0, 0), (0, 0, 0)), ((82, .getfield 21, 3, 5, 3, 2000, 0), (1, 61, 65)), ((85, .aload_n 0, 1, 0, 0, 0, 0), (0, 0, 0)), ((86, .getfield 33, 3, 5, 5, 2002, 0), (0, 61, 0)), ((89, .aload_n 1, 1, 0, 0, 0, 0), (0, 0, 0)), ((90, .getfield 68, 3, 1, 3, 1056, 0), (0, 3, 0)), ((93, .bipush 97, 2, 0, 0, 0, 0), (0, 0, 0)), ((95, .isub, 1, 0, 0, 0, 0), (0, 0, 0)), ((96, .iastore, 1, 0, 0, 0, 0), (0, 65, 0))] (by decide +kernel) rfl ?_
      exact hx_pick [0, 1, 2] (h1 c1)
    · have c2 : (1 : Int) = 0 := by have h : ¬ ((1 : Int) ≠ 0) := c2; omega
      exfalso; omega
  · have c1 : ¬ (isPn (m 3 3)) := c1
    show hxn xs n yp_m52 73 [(0, .inr (.inl 61)), (1, .inr (.inl 3)), (2, .inl x2)] [.inl 0] m Q
    refine hx_if .ne 81 (by decide +kernel) (fun c2 => ?_) (fun c2 => ?_)
    · have c2 : (0 : Int) ≠ 0 := c2
      exfalso; omega
    · have c2 : (0 : Int) = 0 := by have h : ¬ ((0 : Int) ≠ 0) := c2; omega
      refine hx_blk (npc := 77) (L' := [(0, .inr (.inl 61)), (1, .inr (.inl 3)), (2, .inl x2)]) (st' := [.inr (.inl 3)]) (m' := m) [((76, .aload_n 1, 1, 0, 0, 0, 0), (0, 0, 0))] (by decide +kernel) rfl ?_
      exact hx_call (E := (77, .invokevirtual 54, 3, 28, 0, 3096, 0)) (M' := yp_m28) [.inr (.inl 3)] [] rfl (by decide +kernel) rfl ⟨rfl, rfl⟩ rfl rfl (hx_mono (h2 c1) (fun r m' h' => hx_pick [] h'))

/-- readDeal from 80 on -/
theorem hr52_80 {xs : List Int32} {n : Nat} {Q : hQ} {m : gx_M} {s0 : Int}
    (h1 : Q (some (.inl s0)) m) : hxn xs (n + 1) yp_m52 80 [] [.inl s0] m Q := by
  exact hx_reti (by decide +kernel) h1

/-- readDeal from 97 on -/
theorem hr52_97 {xs : List Int32} {n : Nat} {Q : hQ} {m : gx_M} {x2 : Int}
    (h1 : ((m 65 (m 61 5).toNat) ≠ (m 63 (m 61 5).toNat)) → hxn xs n yp_m30 0 [(0, .inr (.inl 3))] [] m (fun r m' => hxn xs n yp_m52 133 [(0, .inr (.inl 61)), (1, .inr (.inl 3)), (2, .inl x2)] (hrs r ++ []) m' Q))
    (h2 : ((m 65 (m 61 5).toNat) = (m 63 (m 61 5).toNat)) → hxn xs n yp_m29 0 [(0, .inr (.inl 3)), (1, .inl 6), (2, .inl (m 3 2))] [] m (fun r m' => hxn xs n yp_m52 128 [] (hrs r ++ []) m' Q)) : hxn xs (n + 1) yp_m52 97 [(0, .inr (.inl 61)), (1, .inr (.inl 3)), (2, .inl x2)] [] m Q := by
  refine hx_blks (npc := 115) (L' := [(0, .inr (.inl 61)), (1, .inr (.inl 3)), (2, .inl x2)]) (st' := [.inl (m 63 (m 61 5).toNat), .inl (m 65 (m 61 5).toNat)]) (m' := m) ((97, .aload_n 0, 1, 0, 0, 0, 0), (0, 0, 0)) [((98, .getfield 21, 3, 5, 3, 2000, 0), (1, 61, 65)), ((101, .aload_n 0, 1, 0, 0, 0, 0), (0, 0, 0)), ((102, .getfield 33, 3, 5, 5, 2002, 0), (0, 61, 0)), ((105, .iaload, 1, 0, 0, 0, 0), (0, 65, 0)), ((106, .aload_n 0, 1, 0, 0, 0, 0), (0, 0, 0)), ((107, .getfield 15, 3, 5, 1, 1238, 0), (1, 61, 63)), ((110, .aload_n 0, 1, 0, 0, 0, 0), (0, 0, 0)), ((111, .getfield 33, 3, 5, 5, 2002, 0), (0, 61, 0)), ((114, .iaload, 1, 0, 0, 0, 0), (0, 63, 0))] (by decide +kernel) rfl ?_
  refine hx_cmp .ne 129 (by decide +kernel) (fun c1 => ?_) (fun c1 => ?_)
  · have c1 : (m 65 (m 61 5).toNat) ≠ (m 63 (m 61 5).toNat) := c1
    refine hx_blk (npc := 130) (L' := [(0, .inr (.inl 61)), (1, .inr (.inl 3)), (2, .inl x2)]) (st' := [.inr (.inl 3)]) (m' := m) [((129, .aload_n 1, 1, 0, 0, 0, 0), (0, 0, 0))] (by decide +kernel) rfl ?_
    exact hx_call (E := (130, .invokevirtual 73, 3, 30, 0, 3102, 0)) (M' := yp_m30) [.inr (.inl 3)] [] rfl (by decide +kernel) rfl ⟨rfl, rfl⟩ rfl rfl (hx_mono (h1 c1) (fun r m' h' => hx_pick [0, 1, 2] h'))
  · have c1 : (m 65 (m 61 5).toNat) = (m 63 (m 61 5).toNat) := by have h : ¬ ((m 65 (m 61 5).toNat) ≠ (m 63 (m 61 5).toNat)) := c1; omega
    refine hx_blk (npc := 125) (L' := [(0, .inr (.inl 61)), (1, .inr (.inl 3)), (2, .inl x2)]) (st' := [.inl (m 3 2), .inl 6, .inr (.inl 3)]) (m' := m) [((118, .aload_n 1, 1, 0, 0, 0, 0), (0, 0, 0)), ((119, .bipush 6, 2, 0, 0, 0, 0), (0, 0, 0)), ((121, .aload_n 1, 1, 0, 0, 0, 0), (0, 0, 0)), ((122, .getfield 57, 3, 1, 2, 1052, 0), (0, 3, 0))] (by decide +kernel) rfl ?_
    exact hx_call (E := (125, .invokevirtual 60, 3, 29, 0, 3097, 0)) (M' := yp_m29) [.inr (.inl 3), .inl 6, .inl (m 3 2)] [] rfl (by decide +kernel) rfl ⟨rfl, rfl⟩ rfl rfl (hx_mono (h2 c1) (fun r m' h' => hx_pick [] h'))

/-- readDeal from 128 on -/
theorem hr52_128 {xs : List Int32} {n : Nat} {Q : hQ} {m : gx_M} {s0 : Int}
    (h1 : Q (some (.inl s0)) m) : hxn xs (n + 1) yp_m52 128 [] [.inl s0] m Q := by
  exact hx_reti (by decide +kernel) h1

/-- readDeal from 133 on -/
theorem hr52_133 {xs : List Int32} {n : Nat} {Q : hQ} {m : gx_M} {x2 : Int}
    (h1 : (x2 = 62) → (isDg (m 3 3)) → hxn xs n yp_m35 0 [(0, .inr (.inl 3)), (1, .inl 4)] [] m (fun r m' => hxn xs n yp_m52 184 [(0, .inr (.inl 61))] (hrs r ++ [.inl (m 61 5), .inr (.inl 66)]) m' Q))
    (h2 : (x2 = 62) → (¬ (isDg (m 3 3))) → hxn xs n yp_m28 0 [(0, .inr (.inl 3))] [] m (fun r m' => hxn xs n yp_m52 166 [] (hrs r ++ []) m' Q))
    (h3 : (x2 ≠ 62) → (x2 ≠ 93) → Q (some (.inl 1)) (gx_u (gx_u m 66 (m 61 5).toNat 0) 61 5 (gx_w ((m 61 5) + 1))))
    (h4 : (x2 ≠ 62) → (x2 = 93) → (isDg (m 3 3)) → hxn xs n yp_m35 0 [(0, .inr (.inl 3)), (1, .inl 4)] [] m (fun r m' => hxn xs n yp_m52 184 [(0, .inr (.inl 61))] (hrs r ++ [.inl (m 61 5), .inr (.inl 66)]) m' Q))
    (h5 : (x2 ≠ 62) → (x2 = 93) → (¬ (isDg (m 3 3))) → hxn xs n yp_m28 0 [(0, .inr (.inl 3))] [] m (fun r m' => hxn xs n yp_m52 166 [] (hrs r ++ []) m' Q)) : hxn xs (n + 1) yp_m52 133 [(0, .inr (.inl 61)), (1, .inr (.inl 3)), (2, .inl x2)] [] m Q := by
  refine hx_blks (npc := 136) (L' := [(0, .inr (.inl 61)), (1, .inr (.inl 3)), (2, .inl x2)]) (st' := [.inl 62, .inl x2]) (m' := m) ((133, .iload_n 2, 1, 0, 0, 0, 0), (0, 0, 0)) [((134, .bipush 62, 2, 0, 0, 0, 0), (0, 0, 0))] (by decide +kernel) rfl ?_
  refine hx_cmp .eq 145 (by decide +kernel) (fun c1 => ?_) (fun c1 => ?_)
  · have c1 : x2 = 62 := c1
    refine hx_blk (npc := 152) (L' := [(0, .inr (.inl 61)), (1, .inr (.inl 3)), (2, .inl x2), (3, .inl 1)]) (st' := [.inl 1]) (m' := m) [((145, .iconst 1, 1, 0, 0, 0, 0), (0, 0, 0)), ((146, .goto 4, 3, 0, 0, 0, 0), (0, 0, 0)), ((150, .istore_n 3, 1, 0, 0, 0, 0), (0, 0, 0)), ((151, .iload_n 3, 1, 0, 0, 0, 0), (0, 0, 0))] (by decide +kernel) rfl ?_
    refine hx_if .eq 167 (by decide +kernel) (fun c2 => ?_) (fun c2 => ?_)
    · have c2 : (1 : Int) = 0 := c2
      exfalso; omega
    · have c2 : (1 : Int) ≠ 0 := c2
      refine hx_blk (npc := 156) (L' := [(0, .inr (.inl 61)), (1, .inr (.inl 3)), (2, .inl x2), (3, .inl 1)]) (st' := [.inr (.inl 3)]) (m' := m) [((155, .aload_n 1, 1, 0, 0, 0, 0), (0, 0, 0))] (by decide +kernel) rfl ?_
      refine hx_call (E := (156, .invokevirtual 51, 3, 34, 0, 3095, 0)) (M' := yp_m34) [.inr (.inl 3)] [] rfl (by decide +kernel) rfl ⟨rfl, rfl⟩ rfl rfl (hs34 (fun c2 => ?_) (fun c2 => ?_))
      · have c2 : isDg (m 3 3) := c2
        show hxn xs n yp_m52 159 [(0, .inr (.inl 61)), (1, .inr (.inl 3)), (2, .inl x2), (3, .inl 1)] [.inl 1] m Q
        refine hx_if .ne 167 (by decide +kernel) (fun c3 => ?_) (fun c3 => ?_)
        · have c3 : (1 : Int) ≠ 0 := c3
          refine hx_blk (npc := 176) (L' := [(0, .inr (.inl 61)), (1, .inr (.inl 3)), (2, .inl x2), (3, .inl 1)]) (st' := [.inl 1, .inl (m 61 5), .inr (.inl 66)]) (m' := m) [((167, .aload_n 0, 1, 0, 0, 0, 0), (0, 0, 0)), ((168, .getfield 24, 3, 5, 4, 2001, 0), (1, 61, 66)), ((171, .aload_n 0, 1, 0, 0, 0, 0), (0, 0, 0)), ((172, .getfield 33, 3, 5, 5, 2002, 0), (0, 61, 0)), ((175, .iload_n 3, 1, 0, 0, 0, 0), (0, 0, 0))] (by decide +kernel) rfl ?_
          refine hx_if .eq 187 (by decide +kernel) (fun c3 => ?_) (fun c3 => ?_)
          · have c3 : (1 : Int) = 0 := c3
            exfalso; omega
          · have c3 : (1 : Int) ≠ 0 := c3
            refine hx_blk (npc := 181) (L' := [(0, .inr (.inl 61)), (1, .inr (.inl 3)), (2, .inl x2), (3, .inl 1)]) (st' := [.inl 4, .inr (.inl 3), .inl (m 61 5), .inr (.inl 66)]) (m' := m) [((179, .aload_n 1, 1, 0, 0, 0, 0), (0, 0, 0)), ((180, .iconst 4, 1, 0, 0, 0, 0), (0, 0, 0))] (by decide +kernel) rfl ?_
            exact hx_call (E := (181, .invokevirtual 64, 3, 35, 0, 3098, 0)) (M' := yp_m35) [.inr (.inl 3), .inl 4] [.inl (m 61 5), .inr (.inl 66)] rfl (by decide +kernel) rfl ⟨rfl, rfl⟩ rfl rfl (hx_mono (h1 c1 c2) (fun r m' h' => hx_pick [0] h'))
        · have c3 : (1 : Int) = 0 := by have h : ¬ ((1 : Int) ≠ 0) := c3; omega
          exfalso; omega
      · have c2 : ¬ (isDg (m 3 3)) := c2
        show hxn xs n yp_m52 159 [(0, .inr (.inl 61)), (1, .inr (.inl 3)), (2, .inl x2), (3, .inl 1)] [.inl 0] m Q
        refine hx_if .ne 167 (by decide +kernel) (fun c3 => ?_) (fun c3 => ?_)
        · have c3 : (0 : Int) ≠ 0 := c3
          exfalso; omega
        · have c3 : (0 : Int) = 0 := by have h : ¬ ((0 : Int) ≠ 0) := c3; omega
          refine hx_blk (npc := 163) (L' := [(0, .inr (.inl 61)), (1, .inr (.inl 3)), (2, .inl x2), (3, .inl 1)]) (st' := [.inr (.inl 3)]) (m' := m) [((162, .aload_n 1, 1, 0, 0, 0, 0), (0, 0, 0))] (by decide +kernel) rfl ?_
          exact hx_call (E := (163, .invokevirtual 54, 3, 28, 0, 3096, 0)) (M' := yp_m28) [.inr (.inl 3)] [] rfl (by decide +kernel) rfl ⟨rfl, rfl⟩ rfl rfl (hx_mono (h2 c1 c2) (fun r m' h' => hx_pick [] h'))
  · have c1 : x2 ≠ 62 := c1
    refine hx_blk (npc := 142) (L' := [(0, .inr (.inl 61)), (1, .inr (.inl 3)), (2, .inl x2)]) (st' := [.inl 93, .inl x2]) (m' := m) [((139, .iload_n 2, 1, 0, 0, 0, 0), (0, 0, 0)), ((140, .bipush 93, 2, 0, 0, 0, 0), (0, 0, 0))] (by decide +kernel) rfl ?_
    refine hx_cmp .ne 149 (by decide +kernel) (fun c2 => ?_) (fun c2 => ?_)
    · have c2 : x2 ≠ 93 := c2
      refine hx_blk (npc := 152) (L' := [(0, .inr (.inl 61)), (1, .inr (.inl 3)), (2, .inl x2), (3, .inl 0)]) (st' := [.inl 0]) (m' := m) [((149, .iconst 0, 1, 0, 0, 0, 0), (0, 0, 0)), ((150, .istore_n 3, 1, 0, 0, 0, 0), (0, 0, 0)), ((151, .iload_n 3, 1, 0, 0, 0, 0), (0, 0, 0))] (by decide +kernel) rfl ?_
      refine hx_if .eq 167 (by decide +kernel) (fun c3 => ?_) (fun c3 => ?_)
      · have c3 : (0 : Int) = 0 := c3
        refine hx_blk (npc := 176) (L' := [(0, .inr (.inl 61)), (1, .inr (.inl 3)), (2, .inl x2), (3, .inl 0)]) (st' := [.inl 0, .inl (m 61 5), .inr (.inl 66)]) (m' := m) [((167, .aload_n 0, 1, 0, 0, 0, 0), (0, 0, 0)), ((168, .getfield 24, 3, 5, 4, 2001, 0), (1, 61, 66)), ((171, .aload_n 0, 1, 0, 0, 0, 0), (0, 0, 0)), ((172, .getfield 33, 3, 5, 5, 2002, 0), (0, 61, 0)), ((175, .iload_n 3, 1, 0, 0, 0, 0), (0, 0, 0))] (by decide +kernel) rfl ?_
        refine hx_if .eq 187 (by decide +kernel) (fun c3 => ?_) (fun c3 => ?_)
        · have c3 : (0 : Int) = 0 := c3
          refine hx_blk (npc := 200) (L' := [(0, .inr (.inl 61)), (1, .inr (.inl 3)), (2, .inl x2), (3, .inl 0)]) (st' := [.inl 1]) (m' := (gx_u (gx_u m 66 (m 61 5).toNat 0) 61 5 (gx_w ((m 61 5) + 1)))) [((187, .iconst 0, 1, 0, 0, 0, 0), (0, 0, 0)), ((188, .iastore, 1, 0, 0, 0, 0), (0, 66, 0)), ((189, .aload_n 0, 1, 0, 0, 0, 0), (0, 0, 0)), ((190, .dup, 1, 0, 0, 0, 0), (0, 0, 0)), ((191, .getfield 33, 3, 5, 5, 2002, 0), (0, 61, 0)), ((194, .iconst 1, 1, 0, 0, 0, 0), (0, 0, 0)), ((195, .iadd, 1, 0, 0, 0, 0), (0, 0, 0)), ((196, .putfield 33, 3, 5, 5, 2002, 0), (0, 61, 0)), ((199, .iconst 1, 1, 0, 0, 0, 0), (0, 0, 0))] (by decide +kernel) rfl ?_
          exact hx_reti (by decide +kernel) (h3 c1 c2)
        · have c3 : (0 : Int) ≠ 0 := c3
          exfalso; omega
      · have c3 : (0 : Int) ≠ 0 := c3
        exfalso; omega
    · have c2 : x2 = 93 := by have h : ¬ (x2 ≠ 93) := c2; omega
      refine hx_blk (npc := 152) (L' := [(0, .inr (.inl 61)), (1, .inr (.inl 3)), (2, .inl x2), (3, .inl 1)]) (st' := [.inl 1]) (m' := m) [((145, .iconst 1, 1, 0, 0, 0, 0), (0, 0, 0)), ((146, .goto 4, 3, 0, 0, 0, 0), (0, 0, 0)), ((150, .istore_n 3, 1, 0, 0, 0, 0), (0, 0, 0)), ((151, .iload_n 3, 1, 0, 0, 0, 0), (0, 0, 0))] (by decide +kernel) rfl ?_
      refine hx_if .eq 167 (by decide +kernel) (fun c3 => ?_) (fun c3 => ?_)
      · have c3 : (1 : Int) = 0 := c3
        exfalso; omega
      · have c3 : (1 : Int) ≠ 0 := c3
        refine hx_blk (npc := 156) (L' := [(0, .inr (.inl 61)), (1, .inr (.inl 3)), (2, .inl x2), (3, .inl 1)]) (st' := [.inr (.inl 3)]) (m' := m) [((155, .aload_n 1, 1, 0, 0, 0, 0), (0, 0, 0))] (by decide +kernel) rfl ?_
        refine hx_call (E := (156, .invokevirtual 51, 3, 34, 0, 3095, 0)) (M' := yp_m34) [.inr (.inl 3)] [] rfl (by decide +kernel) rfl ⟨rfl, rfl⟩ rfl rfl (hs34 (fun c3 => ?_) (fun c3 => ?_))
        · have c3 : isDg (m 3 3) := c3
          show hxn xs n yp_m52 159 [(0, .inr (.inl 61)), (1, .inr (.inl 3)), (2, .inl x2), (3, .inl 1)] [.inl 1] m Q
          refine hx_if .ne 167 (by decide +kernel) (fun c4 => ?_) (fun c4 => ?_)
          · have c4 : (1 : Int) ≠ 0 := c4
            refine hx_blk (npc := 176) (L' := [(0, .inr (.inl 61)), (1, .inr (.inl 3)), (2, .inl x2), (3, .inl 1)]) (st' := [.inl 1, .inl (m 61 5), .inr (.inl 66)]) (m' := m) [((167, .aload_n 0, 1, 0, 0, 0, 0), (0, 0, 0)), ((168, .getfield 24, 3, 5, 4, 2001, 0), (1, 61, 66)), ((171, .aload_n 0, 1, 0, 0, 0, 0), (0, 0, 0)), ((172, .getfield 33, 3, 5, 5, 2002, 0), (0, 61, 0)), ((175, .iload_n 3, 1, 0, 0, 0, 0), (0, 0, 0))] (by decide +kernel) rfl ?_
            refine hx_if .eq 187 (by decide +kernel) (fun c4 => ?_) (fun c4 => ?_)
            · have c4 : (1 : Int) = 0 := c4
              exfalso; omega
            · have c4 : (1 : Int) ≠ 0 := c4
              refine hx_blk (npc := 181) (L' := [(0, .inr (.inl 61)), (1, .inr (.inl 3)), (2, .inl x2), (3, .inl 1)]) (st' := [.inl 4, .inr (.inl 3), .inl (m 61 5), .inr (.inl 66)]) (m' := m) [((179, .aload_n 1, 1, 0, 0, 0, 0), (0, 0, 0)), ((180, .iconst 4, 1, 0, 0, 0, 0), (0, 0, 0))] (by decide +kernel) rfl ?_
              exact hx_call (E := (181, .invokevirtual 64, 3, 35, 0, 3098, 0)) (M' := yp_m35) [.inr (.inl 3), .inl 4] [.inl (m 61 5), .inr (.inl 66)] rfl (by decide +kernel) rfl ⟨rfl, rfl⟩ rfl rfl (hx_mono (h4 c1 c2 c3) (fun r m' h' => hx_pick [0] h'))
          · have c4 : (1 : Int) = 0 := by have h : ¬ ((1 : Int) ≠ 0) := c4; omega
            exfalso; omega
        · have c3 : ¬ (isDg (m 3 3)) := c3
          show hxn xs n yp_m52 159 [(0, .inr (.inl 61)), (1, .inr (.inl 3)), (2, .inl x2), (3, .inl 1)] [.inl 0] m Q
          refine hx_if .ne 167 (by decide +kernel) (fun c4 => ?_) (fun c4 => ?_)
          · have c4 : (0 : Int) ≠ 0 := c4
            exfalso; omega
          · have c4 : (0 : Int) = 0 := by have h : ¬ ((0 : Int) ≠ 0) := c4; omega
            refine hx_blk (npc := 163) (L' := [(0, .inr (.inl 61)), (1, .inr (.inl 3)), (2, .inl x2), (3, .inl 1)]) (st' := [.inr (.inl 3)]) (m' := m) [((162, .aload_n 1, 1, 0, 0, 0, 0), (0, 0, 0))] (by decide +kernel) rfl ?_
            exact hx_call (E := (163, .invokevirtual 54, 3, 28, 0, 3096, 0)) (M' := yp_m28) [.inr (.inl 3)] [] rfl (by decide +kernel) rfl ⟨rfl, rfl⟩ rfl rfl (hx_mono (h5 c1 c2 c3) (fun r m' h' => hx_pick [] h'))

/-- readDeal from 166 on -/
theorem hr52_166 {xs : List Int32} {n : Nat} {Q : hQ} {m : gx_M} {s0 : Int}
    (h1 : Q (some (.inl s0)) m) : hxn xs (n + 1) yp_m52 166 [] [.inl s0] m Q := by
  exact hx_reti (by decide +kernel) h1

/-- readDeal from 184 on -/
theorem hr52_184 {xs : List Int32} {n : Nat} {Q : hQ} {m : gx_M} {s1 s2 : Int}
    (h1 : Q (some (.inl 1)) (gx_u (gx_u m 66 (s1).toNat s2) 61 5 (gx_w ((m 61 5) + 1)))) : hxn xs (n + 1) yp_m52 184 [(0, .inr (.inl 61))] [.inl s2, .inl s1, .inr (.inl 66)] m Q := by
  refine hx_blks (npc := 200) (L' := [(0, .inr (.inl 61))]) (st' := [.inl 1]) (m' := (gx_u (gx_u m 66 (s1).toNat s2) 61 5 (gx_w ((m 61 5) + 1)))) ((184, .goto 4, 3, 0, 0, 0, 0), (0, 0, 0)) [((188, .iastore, 1, 0, 0, 0, 0), (0, 66, 0)), ((189, .aload_n 0, 1, 0, 0, 0, 0), (0, 0, 0)), ((190, .dup, 1, 0, 0, 0, 0), (0, 0, 0)), ((191, .getfield 33, 3, 5, 5, 2002, 0), (0, 61, 0)), ((194, .iconst 1, 1, 0, 0, 0, 0), (0, 0, 0)), ((195, .iadd, 1, 0, 0, 0, 0), (0, 0, 0)), ((196, .putfield 33, 3, 5, 5, 2002, 0), (0, 61, 0)), ((199, .iconst 1, 1, 0, 0, 0, 0), (0, 0, 0))] (by decide +kernel) rfl ?_
  exact hx_reti (by decide +kernel) h1

/-- readAct from 0 on -/
theorem hr50_0 {xs : List Int32} {n : Nat} {Q : hQ} {m : gx_M}
    (h1 : (isDg (m 3 3)) → ((m 61 5) < 0) → hxn xs n yp_m29 0 [(0, .inr (.inl 3)), (1, .inl 4), (2, .inl (m 3 2))] [] m (fun r m' => hxn xs n yp_m50 39 [] (hrs r ++ []) m' Q))
    (h2 : (isDg (m 3 3)) → (0 ≤ (m 61 5)) → ((m 61 5) < 16) → hxn xs n yp_m35 0 [(0, .inr (.inl 3)), (1, .inl 2)] [] m (fun r m' => hxn xs n yp_m50 53 [(0, .inr (.inl 61)), (1, .inr (.inl 3)), (2, .inl (m 3 2))] (hrs r ++ [.inl (m 61 5), .inr (.inl 62)]) m' Q))
    (h3 : (isDg (m 3 3)) → (0 ≤ (m 61 5)) → (16 ≤ (m 61 5)) → hxn xs n yp_m29 0 [(0, .inr (.inl 3)), (1, .inl 4), (2, .inl (m 3 2))] [] m (fun r m' => hxn xs n yp_m50 39 [] (hrs r ++ []) m' Q))
    (h4 : (¬ (isDg (m 3 3))) → hxn xs n yp_m28 0 [(0, .inr (.inl 3))] [] m (fun r m' => hxn xs n yp_m50 11 [] (hrs r ++ []) m' Q)) : hxn xs (n + 1) yp_m50 0 [(0, .inr (.inl 61)), (1, .inr (.inl 3))] [] m Q := by
  refine hx_blks (npc := 1) (L' := [(0, .inr (.inl 61)), (1, .inr (.inl 3))]) (st' := [.inr (.inl 3)]) (m' := m) ((0, .aload_n 1, 1, 0, 0, 0, 0), (0, 0, 0)) [] (by decide +kernel) rfl ?_
  refine hx_call (E := (1, .invokevirtual 51, 3, 34, 0, 3095, 0)) (M' := yp_m34) [.inr (.inl 3)] [] rfl (by decide +kernel) rfl ⟨rfl, rfl⟩ rfl rfl (hs34 (fun c1 => ?_) (fun c1 => ?_))
  · have c1 : isDg (m 3 3) := c1
    show hxn xs n yp_m50 4 [(0, .inr (.inl 61)), (1, .inr (.inl 3))] [.inl 1] m Q
    refine hx_if .ne 12 (by decide +kernel) (fun c2 => ?_) (fun c2 => ?_)
    · have c2 : (1 : Int) ≠ 0 := c2
      refine hx_blk (npc := 21) (L' := [(0, .inr (.inl 61)), (1, .inr (.inl 3)), (2, .inl (m 3 2))]) (st' := [.inl (m 61 5)]) (m' := m) [((12, .aload_n 1, 1, 0, 0, 0, 0), (0, 0, 0)), ((13, .getfield 57, 3, 1, 2, 1052, 0), (0, 3, 0)), ((16, .istore_n 2, 1, 0, 0, 0, 0), (0, 0, 0)), ((17, .aload_n 0, 1, 0, 0, 0, 0), (0, 0, 0)), ((18, .getfield 33, 3, 5, 5, 2002, 0), (0, 61, 0))] (by decide +kernel) rfl ?_
      refine hx_if .lt 33 (by decide +kernel) (fun c2 => ?_) (fun c2 => ?_)
      · have c2 : (m 61 5) < 0 := c2
        refine hx_blk (npc := 36) (L' := [(0, .inr (.inl 61)), (1, .inr (.inl 3)), (2, .inl (m 3 2))]) (st' := [.inl (m 3 2), .inl 4, .inr (.inl 3)]) (m' := m) [((33, .aload_n 1, 1, 0, 0, 0, 0), (0, 0, 0)), ((34, .iconst 4, 1, 0, 0, 0, 0), (0, 0, 0)), ((35, .iload_n 2, 1, 0, 0, 0, 0), (0, 0, 0))] (by decide +kernel) rfl ?_
        exact hx_call (E := (36, .invokevirtual 60, 3, 29, 0, 3097, 0)) (M' := yp_m29) [.inr (.inl 3), .inl 4, .inl (m 3 2)] [] rfl (by decide +kernel) rfl ⟨rfl, rfl⟩ rfl rfl (hx_mono (h1 c1 c2) (fun r m' h' => hx_pick [] h'))
      · have c2 : 0 ≤ (m 61 5) := by have h : ¬ ((m 61 5) < 0) := c2; omega
        refine hx_blk (npc := 30) (L' := [(0, .inr (.inl 61)), (1, .inr (.inl 3)), (2, .inl (m 3 2))]) (st' := [.inl 16, .inl (m 61 5)]) (m' := m) [((24, .aload_n 0, 1, 0, 0, 0, 0), (0, 0, 0)), ((25, .getfield 33, 3, 5, 5, 2002, 0), (0, 61, 0)), ((28, .bipush 16, 2, 0, 0, 0, 0), (0, 0, 0))] (by decide +kernel) rfl ?_
        refine hx_cmp .lt 40 (by decide +kernel) (fun c3 => ?_) (fun c3 => ?_)
        · have c3 : (m 61 5) < 16 := c3
          refine hx_blk (npc := 50) (L' := [(0, .inr (.inl 61)), (1, .inr (.inl 3)), (2, .inl (m 3 2))]) (st' := [.inl 2, .inr (.inl 3), .inl (m 61 5), .inr (.inl 62)]) (m' := m) [((40, .aload_n 0, 1, 0, 0, 0, 0), (0, 0, 0)), ((41, .getfield 9, 3, 5, 0, 1237, 0), (1, 61, 62)), ((44, .aload_n 0, 1, 0, 0, 0, 0), (0, 0, 0)), ((45, .getfield 33, 3, 5, 5, 2002, 0), (0, 61, 0)), ((48, .aload_n 1, 1, 0, 0, 0, 0), (0, 0, 0)), ((49, .iconst 2, 1, 0, 0, 0, 0), (0, 0, 0))] (by decide +kernel) rfl ?_
          exact hx_call (E := (50, .invokevirtual 64, 3, 35, 0, 3098, 0)) (M' := yp_m35) [.inr (.inl 3), .inl 2] [.inl (m 61 5), .inr (.inl 62)] rfl (by decide +kernel) rfl ⟨rfl, rfl⟩ rfl rfl (hx_mono (h2 c1 c2 c3) (fun r m' h' => hx_pick [0, 1, 2] h'))
        · have c3 : 16 ≤ (m 61 5) := by have h : ¬ ((m 61 5) < 16) := c3; omega
          refine hx_blk (npc := 36) (L' := [(0, .inr (.inl 61)), (1, .inr (.inl 3)), (2, .inl (m 3 2))]) (st' := [.inl (m 3 2), .inl 4, .inr (.inl 3)]) (m' := m) [((33, .aload_n 1, 1, 0, 0, 0, 0), (0, 0, 0)), ((34, .iconst 4, 1, 0, 0, 0, 0), (0, 0, 0)), ((35, .iload_n 2, 1, 0, 0, 0, 0), (0, 0, 0))] (by decide +kernel) rfl ?_
          exact hx_call (E := (36, .invokevirtual 60, 3, 29, 0, 3097, 0)) (M' := yp_m29) [.inr (.inl 3), .inl 4, .inl (m 3 2)] [] rfl (by decide +kernel) rfl ⟨rfl, rfl⟩ rfl rfl (hx_mono (h3 c1 c2 c3) (fun r m' h' => hx_pick [] h'))
    · have c2 : (1 : Int) = 0 := by have h : ¬ ((1 : Int) ≠ 0) := c2; omega
      exfalso; omega
  · have c1 : ¬ (isDg (m 3 3)) := c1
    show hxn xs n yp_m50 4 [(0, .inr (.inl 61)), (1, .inr (.inl 3))] [.inl 0] m Q
    refine hx_if .ne 12 (by decide +kernel) (fun c2 => ?_) (fun c2 => ?_)
    · have c2 : (0 : Int) ≠ 0 := c2
      exfalso; omega
    · have c2 : (0 : Int) = 0 := by have h : ¬ ((0 : Int) ≠ 0) := c2; omega
      refine hx_blk (npc := 8) (L' := [(0, .inr (.inl 61)), (1, .inr (.inl 3))]) (st' := [.inr (.inl 3)]) (m' := m) [((7, .aload_n 1, 1, 0, 0, 0, 0), (0, 0, 0))] (by decide +kernel) rfl ?_
      exact hx_call (E := (8, .invokevirtual 54, 3, 28, 0, 3096, 0)) (M' := yp_m28) [.inr (.inl 3)] [] rfl (by decide +kernel) rfl ⟨rfl, rfl⟩ rfl rfl (hx_mono (h4 c1) (fun r m' h' => hx_pick [] h'))

/-- readAct from 11 on -/
theorem hr50_11 {xs : List Int32} {n : Nat} {Q : hQ} {m : gx_M} {s0 : Int}
    (h1 : Q (some (.inl s0)) m) : hxn xs (n + 1) yp_m50 11 [] [.inl s0] m Q := by
  exact hx_reti (by decide +kernel) h1

/-- readAct from 39 on -/
theorem hr50_39 {xs : List Int32} {n : Nat} {Q : hQ} {m : gx_M} {s0 : Int}
    (h1 : Q (some (.inl s0)) m) : hxn xs (n + 1) yp_m50 39 [] [.inl s0] m Q := by
  exact hx_reti (by decide +kernel) h1

/-- readAct from 53 on -/
theorem hr50_53 {xs : List Int32} {n : Nat} {Q : hQ} {m : gx_M} {x2 s1 s2 : Int}
    (h1 : (((gx_u m 62 (s1).toNat s2) 62 (m 61 5).toNat) < 40) → (isPn (m 3 3)) → hxn xs n yp_m30 0 [(0, .inr (.inl 3))] [] (gx_u (gx_u m 62 (s1).toNat s2) 63 (m 61 5).toNat (gx_w ((m 3 3) - 97))) (fun r m' => hxn xs n yp_m50 110 [(0, .inr (.inl 61)), (1, .inr (.inl 3))] (hrs r ++ []) m' Q))
    (h2 : (((gx_u m 62 (s1).toNat s2) 62 (m 61 5).toNat) < 40) → (¬ (isPn (m 3 3))) → hxn xs n yp_m28 0 [(0, .inr (.inl 3))] [] (gx_u m 62 (s1).toNat s2) (fun r m' => hxn xs n yp_m50 89 [] (hrs r ++ []) m' Q))
    (h3 : (40 ≤ ((gx_u m 62 (s1).toNat s2) 62 (m 61 5).toNat)) → hxn xs n yp_m29 0 [(0, .inr (.inl 3)), (1, .inl 3), (2, .inl x2)] [] (gx_u m 62 (s1).toNat s2) (fun r m' => hxn xs n yp_m50 74 [] (hrs r ++ []) m' Q)) : hxn xs (n + 1) yp_m50 53 [(0, .inr (.inl 61)), (1, .inr (.inl 3)), (2, .inl x2)] [.inl s2, .inl s1, .inr (.inl 62)] m Q := by
  refine hx_blks (npc := 65) (L' := [(0, .inr (.inl 61)), (1, .inr (.inl 3)), (2, .inl x2)]) (st' := [.inl 40, .inl ((gx_u m 62 (s1).toNat s2) 62 (m 61 5).toNat)]) (m' := (gx_u m 62 (s1).toNat s2)) ((53, .iastore, 1, 0, 0, 0, 0), (0, 62, 0)) [((54, .aload_n 0, 1, 0, 0, 0, 0), (0, 0, 0)), ((55, .getfield 9, 3, 5, 0, 1237, 0), (1, 61, 62)), ((58, .aload_n 0, 1, 0, 0, 0, 0), (0, 0, 0)), ((59, .getfield 33, 3, 5, 5, 2002, 0), (0, 61, 0)), ((62, .iaload, 1, 0, 0, 0, 0), (0, 62, 0)), ((63, .bipush 40, 2, 0, 0, 0, 0), (0, 0, 0))] (by decide +kernel) rfl ?_
  refine hx_cmp .lt 75 (by decide +kernel) (fun c1 => ?_) (fun c1 => ?_)
  · have c1 : ((gx_u m 62 (s1).toNat s2) 62 (m 61 5).toNat) < 40 := c1
    refine hx_blk (npc := 79) (L' := [(0, .inr (.inl 61)), (1, .inr (.inl 3)), (2, .inl x2)]) (st' := [.inl (m 3 3)]) (m' := (gx_u m 62 (s1).toNat s2)) [((75, .aload_n 1, 1, 0, 0, 0, 0), (0, 0, 0)), ((76, .getfield 68, 3, 1, 3, 1056, 0), (0, 3, 0))] (by decide +kernel) rfl ?_
    refine hx_call (E := (79, .invokestatic 70, 3, 51, 0, 3099, 0)) (M' := yp_m51) [.inl (m 3 3)] [] rfl (by decide +kernel) rfl ⟨rfl, rfl⟩ rfl rfl (hs51 (fun c2 => ?_) (fun c2 => ?_))
    · have c2 : isPn (m 3 3) := c2
      show hxn xs n yp_m50 82 [(0, .inr (.inl 61)), (1, .inr (.inl 3)), (2, .inl x2)] [.inl 1] (gx_u m 62 (s1).toNat s2) Q
      refine hx_if .ne 90 (by decide +kernel) (fun c3 => ?_) (fun c3 => ?_)
      · have c3 : (1 : Int) ≠ 0 := c3
        refine hx_blk (npc := 107) (L' := [(0, .inr (.inl 61)), (1, .inr (.inl 3)), (2, .inl x2)]) (st' := [.inr (.inl 3)]) (m' := (gx_u (gx_u m 62 (s1).toNat s2) 63 (m 61 5).toNat (gx_w ((m 3 3) - 97)))) [((90, .aload_n 0, 1, 0, 0, 0, 0), (0, 0, 0)), ((91, .getfield 15, 3, 5, 1, 1238, 0), (1, 61, 63)), ((94, .aload_n 0, 1, 0, 0, 0, 0), (0, 0, 0)), ((95, .getfield 33, 3, 5, 5, 2002, 0), (0, 61, 0)), ((98, .aload_n 1, 1, 0, 0, 0, 0), (0, 0, 0)), ((99, .getfield 68, 3, 1, 3, 1056, 0), (0, 3, 0)), ((102, .bipush 97, 2, 0, 0, 0, 0), (0, 0, 0)), ((104, .isub, 1, 0, 0, 0, 0), (0, 0, 0)), ((105, .iastore, 1, 0, 0, 0, 0), (0, 63, 0)), ((106, .aload_n 1, 1, 0, 0, 0, 0), (0, 0, 0))] (by decide +kernel) rfl ?_
        exact hx_call (E := (107, .invokevirtual 73, 3, 30, 0, 3102, 0)) (M' := yp_m30) [.inr (.inl 3)] [] rfl (by decide +kernel) rfl ⟨rfl, rfl⟩ rfl rfl (hx_mono (h1 c1 c2) (fun r m' h' => hx_pick [0, 1] h'))
      · have c3 : (1 : Int) = 0 := by have h : ¬ ((1 : Int) ≠ 0) := c3; omega
        exfalso; omega
    · have c2 : ¬ (isPn (m 3 3)) := c2
      show hxn xs n yp_m50 82 [(0, .inr (.inl 61)), (1, .inr (.inl 3)), (2, .inl x2)] [.inl 0] (gx_u m 62 (s1).toNat s2) Q
      refine hx_if .ne 90 (by decide +kernel) (fun c3 => ?_) (fun c3 => ?_)
      · have c3 : (0 : Int) ≠ 0 := c3
        exfalso; omega
      · have c3 : (0 : Int) = 0 := by have h : ¬ ((0 : Int) ≠ 0) := c3; omega
        refine hx_blk (npc := 86) (L' := [(0, .inr (.inl 61)), (1, .inr (.inl 3)), (2, .inl x2)]) (st' := [.inr (.inl 3)]) (m' := (gx_u m 62 (s1).toNat s2)) [((85, .aload_n 1, 1, 0, 0, 0, 0), (0, 0, 0))] (by decide +kernel) rfl ?_
        exact hx_call (E := (86, .invokevirtual 54, 3, 28, 0, 3096, 0)) (M' := yp_m28) [.inr (.inl 3)] [] rfl (by decide +kernel) rfl ⟨rfl, rfl⟩ rfl rfl (hx_mono (h2 c1 c2) (fun r m' h' => hx_pick [] h'))
  · have c1 : 40 ≤ ((gx_u m 62 (s1).toNat s2) 62 (m 61 5).toNat) := by have h : ¬ (((gx_u m 62 (s1).toNat s2) 62 (m 61 5).toNat) < 40) := c1; omega
    refine hx_blk (npc := 71) (L' := [(0, .inr (.inl 61)), (1, .inr (.inl 3)), (2, .inl x2)]) (st' := [.inl x2, .inl 3, .inr (.inl 3)]) (m' := (gx_u m 62 (s1).toNat s2)) [((68, .aload_n 1, 1, 0, 0, 0, 0), (0, 0, 0)), ((69, .iconst 3, 1, 0, 0, 0, 0), (0, 0, 0)), ((70, .iload_n 2, 1, 0, 0, 0, 0), (0, 0, 0))] (by decide +kernel) rfl ?_
    exact hx_call (E := (71, .invokevirtual 60, 3, 29, 0, 3097, 0)) (M' := yp_m29) [.inr (.inl 3), .inl 3, .inl x2] [] rfl (by decide +kernel) rfl ⟨rfl, rfl⟩ rfl rfl (hx_mono (h3 c1) (fun r m' h' => hx_pick [] h'))

/-- readAct from 74 on -/
theorem hr50_74 {xs : List Int32} {n : Nat} {Q : hQ} {m : gx_M} {s0 : Int}
    (h1 : Q (some (.inl s0)) m) : hxn xs (n + 1) yp_m50 74 [] [.inl s0] m Q := by
  exact hx_reti (by decide +kernel) h1

/-- readAct from 89 on -/
theorem hr50_89 {xs : List Int32} {n : Nat} {Q : hQ} {m : gx_M} {s0 : Int}
    (h1 : Q (some (.inl s0)) m) : hxn xs (n + 1) yp_m50 89 [] [.inl s0] m Q := by
  exact hx_reti (by decide +kernel) h1

/-- readAct from 110 on -/
theorem hr50_110 {xs : List Int32} {n : Nat} {Q : hQ} {m : gx_M}
    (h1 : hxn xs n yp_m52 0 [(0, .inr (.inl 61)), (1, .inr (.inl 3))] [] m (fun r m' => hxn xs n yp_m50 115 [] (hrs r ++ []) m' Q)) : hxn xs (n + 1) yp_m50 110 [(0, .inr (.inl 61)), (1, .inr (.inl 3))] [] m Q := by
  refine hx_blks (npc := 112) (L' := [(0, .inr (.inl 61)), (1, .inr (.inl 3))]) (st' := [.inr (.inl 3), .inr (.inl 61)]) (m' := m) ((110, .aload_n 0, 1, 0, 0, 0, 0), (0, 0, 0)) [((111, .aload_n 1, 1, 0, 0, 0, 0), (0, 0, 0))] (by decide +kernel) rfl ?_
  exact hx_call (E := (112, .invokevirtual 76, 3, 52, 0, 3103, 0)) (M' := yp_m52) [.inr (.inl 61), .inr (.inl 3)] [] rfl (by decide +kernel) rfl ⟨rfl, rfl⟩ rfl rfl (hx_mono h1 (fun r m' h' => hx_pick [] h'))

/-- readAct from 115 on -/
theorem hr50_115 {xs : List Int32} {n : Nat} {Q : hQ} {m : gx_M} {s0 : Int}
    (h1 : Q (some (.inl s0)) m) : hxn xs (n + 1) yp_m50 115 [] [.inl s0] m Q := by
  exact hx_reti (by decide +kernel) h1

/-- read from 0 on -/
theorem hr49_0 {xs : List Int32} {n : Nat} {Q : hQ} {m : gx_M}
    (h1 : hxn xs n yp_m49 7 [(0, .inr (.inl 61)), (1, .inr (.inl 3)), (2, .inl 0)] [] (gx_u m 61 5 0) Q) : hxn xs (n + 1) yp_m49 0 [(0, .inr (.inl 61)), (1, .inr (.inl 3))] [] m Q := by
  refine hx_blks (npc := 7) (L' := [(0, .inr (.inl 61)), (1, .inr (.inl 3)), (2, .inl 0)]) (st' := []) (m' := (gx_u m 61 5 0)) ((0, .aload_n 0, 1, 0, 0, 0, 0), (0, 0, 0)) [((1, .iconst 0, 1, 0, 0, 0, 0), (0, 0, 0)), ((2, .putfield 33, 3, 5, 5, 2002, 0), (0, 61, 0)), ((5, .iconst 0, 1, 0, 0, 0, 0), (0, 0, 0)), ((6, .istore_n 2, 1, 0, 0, 0, 0), (0, 0, 0))] (by decide +kernel) rfl ?_
  exact hx_pick [0, 1, 2] h1

/-- read from 7 on -/
theorem hr49_7 {xs : List Int32} {n : Nat} {Q : hQ} {m : gx_M} {x2 : Int}
    (h1 : (16 < x2) → Q (some (.inl 0)) m)
    (h2 : (x2 ≤ 16) → hxn xs n yp_m50 0 [(0, .inr (.inl 61)), (1, .inr (.inl 3))] [] m (fun r m' => hxn xs n yp_m49 18 [(0, .inr (.inl 61)), (1, .inr (.inl 3)), (2, .inl x2)] (hrs r ++ []) m' Q)) : hxn xs (n + 1) yp_m49 7 [(0, .inr (.inl 61)), (1, .inr (.inl 3)), (2, .inl x2)] [] m Q := by
  refine hx_blks (npc := 10) (L' := [(0, .inr (.inl 61)), (1, .inr (.inl 3)), (2, .inl x2)]) (st' := [.inl 16, .inl x2]) (m' := m) ((7, .iload_n 2, 1, 0, 0, 0, 0), (0, 0, 0)) [((8, .bipush 16, 2, 0, 0, 0, 0), (0, 0, 0))] (by decide +kernel) rfl ?_
  refine hx_cmp .gt 49 (by decide +kernel) (fun c1 => ?_) (fun c1 => ?_)
  · have c1 : 16 < x2 := c1
    refine hx_blk (npc := 50) (L' := [(0, .inr (.inl 61)), (1, .inr (.inl 3)), (2, .inl x2)]) (st' := [.inl 0]) (m' := m) [((49, .iconst 0, 1, 0, 0, 0, 0), (0, 0, 0))] (by decide +kernel) rfl ?_
    exact hx_reti (by decide +kernel) (h1 c1)
  · have c1 : x2 ≤ 16 := by have h : ¬ (16 < x2) := c1; omega
    refine hx_blk (npc := 15) (L' := [(0, .inr (.inl 61)), (1, .inr (.inl 3)), (2, .inl x2)]) (st' := [.inr (.inl 3), .inr (.inl 61)]) (m' := m) [((13, .aload_n 0, 1, 0, 0, 0, 0), (0, 0, 0)), ((14, .aload_n 1, 1, 0, 0, 0, 0), (0, 0, 0))] (by decide +kernel) rfl ?_
    exact hx_call (E := (15, .invokevirtual 37, 3, 50, 0, 3091, 0)) (M' := yp_m50) [.inr (.inl 61), .inr (.inl 3)] [] rfl (by decide +kernel) rfl ⟨rfl, rfl⟩ rfl rfl (hx_mono (h2 c1) (fun r m' h' => hx_pick [0, 1, 2] h'))

/-- read from 18 on -/
theorem hr49_18 {xs : List Int32} {n : Nat} {Q : hQ} {m : gx_M} {x2 s0 : Int}
    (h1 : (s0 ≠ 0) → hxn xs n yp_m46 0 [(0, .inr (.inl 3))] [] m (fun r m' => hxn xs n yp_m49 27 [(0, .inr (.inl 61)), (1, .inr (.inl 3)), (2, .inl x2)] (hrs r ++ []) m' Q))
    (h2 : (s0 = 0) → Q (some (.inl 0)) m) : hxn xs (n + 1) yp_m49 18 [(0, .inr (.inl 61)), (1, .inr (.inl 3)), (2, .inl x2)] [.inl s0] m Q := by
  refine hx_ifs .ne 23 (by decide +kernel) (fun c1 => ?_) (fun c1 => ?_)
  · have c1 : s0 ≠ 0 := c1
    refine hx_blk (npc := 24) (L' := [(0, .inr (.inl 61)), (1, .inr (.inl 3)), (2, .inl x2)]) (st' := [.inr (.inl 3)]) (m' := m) [((23, .aload_n 1, 1, 0, 0, 0, 0), (0, 0, 0))] (by decide +kernel) rfl ?_
    exact hx_call (E := (24, .invokevirtual 41, 3, 46, 0, 3107, 0)) (M' := yp_m46) [.inr (.inl 3)] [] rfl (by decide +kernel) rfl ⟨rfl, rfl⟩ rfl rfl (hx_mono (h1 c1) (fun r m' h' => hx_pick [0, 1, 2] h'))
  · have c1 : s0 = 0 := by have h : ¬ (s0 ≠ 0) := c1; omega
    refine hx_blk (npc := 22) (L' := [(0, .inr (.inl 61)), (1, .inr (.inl 3)), (2, .inl x2)]) (st' := [.inl 0]) (m' := m) [((21, .iconst 0, 1, 0, 0, 0, 0), (0, 0, 0))] (by decide +kernel) rfl ?_
    exact hx_reti (by decide +kernel) (h2 c1)

/-- read from 27 on -/
theorem hr49_27 {xs : List Int32} {n : Nat} {Q : hQ} {m : gx_M} {x2 s0 : Int}
    (h1 : (s0 = 0) → hxn xs n yp_m37 0 [(0, .inr (.inl 3)), (1, .inl 59)] [] m (fun r m' => hxn xs n yp_m49 38 [(0, .inr (.inl 61)), (1, .inr (.inl 3)), (2, .inl x2)] (hrs r ++ []) m' Q))
    (h2 : (s0 ≠ 0) → Q (some (.inl 1)) m) : hxn xs (n + 1) yp_m49 27 [(0, .inr (.inl 61)), (1, .inr (.inl 3)), (2, .inl x2)] [.inl s0] m Q := by
  refine hx_ifs .eq 32 (by decide +kernel) (fun c1 => ?_) (fun c1 => ?_)
  · have c1 : s0 = 0 := c1
    refine hx_blk (npc := 35) (L' := [(0, .inr (.inl 61)), (1, .inr (.inl 3)), (2, .inl x2)]) (st' := [.inl 59, .inr (.inl 3)]) (m' := m) [((32, .aload_n 1, 1, 0, 0, 0, 0), (0, 0, 0)), ((33, .bipush 59, 2, 0, 0, 0, 0), (0, 0, 0))] (by decide +kernel) rfl ?_
    exact hx_call (E := (35, .invokevirtual 47, 3, 37, 0, 3108, 0)) (M' := yp_m37) [.inr (.inl 3), .inl 59] [] rfl (by decide +kernel) rfl ⟨rfl, rfl⟩ rfl rfl (hx_mono (h1 c1) (fun r m' h' => hx_pick [0, 1, 2] h'))
  · have c1 : s0 ≠ 0 := c1
    refine hx_blk (npc := 31) (L' := [(0, .inr (.inl 61)), (1, .inr (.inl 3)), (2, .inl x2)]) (st' := [.inl 1]) (m' := m) [((30, .iconst 1, 1, 0, 0, 0, 0), (0, 0, 0))] (by decide +kernel) rfl ?_
    exact hx_reti (by decide +kernel) (h2 c1)

/-- read from 38 on -/
theorem hr49_38 {xs : List Int32} {n : Nat} {Q : hQ} {m : gx_M} {x2 s0 : Int}
    (h1 : (s0 ≠ 0) → hxn xs n yp_m49 7 [(0, .inr (.inl 61)), (1, .inr (.inl 3)), (2, .inl (gx_w (x2 + 1)))] [] m Q)
    (h2 : (s0 = 0) → Q (some (.inl 0)) m) : hxn xs (n + 1) yp_m49 38 [(0, .inr (.inl 61)), (1, .inr (.inl 3)), (2, .inl x2)] [.inl s0] m Q := by
  refine hx_ifs .ne 43 (by decide +kernel) (fun c1 => ?_) (fun c1 => ?_)
  · have c1 : s0 ≠ 0 := c1
    refine hx_blk (npc := 7) (L' := [(0, .inr (.inl 61)), (1, .inr (.inl 3)), (2, .inl (gx_w (x2 + 1)))]) (st' := []) (m' := m) [((43, .iinc 2 1, 3, 0, 0, 0, 0), (0, 0, 0)), ((46, .goto (-39), 3, 0, 0, 0, 0), (0, 0, 0))] (by decide +kernel) rfl ?_
    exact hx_pick [0, 1, 2] (h1 c1)
  · have c1 : s0 = 0 := by have h : ¬ (s0 ≠ 0) := c1; omega
    refine hx_blk (npc := 42) (L' := [(0, .inr (.inl 61)), (1, .inr (.inl 3)), (2, .inl x2)]) (st' := [.inl 0]) (m' := m) [((41, .iconst 0, 1, 0, 0, 0, 0), (0, 0, 0))] (by decide +kernel) rfl ?_
    exact hx_reti (by decide +kernel) (h2 c1)

/-- deals from 0 on -/
theorem hr48_0 {xs : List Int32} {n : Nat} {Q : hQ} {m : gx_M} {x1 : Int}
    (h1 : hxn xs n yp_m23 0 [(0, .inr (.inl 1)), (1, .inl x1), (2, .inl 160)] [] m (fun r m' => hxn xs n yp_m48 11 [(0, .inr (.inl 0)), (1, .inl x1)] (hrs r ++ []) m' Q)) : hxn xs (n + 1) yp_m48 0 [(0, .inr (.inl 0)), (1, .inl x1)] [] m Q := by
  refine hx_blks (npc := 8) (L' := [(0, .inr (.inl 0)), (1, .inl x1)]) (st' := [.inl 160, .inl x1, .inr (.inl 1)]) (m' := m) ((0, .aload_n 0, 1, 0, 0, 0, 0), (0, 0, 0)) [((1, .getfield 10, 3, 9, 0, 2119, 0), (1, 0, 1)), ((4, .iload_n 1, 1, 0, 0, 0, 0), (0, 0, 0)), ((5, .sipush 160, 3, 0, 0, 0, 0), (0, 0, 0))] (by decide +kernel) rfl ?_
  exact hx_call (E := (8, .invokevirtual 124, 3, 23, 0, 2212, 0)) (M' := yp_m23) [.inr (.inl 1), .inl x1, .inl 160] [] rfl (by decide +kernel) rfl ⟨rfl, rfl⟩ rfl rfl (hx_mono h1 (fun r m' h' => hx_pick [0, 1] h'))

/-- deals from 11 on -/
theorem hr48_11 {xs : List Int32} {n : Nat} {Q : hQ} {m : gx_M} {x1 s0 : Int}
    (h1 : (s0 ≠ 0) → hxn xs n yp_m24 0 [(0, .inr (.inl 3)), (1, .inr (.inl 1)), (2, .inl x1)] [] m (fun r m' => hxn xs n yp_m48 28 [(0, .inr (.inl 0))] (hrs r ++ []) m' Q))
    (h2 : (s0 = 0) → Q (some (.inl (-1))) m) : hxn xs (n + 1) yp_m48 11 [(0, .inr (.inl 0)), (1, .inl x1)] [.inl s0] m Q := by
  refine hx_ifs .ne 16 (by decide +kernel) (fun c1 => ?_) (fun c1 => ?_)
  · have c1 : s0 ≠ 0 := c1
    refine hx_blk (npc := 25) (L' := [(0, .inr (.inl 0)), (1, .inl x1)]) (st' := [.inl x1, .inr (.inl 1), .inr (.inl 3)]) (m' := m) [((16, .aload_n 0, 1, 0, 0, 0, 0), (0, 0, 0)), ((17, .getfield 19, 3, 9, 1, 2120, 0), (1, 0, 3)), ((20, .aload_n 0, 1, 0, 0, 0, 0), (0, 0, 0)), ((21, .getfield 10, 3, 9, 0, 2119, 0), (1, 0, 1)), ((24, .iload_n 1, 1, 0, 0, 0, 0), (0, 0, 0))] (by decide +kernel) rfl ?_
    exact hx_call (E := (25, .invokevirtual 128, 3, 24, 0, 2216, 0)) (M' := yp_m24) [.inr (.inl 3), .inr (.inl 1), .inl x1] [] rfl (by decide +kernel) rfl ⟨rfl, rfl⟩ rfl rfl (hx_mono (h1 c1) (fun r m' h' => hx_pick [0] h'))
  · have c1 : s0 = 0 := by have h : ¬ (s0 ≠ 0) := c1; omega
    refine hx_blk (npc := 15) (L' := [(0, .inr (.inl 0)), (1, .inl x1)]) (st' := [.inl (-1)]) (m' := m) [((14, .iconst (-1), 1, 0, 0, 0, 0), (0, 0, 0))] (by decide +kernel) rfl ?_
    exact hx_reti (by decide +kernel) (h2 c1)

/-- deals from 28 on -/
theorem hr48_28 {xs : List Int32} {n : Nat} {Q : hQ} {m : gx_M}
    (h1 : hxn xs n yp_m49 0 [(0, .inr (.inl 61)), (1, .inr (.inl 3))] [] m (fun r m' => hxn xs n yp_m48 39 [(0, .inr (.inl 0))] (hrs r ++ []) m' Q)) : hxn xs (n + 1) yp_m48 28 [(0, .inr (.inl 0))] [] m Q := by
  refine hx_blks (npc := 36) (L' := [(0, .inr (.inl 0))]) (st' := [.inr (.inl 3), .inr (.inl 61)]) (m' := m) ((28, .aload_n 0, 1, 0, 0, 0, 0), (0, 0, 0)) [((29, .getfield 53, 3, 9, 7, 2126, 0), (1, 0, 61)), ((32, .aload_n 0, 1, 0, 0, 0, 0), (0, 0, 0)), ((33, .getfield 19, 3, 9, 1, 2120, 0), (1, 0, 3))] (by decide +kernel) rfl ?_
  exact hx_call (E := (36, .invokevirtual 147, 3, 49, 0, 3087, 0)) (M' := yp_m49) [.inr (.inl 61), .inr (.inl 3)] [] rfl (by decide +kernel) rfl ⟨rfl, rfl⟩ rfl rfl (hx_mono h1 (fun r m' h' => hx_pick [0] h'))

/-- deals from 39 on -/
theorem hr48_39 {xs : List Int32} {n : Nat} {Q : hQ} {m : gx_M} {s0 : Int}
    (h1 : (s0 ≠ 0) → hxn xs n yp_m48 54 [(0, .inr (.inl 0)), (2, .inl 0), (3, .inl 0)] [] m Q)
    (h2 : (s0 = 0) → Q (some (.inl (m 3 4))) m) : hxn xs (n + 1) yp_m48 39 [(0, .inr (.inl 0))] [.inl s0] m Q := by
  refine hx_ifs .ne 50 (by decide +kernel) (fun c1 => ?_) (fun c1 => ?_)
  · have c1 : s0 ≠ 0 := c1
    refine hx_blk (npc := 54) (L' := [(0, .inr (.inl 0)), (2, .inl 0), (3, .inl 0)]) (st' := []) (m' := m) [((50, .iconst 0, 1, 0, 0, 0, 0), (0, 0, 0)), ((51, .istore_n 2, 1, 0, 0, 0, 0), (0, 0, 0)), ((52, .iconst 0, 1, 0, 0, 0, 0), (0, 0, 0)), ((53, .istore_n 3, 1, 0, 0, 0, 0), (0, 0, 0))] (by decide +kernel) rfl ?_
    exact hx_pick [0, 2, 3] (h1 c1)
  · have c1 : s0 = 0 := by have h : ¬ (s0 ≠ 0) := c1; omega
    refine hx_blk (npc := 49) (L' := [(0, .inr (.inl 0))]) (st' := [.inl (m 3 4)]) (m' := m) [((42, .aload_n 0, 1, 0, 0, 0, 0), (0, 0, 0)), ((43, .getfield 19, 3, 9, 1, 2120, 0), (1, 0, 3)), ((46, .getfield 136, 3, 1, 4, 1058, 0), (0, 3, 0))] (by decide +kernel) rfl ?_
    exact hx_reti (by decide +kernel) (h2 c1)

/-- deals from 54 on -/
theorem hr48_54 {xs : List Int32} {n : Nat} {Q : hQ} {m : gx_M} {x2 x3 : Int}
    (h1 : ((m 61 5) ≤ x3) → Q (some (.inl x2)) m)
    (h2 : (x3 < (m 61 5)) → hxn xs n yp_m53 0 [(0, .inr (.inl 61)), (1, .inr (.inl 5)), (2, .inr (.inl 44)), (3, .inl x3)] [] m (fun r m' => hxn xs n yp_m48 81 [(0, .inr (.inl 0)), (2, .inl x2), (3, .inl x3)] (hrs r ++ []) m' Q)) : hxn xs (n + 1) yp_m48 54 [(0, .inr (.inl 0)), (2, .inl x2), (3, .inl x3)] [] m Q := by
  refine hx_blks (npc := 62) (L' := [(0, .inr (.inl 0)), (2, .inl x2), (3, .inl x3)]) (st' := [.inl (m 61 5), .inl x3]) (m' := m) ((54, .iload_n 3, 1, 0, 0, 0, 0), (0, 0, 0)) [((55, .aload_n 0, 1, 0, 0, 0, 0), (0, 0, 0)), ((56, .getfield 53, 3, 9, 7, 2126, 0), (1, 0, 61)), ((59, .getfield 148, 3, 5, 5, 2003, 0), (0, 61, 0))] (by decide +kernel) rfl ?_
  refine hx_cmp .ge 93 (by decide +kernel) (fun c1 => ?_) (fun c1 => ?_)
  · have c1 : (m 61 5) ≤ x3 := c1
    refine hx_blk (npc := 94) (L' := [(0, .inr (.inl 0)), (2, .inl x2), (3, .inl x3)]) (st' := [.inl x2]) (m' := m) [((93, .iload_n 2, 1, 0, 0, 0, 0), (0, 0, 0))] (by decide +kernel) rfl ?_
    exact hx_reti (by decide +kernel) (h1 c1)
  · have c1 : x3 < (m 61 5) := by have h : ¬ ((m 61 5) ≤ x3) := c1; omega
    refine hx_blk (npc := 78) (L' := [(0, .inr (.inl 0)), (2, .inl x2), (3, .inl x3)]) (st' := [.inl x3, .inr (.inl 44), .inr (.inl 5), .inr (.inl 61)]) (m' := m) [((65, .aload_n 0, 1, 0, 0, 0, 0), (0, 0, 0)), ((66, .getfield 53, 3, 9, 7, 2126, 0), (1, 0, 61)), ((69, .aload_n 0, 1, 0, 0, 0, 0), (0, 0, 0)), ((70, .getfield 26, 3, 9, 2, 2121, 0), (1, 0, 5)), ((73, .aload_n 0, 1, 0, 0, 0, 0), (0, 0, 0)), ((74, .getfield 39, 3, 9, 5, 2124, 0), (1, 0, 44)), ((77, .iload_n 3, 1, 0, 0, 0, 0), (0, 0, 0))] (by decide +kernel) rfl ?_
    exact hx_call (E := (78, .invokevirtual 149, 3, 53, 0, 3109, 0)) (M' := yp_m53) [.inr (.inl 61), .inr (.inl 5), .inr (.inl 44), .inl x3] [] rfl (by decide +kernel) rfl ⟨rfl, rfl⟩ rfl rfl (hx_mono (h2 c1) (fun r m' h' => hx_pick [0, 2, 3] h'))

/-- deals from 81 on -/
theorem hr48_81 {xs : List Int32} {n : Nat} {Q : hQ} {m : gx_M} {x2 x3 s0 : Int}
    (h1 : (s0 = 0) → hxn xs n yp_m48 54 [(0, .inr (.inl 0)), (2, .inl x2), (3, .inl (gx_w (x3 + 1)))] [] m Q)
    (h2 : (s0 ≠ 0) → hxn xs n yp_m48 54 [(0, .inr (.inl 0)), (2, .inl (gx_w (x2 + 1))), (3, .inl (gx_w (x3 + 1)))] [] m Q) : hxn xs (n + 1) yp_m48 81 [(0, .inr (.inl 0)), (2, .inl x2), (3, .inl x3)] [.inl s0] m Q := by
  refine hx_ifs .eq 87 (by decide +kernel) (fun c1 => ?_) (fun c1 => ?_)
  · have c1 : s0 = 0 := c1
    refine hx_blk (npc := 54) (L' := [(0, .inr (.inl 0)), (2, .inl x2), (3, .inl (gx_w (x3 + 1)))]) (st' := []) (m' := m) [((87, .iinc 3 1, 3, 0, 0, 0, 0), (0, 0, 0)), ((90, .goto (-36), 3, 0, 0, 0, 0), (0, 0, 0))] (by decide +kernel) rfl ?_
    exact hx_pick [0, 2, 3] (h1 c1)
  · have c1 : s0 ≠ 0 := c1
    refine hx_blk (npc := 54) (L' := [(0, .inr (.inl 0)), (2, .inl (gx_w (x2 + 1))), (3, .inl (gx_w (x3 + 1)))]) (st' := []) (m' := m) [((84, .iinc 2 1, 3, 0, 0, 0, 0), (0, 0, 0)), ((87, .iinc 3 1, 3, 0, 0, 0, 0), (0, 0, 0)), ((90, .goto (-36), 3, 0, 0, 0, 0), (0, 0, 0))] (by decide +kernel) rfl ?_
    exact hx_pick [0, 2, 3] (h2 c1)
end
section
/-! deals as the class does them: roads -/
/-- pawn from 0 on -/
theorem hr19_0 {xs : List Int32} {n : Nat} {Q : hQ} {m : gx_M} {x1 x2 x3 : Int}
    (h1 : (cYear 5 m x1) → Q none (gx_u (gx_u (gx_u m 13 (x1).toNat x2) 14 (x1).toNat x3) 15 (x1).toNat x3))
    (h2 : (¬ (cYear 5 m x1)) → Q none m) : hxn xs (n + 1) yp_m19 0 [(0, .inr (.inl 5)), (1, .inl x1), (2, .inl x2), (3, .inl x3)] [] m Q := by
  refine hx_blks (npc := 2) (L' := [(0, .inr (.inl 5)), (1, .inl x1), (2, .inl x2), (3, .inl x3)]) (st' := [.inl x1, .inr (.inl 5)]) (m' := m) ((0, .aload_n 0, 1, 0, 0, 0, 0), (0, 0, 0)) [((1, .iload_n 1, 1, 0, 0, 0, 0), (0, 0, 0))] (by decide +kernel) rfl ?_
  refine hx_call (E := (2, .invokevirtual 71, 3, 17, 0, 2188, 0)) (M' := yp_m17) [.inr (.inl 5), .inl x1] [] rfl (by decide +kernel) rfl ⟨rfl, rfl⟩ rfl rfl (hs17_5 (fun c1 => ?_) (fun c1 => ?_))
  · have c1 : cYear 5 m x1 := c1
    show hxn xs n yp_m19 5 [(0, .inr (.inl 5)), (1, .inl x1), (2, .inl x2), (3, .inl x3)] [.inl 1] m Q
    refine hx_if .ne 9 (by decide +kernel) (fun c2 => ?_) (fun c2 => ?_)
    · have c2 : (1 : Int) ≠ 0 := c2
      refine hx_blk (npc := 30) (L' := [(0, .inr (.inl 5)), (1, .inl x1), (2, .inl x2), (3, .inl x3)]) (st' := []) (m' := (gx_u (gx_u (gx_u m 13 (x1).toNat x2) 14 (x1).toNat x3) 15 (x1).toNat x3)) [((9, .aload_n 0, 1, 0, 0, 0, 0), (0, 0, 0)), ((10, .getfield 37, 3, 2, 12, 1119, 0), (1, 5, 13)), ((13, .iload_n 1, 1, 0, 0, 0, 0), (0, 0, 0)), ((14, .iload_n 2, 1, 0, 0, 0, 0), (0, 0, 0)), ((15, .iastore, 1, 0, 0, 0, 0), (0, 13, 0)), ((16, .aload_n 0, 1, 0, 0, 0, 0), (0, 0, 0)), ((17, .getfield 40, 3, 2, 13, 1124, 0), (1, 5, 14)), ((20, .iload_n 1, 1, 0, 0, 0, 0), (0, 0, 0)), ((21, .iload_n 3, 1, 0, 0, 0, 0), (0, 0, 0)), ((22, .iastore, 1, 0, 0, 0, 0), (0, 14, 0)), ((23, .aload_n 0, 1, 0, 0, 0, 0), (0, 0, 0)), ((24, .getfield 43, 3, 2, 14, 1127, 0), (1, 5, 15)), ((27, .iload_n 1, 1, 0, 0, 0, 0), (0, 0, 0)), ((28, .iload_n 3, 1, 0, 0, 0, 0), (0, 0, 0)), ((29, .iastore, 1, 0, 0, 0, 0), (0, 15, 0))] (by decide +kernel) rfl ?_
      exact hx_ret0 (by decide +kernel) (h1 c1)
    · have c2 : (1 : Int) = 0 := by have h : ¬ ((1 : Int) ≠ 0) := c2; omega
      exfalso; omega
  · have c1 : ¬ (cYear 5 m x1) := c1
    show hxn xs n yp_m19 5 [(0, .inr (.inl 5)), (1, .inl x1), (2, .inl x2), (3, .inl x3)] [.inl 0] m Q
    refine hx_if .ne 9 (by decide +kernel) (fun c2 => ?_) (fun c2 => ?_)
    · have c2 : (0 : Int) ≠ 0 := c2
      exfalso; omega
    · have c2 : (0 : Int) = 0 := by have h : ¬ ((0 : Int) ≠ 0) := c2; omega
      exact hx_ret0 (by decide +kernel) (h2 c1)

/-- free from 0 on -/
theorem hr18_0 {xs : List Int32} {n : Nat} {Q : hQ} {m : gx_M} {x1 : Int}
    (h1 : hxn xs n yp_m19 0 [(0, .inr (.inl 5)), (1, .inl x1), (2, .inl (-2)), (3, .inl 0)] [] m (fun r m' => hxn xs n yp_m18 8 [] (hrs r ++ []) m' Q)) : hxn xs (n + 1) yp_m18 0 [(0, .inr (.inl 5)), (1, .inl x1)] [] m Q := by
  refine hx_blks (npc := 5) (L' := [(0, .inr (.inl 5)), (1, .inl x1)]) (st' := [.inl 0, .inl (-2), .inl x1, .inr (.inl 5)]) (m' := m) ((0, .aload_n 0, 1, 0, 0, 0, 0), (0, 0, 0)) [((1, .iload_n 1, 1, 0, 0, 0, 0), (0, 0, 0)), ((2, .bipush (-2), 2, 0, 0, 0, 0), (0, 0, 0)), ((4, .iconst 0, 1, 0, 0, 0, 0), (0, 0, 0))] (by decide +kernel) rfl ?_
  exact hx_call (E := (5, .invokevirtual 85, 3, 19, 0, 2196, 0)) (M' := yp_m19) [.inr (.inl 5), .inl x1, .inl (-2), .inl 0] [] rfl (by decide +kernel) rfl ⟨rfl, rfl⟩ rfl rfl (hx_mono h1 (fun r m' h' => hx_pick [] h'))

/-- free from 8 on -/
theorem hr18_8 {xs : List Int32} {n : Nat} {Q : hQ} {m : gx_M}
    (h1 : Q none m) : hxn xs (n + 1) yp_m18 8 [] [] m Q := by
  exact hx_ret0 (by decide +kernel) h1

/-- give from 0 on -/
theorem hr16_0 {xs : List Int32} {n : Nat} {Q : hQ} {m : gx_M} {x1 x2 : Int}
    (h1 : (cYear 5 m x1) → hxn xs n yp_m18 0 [(0, .inr (.inl 5)), (1, .inl x1)] [] (gx_u m 12 (x1).toNat x2) (fun r m' => hxn xs n yp_m16 21 [(0, .inr (.inl 5)), (1, .inl x1), (2, .inl x2)] (hrs r ++ []) m' Q))
    (h2 : (¬ (cYear 5 m x1)) → Q none m) : hxn xs (n + 1) yp_m16 0 [(0, .inr (.inl 5)), (1, .inl x1), (2, .inl x2)] [] m Q := by
  refine hx_blks (npc := 2) (L' := [(0, .inr (.inl 5)), (1, .inl x1), (2, .inl x2)]) (st' := [.inl x1, .inr (.inl 5)]) (m' := m) ((0, .aload_n 0, 1, 0, 0, 0, 0), (0, 0, 0)) [((1, .iload_n 1, 1, 0, 0, 0, 0), (0, 0, 0))] (by decide +kernel) rfl ?_
  refine hx_call (E := (2, .invokevirtual 71, 3, 17, 0, 2188, 0)) (M' := yp_m17) [.inr (.inl 5), .inl x1] [] rfl (by decide +kernel) rfl ⟨rfl, rfl⟩ rfl rfl (hs17_5 (fun c1 => ?_) (fun c1 => ?_))
  · have c1 : cYear 5 m x1 := c1
    show hxn xs n yp_m16 5 [(0, .inr (.inl 5)), (1, .inl x1), (2, .inl x2)] [.inl 1] m Q
    refine hx_if .ne 9 (by decide +kernel) (fun c2 => ?_) (fun c2 => ?_)
    · have c2 : (1 : Int) ≠ 0 := c2
      refine hx_blk (npc := 18) (L' := [(0, .inr (.inl 5)), (1, .inl x1), (2, .inl x2)]) (st' := [.inl x1, .inr (.inl 5)]) (m' := (gx_u m 12 (x1).toNat x2)) [((9, .aload_n 0, 1, 0, 0, 0, 0), (0, 0, 0)), ((10, .getfield 34, 3, 2, 11, 1111, 0), (1, 5, 12)), ((13, .iload_n 1, 1, 0, 0, 0, 0), (0, 0, 0)), ((14, .iload_n 2, 1, 0, 0, 0, 0), (0, 0, 0)), ((15, .iastore, 1, 0, 0, 0, 0), (0, 12, 0)), ((16, .aload_n 0, 1, 0, 0, 0, 0), (0, 0, 0)), ((17, .iload_n 1, 1, 0, 0, 0, 0), (0, 0, 0))] (by decide +kernel) rfl ?_
      exact hx_call (E := (18, .invokevirtual 81, 3, 18, 0, 2192, 0)) (M' := yp_m18) [.inr (.inl 5), .inl x1] [] rfl (by decide +kernel) rfl ⟨rfl, rfl⟩ rfl rfl (hx_mono (h1 c1) (fun r m' h' => hx_pick [0, 1, 2] h'))
    · have c2 : (1 : Int) = 0 := by have h : ¬ ((1 : Int) ≠ 0) := c2; omega
      exfalso; omega
  · have c1 : ¬ (cYear 5 m x1) := c1
    show hxn xs n yp_m16 5 [(0, .inr (.inl 5)), (1, .inl x1), (2, .inl x2)] [.inl 0] m Q
    refine hx_if .ne 9 (by decide +kernel) (fun c2 => ?_) (fun c2 => ?_)
    · have c2 : (0 : Int) ≠ 0 := c2
      exfalso; omega
    · have c2 : (0 : Int) = 0 := by have h : ¬ ((0 : Int) ≠ 0) := c2; omega
      exact hx_ret0 (by decide +kernel) (h2 c1)

/-- give from 21 on -/
theorem hr16_21 {xs : List Int32} {n : Nat} {Q : hQ} {m : gx_M} {x1 x2 : Int}
    (h1 : ((m 16 (x1).toNat) < 0) → Q none m)
    (h2 : (0 ≤ (m 16 (x1).toNat)) → ((m 16 (x1).toNat) < 16) → Q none (gx_u (gx_u m 17 (gx_w ((gx_w (x1 * 16)) + (m 16 (x1).toNat))).toNat x2) 16 (x1).toNat ((m 16 (x1).toNat) + 1)))
    (h3 : (0 ≤ (m 16 (x1).toNat)) → (16 ≤ (m 16 (x1).toNat)) → Q none m) : hxn xs (n + 1) yp_m16 21 [(0, .inr (.inl 5)), (1, .inl x1), (2, .inl x2)] [] m Q := by
  refine hx_blks (npc := 29) (L' := [(0, .inr (.inl 5)), (1, .inl x1), (2, .inl x2), (3, .inl (m 16 (x1).toNat))]) (st' := [.inl (m 16 (x1).toNat)]) (m' := m) ((21, .aload_n 0, 1, 0, 0, 0, 0), (0, 0, 0)) [((22, .getfield 46, 3, 2, 15, 1131, 0), (1, 5, 16)), ((25, .iload_n 1, 1, 0, 0, 0, 0), (0, 0, 0)), ((26, .iaload, 1, 0, 0, 0, 0), (0, 16, 0)), ((27, .istore_n 3, 1, 0, 0, 0, 0), (0, 0, 0)), ((28, .iload_n 3, 1, 0, 0, 0, 0), (0, 0, 0))] (by decide +kernel) rfl ?_
  refine hx_if .lt 38 (by decide +kernel) (fun c1 => ?_) (fun c1 => ?_)
  · have c1 : (m 16 (x1).toNat) < 0 := c1
    exact hx_ret0 (by decide +kernel) (h1 c1)
  · have c1 : 0 ≤ (m 16 (x1).toNat) := by have h : ¬ ((m 16 (x1).toNat) < 0) := c1; omega
    refine hx_blk (npc := 35) (L' := [(0, .inr (.inl 5)), (1, .inl x1), (2, .inl x2), (3, .inl (m 16 (x1).toNat))]) (st' := [.inl 16, .inl (m 16 (x1).toNat)]) (m' := m) [((32, .iload_n 3, 1, 0, 0, 0, 0), (0, 0, 0)), ((33, .bipush 16, 2, 0, 0, 0, 0), (0, 0, 0))] (by decide +kernel) rfl ?_
    refine hx_cmp .lt 39 (by decide +kernel) (fun c2 => ?_) (fun c2 => ?_)
    · have c2 : (m 16 (x1).toNat) < 16 := c2
      have e1 : gx_w ((m 16 (x1).toNat) + 1) = (m 16 (x1).toNat) + 1 := gx_w_id (by omega) (by omega)
      refine hx_blk (npc := 60) (L' := [(0, .inr (.inl 5)), (1, .inl x1), (2, .inl x2), (3, .inl (m 16 (x1).toNat))]) (st' := []) (m' := (gx_u (gx_u m 17 (gx_w ((gx_w (x1 * 16)) + (m 16 (x1).toNat))).toNat x2) 16 (x1).toNat (gx_w ((m 16 (x1).toNat) + 1)))) [((39, .aload_n 0, 1, 0, 0, 0, 0), (0, 0, 0)), ((40, .getfield 49, 3, 2, 16, 1136, 0), (1, 5, 17)), ((43, .iload_n 1, 1, 0, 0, 0, 0), (0, 0, 0)), ((44, .bipush 16, 2, 0, 0, 0, 0), (0, 0, 0)), ((46, .imul, 1, 0, 0, 0, 0), (0, 0, 0)), ((47, .iload_n 3, 1, 0, 0, 0, 0), (0, 0, 0)), ((48, .iadd, 1, 0, 0, 0, 0), (0, 0, 0)), ((49, .iload_n 2, 1, 0, 0, 0, 0), (0, 0, 0)), ((50, .iastore, 1, 0, 0, 0, 0), (0, 17, 0)), ((51, .aload_n 0, 1, 0, 0, 0, 0), (0, 0, 0)), ((52, .getfield 46, 3, 2, 15, 1131, 0), (1, 5, 16)), ((55, .iload_n 1, 1, 0, 0, 0, 0), (0, 0, 0)), ((56, .iload_n 3, 1, 0, 0, 0, 0), (0, 0, 0)), ((57, .iconst 1, 1, 0, 0, 0, 0), (0, 0, 0)), ((58, .iadd, 1, 0, 0, 0, 0), (0, 0, 0)), ((59, .iastore, 1, 0, 0, 0, 0), (0, 16, 0))] (by decide +kernel) rfl ?_
      rw [e1]
      exact hx_ret0 (by decide +kernel) (h2 c1 c2)
    · have c2 : 16 ≤ (m 16 (x1).toNat) := by have h : ¬ ((m 16 (x1).toNat) < 16) := c2; omega
      exact hx_ret0 (by decide +kernel) (h3 c1 c2)

/-- earn from 0 on -/
theorem hr69_0 {xs : List Int32} {n : Nat} {Q : hQ} {m : gx_M} {x1 x2 : Int}
    (h1 : (cPers 5 m x1) → Q none (gx_u m 6 (x1).toNat (if (gx_w ((m 6 (x1).toNat) + x2)) < 99999 then (gx_w ((m 6 (x1).toNat) + x2)) else 99999)))
    (h2 : (¬ (cPers 5 m x1)) → Q none m) : hxn xs (n + 1) yp_m69 0 [(0, .inr (.inl 5)), (1, .inl x1), (2, .inl x2)] [] m Q := by
  refine hx_blks (npc := 2) (L' := [(0, .inr (.inl 5)), (1, .inl x1), (2, .inl x2)]) (st' := [.inl x1, .inr (.inl 5)]) (m' := m) ((0, .aload_n 0, 1, 0, 0, 0, 0), (0, 0, 0)) [((1, .iload_n 1, 1, 0, 0, 0, 0), (0, 0, 0))] (by decide +kernel) rfl ?_
  refine hx_call (E := (2, .invokevirtual 89, 3, 13, 0, 3179, 0)) (M' := yp_m13) [.inr (.inl 5), .inl x1] [] rfl (by decide +kernel) rfl ⟨rfl, rfl⟩ rfl rfl (hs13_5 (fun c1 => ?_) (fun c1 => ?_))
  · have c1 : cPers 5 m x1 := c1
    show hxn xs n yp_m69 5 [(0, .inr (.inl 5)), (1, .inl x1), (2, .inl x2)] [.inl 1] m Q
    refine hx_if .eq 27 (by decide +kernel) (fun c2 => ?_) (fun c2 => ?_)
    · have c2 : (1 : Int) = 0 := c2
      exfalso; omega
    · have c2 : (1 : Int) ≠ 0 := c2
      refine hx_blk (npc := 27) (L' := [(0, .inr (.inl 5)), (1, .inl x1), (2, .inl x2)]) (st' := []) (m' := (gx_u m 6 (x1).toNat (if (gx_w ((m 6 (x1).toNat) + x2)) < 99999 then (gx_w ((m 6 (x1).toNat) + x2)) else 99999))) [((8, .aload_n 0, 1, 0, 0, 0, 0), (0, 0, 0)), ((9, .getfield 15, 3, 2, 5, 1089, 0), (1, 5, 6)), ((12, .iload_n 1, 1, 0, 0, 0, 0), (0, 0, 0)), ((13, .ldc 92, 2, 0, 0, 3184, 99999), (0, 0, 0)), ((15, .aload_n 0, 1, 0, 0, 0, 0), (0, 0, 0)), ((16, .getfield 15, 3, 2, 5, 1089, 0), (1, 5, 6)), ((19, .iload_n 1, 1, 0, 0, 0, 0), (0, 0, 0)), ((20, .iaload, 1, 0, 0, 0, 0), (0, 6, 0)), ((21, .iload_n 2, 1, 0, 0, 0, 0), (0, 0, 0)), ((22, .iadd, 1, 0, 0, 0, 0), (0, 0, 0)), ((23, .invokestatic 93, 3, 1003, 2221, 3185, 1013002222), (0, 0, 0)), ((26, .iastore, 1, 0, 0, 0, 0), (0, 6, 0))] (by decide +kernel) rfl ?_
      exact hx_ret0 (by decide +kernel) (h1 c1)
  · have c1 : ¬ (cPers 5 m x1) := c1
    show hxn xs n yp_m69 5 [(0, .inr (.inl 5)), (1, .inl x1), (2, .inl x2)] [.inl 0] m Q
    refine hx_if .eq 27 (by decide +kernel) (fun c2 => ?_) (fun c2 => ?_)
    · have c2 : (0 : Int) = 0 := c2
      exact hx_ret0 (by decide +kernel) (h2 c1)
    · have c2 : (0 : Int) ≠ 0 := c2
      exfalso; omega

/-- pay from 0 on -/
theorem hr68_0 {xs : List Int32} {n : Nat} {Q : hQ} {m : gx_M} {x1 x2 x3 : Int}
    (h1 : (cPers 5 m x1) → hxn xs n yp_m69 0 [(0, .inr (.inl 5)), (1, .inl x2), (2, .inl x3)] [] (gx_u m 6 (x1).toNat (gx_w ((m 6 (x1).toNat) - x3))) (fun r m' => hxn xs n yp_m68 25 [] (hrs r ++ []) m' Q))
    (h2 : (¬ (cPers 5 m x1)) → Q none m) : hxn xs (n + 1) yp_m68 0 [(0, .inr (.inl 5)), (1, .inl x1), (2, .inl x2), (3, .inl x3)] [] m Q := by
  refine hx_blks (npc := 2) (L' := [(0, .inr (.inl 5)), (1, .inl x1), (2, .inl x2), (3, .inl x3)]) (st' := [.inl x1, .inr (.inl 5)]) (m' := m) ((0, .aload_n 0, 1, 0, 0, 0, 0), (0, 0, 0)) [((1, .iload_n 1, 1, 0, 0, 0, 0), (0, 0, 0))] (by decide +kernel) rfl ?_
  refine hx_call (E := (2, .invokevirtual 89, 3, 13, 0, 3179, 0)) (M' := yp_m13) [.inr (.inl 5), .inl x1] [] rfl (by decide +kernel) rfl ⟨rfl, rfl⟩ rfl rfl (hs13_5 (fun c1 => ?_) (fun c1 => ?_))
  · have c1 : cPers 5 m x1 := c1
    show hxn xs n yp_m68 5 [(0, .inr (.inl 5)), (1, .inl x1), (2, .inl x2), (3, .inl x3)] [.inl 1] m Q
    refine hx_if .ne 9 (by decide +kernel) (fun c2 => ?_) (fun c2 => ?_)
    · have c2 : (1 : Int) ≠ 0 := c2
      refine hx_blk (npc := 22) (L' := [(0, .inr (.inl 5)), (1, .inl x1), (2, .inl x2), (3, .inl x3)]) (st' := [.inl x3, .inl x2, .inr (.inl 5)]) (m' := (gx_u m 6 (x1).toNat (gx_w ((m 6 (x1).toNat) - x3)))) [((9, .aload_n 0, 1, 0, 0, 0, 0), (0, 0, 0)), ((10, .getfield 15, 3, 2, 5, 1089, 0), (1, 5, 6)), ((13, .iload_n 1, 1, 0, 0, 0, 0), (0, 0, 0)), ((14, .dup2, 1, 0, 0, 0, 0), (0, 0, 0)), ((15, .iaload, 1, 0, 0, 0, 0), (0, 6, 0)), ((16, .iload_n 3, 1, 0, 0, 0, 0), (0, 0, 0)), ((17, .isub, 1, 0, 0, 0, 0), (0, 0, 0)), ((18, .iastore, 1, 0, 0, 0, 0), (0, 6, 0)), ((19, .aload_n 0, 1, 0, 0, 0, 0), (0, 0, 0)), ((20, .iload_n 2, 1, 0, 0, 0, 0), (0, 0, 0)), ((21, .iload_n 3, 1, 0, 0, 0, 0), (0, 0, 0))] (by decide +kernel) rfl ?_
      exact hx_call (E := (22, .invokevirtual 99, 3, 69, 0, 3180, 0)) (M' := yp_m69) [.inr (.inl 5), .inl x2, .inl x3] [] rfl (by decide +kernel) rfl ⟨rfl, rfl⟩ rfl rfl (hx_mono (h1 c1) (fun r m' h' => hx_pick [] h'))
    · have c2 : (1 : Int) = 0 := by have h : ¬ ((1 : Int) ≠ 0) := c2; omega
      exfalso; omega
  · have c1 : ¬ (cPers 5 m x1) := c1
    show hxn xs n yp_m68 5 [(0, .inr (.inl 5)), (1, .inl x1), (2, .inl x2), (3, .inl x3)] [.inl 0] m Q
    refine hx_if .ne 9 (by decide +kernel) (fun c2 => ?_) (fun c2 => ?_)
    · have c2 : (0 : Int) ≠ 0 := c2
      exfalso; omega
    · have c2 : (0 : Int) = 0 := by have h : ¬ ((0 : Int) ≠ 0) := c2; omega
      exact hx_ret0 (by decide +kernel) (h2 c1)

/-- pay from 25 on -/
theorem hr68_25 {xs : List Int32} {n : Nat} {Q : hQ} {m : gx_M}
    (h1 : Q none m) : hxn xs (n + 1) yp_m68 25 [] [] m Q := by
  exact hx_ret0 (by decide +kernel) h1

/-- carryOut from 0 on -/
theorem hr67_0 {xs : List Int32} {n : Nat} {Q : hQ} {m : gx_M} {x2 : Int}
    (h1 : (x2 < 0) → Q none m)
    (h2 : (0 ≤ x2) → (16 ≤ x2) → Q none m)
    (h3 : (0 ≤ x2) → (x2 < 16) → (cYear 5 m (m 62 (x2).toNat)) → ((m 64 (x2).toNat) ≠ 91) → hxn xs n yp_m68 0 [(0, .inr (.inl 5)), (1, .inl (m 65 (x2).toNat)), (2, .inl (m 63 (x2).toNat)), (3, .inl (m 66 (x2).toNat))] [] m (fun r m' => hxn xs n yp_m67 92 [(0, .inr (.inl 61)), (1, .inr (.inl 5)), (2, .inl x2), (3, .inl (m 62 (x2).toNat)), (5, .inl (m 65 (x2).toNat))] (hrs r ++ []) m' Q))
    (h4 : (0 ≤ x2) → (x2 < 16) → (cYear 5 m (m 62 (x2).toNat)) → ((m 64 (x2).toNat) = 91) → hxn xs n yp_m68 0 [(0, .inr (.inl 5)), (1, .inl (m 63 (x2).toNat)), (2, .inl (m 65 (x2).toNat)), (3, .inl (m 15 (m 62 (x2).toNat).toNat))] [] m (fun r m' => hxn xs n yp_m67 72 [(1, .inr (.inl 5)), (3, .inl (m 62 (x2).toNat))] (hrs r ++ []) m' Q))
    (h5 : (0 ≤ x2) → (x2 < 16) → (¬ (cYear 5 m (m 62 (x2).toNat))) → Q none m) : hxn xs (n + 1) yp_m67 0 [(0, .inr (.inl 61)), (1, .inr (.inl 5)), (2, .inl x2)] [] m Q := by
  refine hx_blks (npc := 1) (L' := [(0, .inr (.inl 61)), (1, .inr (.inl 5)), (2, .inl x2)]) (st' := [.inl x2]) (m' := m) ((0, .iload_n 2, 1, 0, 0, 0, 0), (0, 0, 0)) [] (by decide +kernel) rfl ?_
  refine hx_if .lt 23 (by decide +kernel) (fun c1 => ?_) (fun c1 => ?_)
  · have c1 : x2 < 0 := c1
    exact hx_ret0 (by decide +kernel) (h1 c1)
  · have c1 : 0 ≤ x2 := by have h : ¬ (x2 < 0) := c1; omega
    refine hx_blk (npc := 7) (L' := [(0, .inr (.inl 61)), (1, .inr (.inl 5)), (2, .inl x2)]) (st' := [.inl 16, .inl x2]) (m' := m) [((4, .iload_n 2, 1, 0, 0, 0, 0), (0, 0, 0)), ((5, .bipush 16, 2, 0, 0, 0, 0), (0, 0, 0))] (by decide +kernel) rfl ?_
    refine hx_cmp .ge 23 (by decide +kernel) (fun c2 => ?_) (fun c2 => ?_)
    · have c2 : 16 ≤ x2 := c2
      exact hx_ret0 (by decide +kernel) (h2 c1 c2)
    · have c2 : x2 < 16 := by have h : ¬ (16 ≤ x2) := c2; omega
      refine hx_blk (npc := 17) (L' := [(0, .inr (.inl 61)), (1, .inr (.inl 5)), (2, .inl x2)]) (st' := [.inl (m 62 (x2).toNat), .inr (.inl 5)]) (m' := m) [((10, .aload_n 1, 1, 0, 0, 0, 0), (0, 0, 0)), ((11, .aload_n 0, 1, 0, 0, 0, 0), (0, 0, 0)), ((12, .getfield 9, 3, 5, 0, 1237, 0), (1, 61, 62)), ((15, .iload_n 2, 1, 0, 0, 0, 0), (0, 0, 0)), ((16, .iaload, 1, 0, 0, 0, 0), (0, 62, 0))] (by decide +kernel) rfl ?_
      refine hx_call (E := (17, .invokevirtual 79, 3, 17, 0, 3117, 0)) (M' := yp_m17) [.inr (.inl 5), .inl (m 62 (x2).toNat)] [] rfl (by decide +kernel) rfl ⟨rfl, rfl⟩ rfl rfl (hs17_5 (fun c3 => ?_) (fun c3 => ?_))
      · have c3 : cYear 5 m (m 62 (x2).toNat) := c3
        show hxn xs n yp_m67 20 [(0, .inr (.inl 61)), (1, .inr (.inl 5)), (2, .inl x2)] [.inl 1] m Q
        refine hx_if .ne 24 (by decide +kernel) (fun c4 => ?_) (fun c4 => ?_)
        · have c4 : (1 : Int) ≠ 0 := c4
          refine hx_blk (npc := 55) (L' := [(0, .inr (.inl 61)), (1, .inr (.inl 5)), (2, .inl x2), (3, .inl (m 62 (x2).toNat)), (4, .inl (m 63 (x2).toNat)), (5, .inl (m 65 (x2).toNat))]) (st' := [.inl 91, .inl (m 64 (x2).toNat)]) (m' := m) [((24, .aload_n 0, 1, 0, 0, 0, 0), (0, 0, 0)), ((25, .getfield 9, 3, 5, 0, 1237, 0), (1, 61, 62)), ((28, .iload_n 2, 1, 0, 0, 0, 0), (0, 0, 0)), ((29, .iaload, 1, 0, 0, 0, 0), (0, 62, 0)), ((30, .istore_n 3, 1, 0, 0, 0, 0), (0, 0, 0)), ((31, .aload_n 0, 1, 0, 0, 0, 0), (0, 0, 0)), ((32, .getfield 15, 3, 5, 1, 1238, 0), (1, 61, 63)), ((35, .iload_n 2, 1, 0, 0, 0, 0), (0, 0, 0)), ((36, .iaload, 1, 0, 0, 0, 0), (0, 63, 0)), ((37, .istore 4, 2, 0, 0, 0, 0), (0, 0, 0)), ((39, .aload_n 0, 1, 0, 0, 0, 0), (0, 0, 0)), ((40, .getfield 21, 3, 5, 3, 2000, 0), (1, 61, 65)), ((43, .iload_n 2, 1, 0, 0, 0, 0), (0, 0, 0)), ((44, .iaload, 1, 0, 0, 0, 0), (0, 65, 0)), ((45, .istore 5, 2, 0, 0, 0, 0), (0, 0, 0)), ((47, .aload_n 0, 1, 0, 0, 0, 0), (0, 0, 0)), ((48, .getfield 18, 3, 5, 2, 1239, 0), (1, 61, 64)), ((51, .iload_n 2, 1, 0, 0, 0, 0), (0, 0, 0)), ((52, .iaload, 1, 0, 0, 0, 0), (0, 64, 0)), ((53, .bipush 91, 2, 0, 0, 0, 0), (0, 0, 0))] (by decide +kernel) rfl ?_
          refine hx_cmp .ne 78 (by decide +kernel) (fun c4 => ?_) (fun c4 => ?_)
          · have c4 : (m 64 (x2).toNat) ≠ 91 := c4
            refine hx_blk (npc := 89) (L' := [(0, .inr (.inl 61)), (1, .inr (.inl 5)), (2, .inl x2), (3, .inl (m 62 (x2).toNat)), (4, .inl (m 63 (x2).toNat)), (5, .inl (m 65 (x2).toNat))]) (st' := [.inl (m 66 (x2).toNat), .inl (m 63 (x2).toNat), .inl (m 65 (x2).toNat), .inr (.inl 5)]) (m' := m) [((78, .aload_n 1, 1, 0, 0, 0, 0), (0, 0, 0)), ((79, .iload 5, 2, 0, 0, 0, 0), (0, 0, 0)), ((81, .iload 4, 2, 0, 0, 0, 0), (0, 0, 0)), ((83, .aload_n 0, 1, 0, 0, 0, 0), (0, 0, 0)), ((84, .getfield 24, 3, 5, 4, 2001, 0), (1, 61, 66)), ((87, .iload_n 2, 1, 0, 0, 0, 0), (0, 0, 0)), ((88, .iaload, 1, 0, 0, 0, 0), (0, 66, 0))] (by decide +kernel) rfl ?_
            exact hx_call (E := (89, .invokevirtual 113, 3, 68, 0, 3175, 0)) (M' := yp_m68) [.inr (.inl 5), .inl (m 65 (x2).toNat), .inl (m 63 (x2).toNat), .inl (m 66 (x2).toNat)] [] rfl (by decide +kernel) rfl ⟨rfl, rfl⟩ rfl rfl (hx_mono (h3 c1 c2 c3 c4) (fun r m' h' => hx_pick [0, 1, 2, 3, 5] h'))
          · have c4 : (m 64 (x2).toNat) = 91 := by have h : ¬ ((m 64 (x2).toNat) ≠ 91) := c4; omega
            refine hx_blk (npc := 69) (L' := [(0, .inr (.inl 61)), (1, .inr (.inl 5)), (2, .inl x2), (3, .inl (m 62 (x2).toNat)), (4, .inl (m 63 (x2).toNat)), (5, .inl (m 65 (x2).toNat))]) (st' := [.inl (m 15 (m 62 (x2).toNat).toNat), .inl (m 65 (x2).toNat), .inl (m 63 (x2).toNat), .inr (.inl 5)]) (m' := m) [((58, .aload_n 1, 1, 0, 0, 0, 0), (0, 0, 0)), ((59, .iload 4, 2, 0, 0, 0, 0), (0, 0, 0)), ((61, .iload 5, 2, 0, 0, 0, 0), (0, 0, 0)), ((63, .aload_n 1, 1, 0, 0, 0, 0), (0, 0, 0)), ((64, .getfield 96, 3, 2, 14, 1129, 0), (1, 5, 15)), ((67, .iload_n 3, 1, 0, 0, 0, 0), (0, 0, 0)), ((68, .iaload, 1, 0, 0, 0, 0), (0, 15, 0))] (by decide +kernel) rfl ?_
            exact hx_call (E := (69, .invokevirtual 113, 3, 68, 0, 3175, 0)) (M' := yp_m68) [.inr (.inl 5), .inl (m 63 (x2).toNat), .inl (m 65 (x2).toNat), .inl (m 15 (m 62 (x2).toNat).toNat)] [] rfl (by decide +kernel) rfl ⟨rfl, rfl⟩ rfl rfl (hx_mono (h4 c1 c2 c3 c4) (fun r m' h' => hx_pick [1, 3] h'))
        · have c4 : (1 : Int) = 0 := by have h : ¬ ((1 : Int) ≠ 0) := c4; omega
          exfalso; omega
      · have c3 : ¬ (cYear 5 m (m 62 (x2).toNat)) := c3
        show hxn xs n yp_m67 20 [(0, .inr (.inl 61)), (1, .inr (.inl 5)), (2, .inl x2)] [.inl 0] m Q
        refine hx_if .ne 24 (by decide +kernel) (fun c4 => ?_) (fun c4 => ?_)
        · have c4 : (0 : Int) ≠ 0 := c4
          exfalso; omega
        · have c4 : (0 : Int) = 0 := by have h : ¬ ((0 : Int) ≠ 0) := c4; omega
          exact hx_ret0 (by decide +kernel) (h5 c1 c2 c3)

/-- carryOut from 72 on -/
theorem hr67_72 {xs : List Int32} {n : Nat} {Q : hQ} {m : gx_M} {x3 : Int}
    (h1 : hxn xs n yp_m18 0 [(0, .inr (.inl 5)), (1, .inl x3)] [] m (fun r m' => hxn xs n yp_m67 77 [] (hrs r ++ []) m' Q)) : hxn xs (n + 1) yp_m67 72 [(1, .inr (.inl 5)), (3, .inl x3)] [] m Q := by
  refine hx_blks (npc := 74) (L' := [(1, .inr (.inl 5)), (3, .inl x3)]) (st' := [.inl x3, .inr (.inl 5)]) (m' := m) ((72, .aload_n 1, 1, 0, 0, 0, 0), (0, 0, 0)) [((73, .iload_n 3, 1, 0, 0, 0, 0), (0, 0, 0))] (by decide +kernel) rfl ?_
  exact hx_call (E := (74, .invokevirtual 117, 3, 18, 0, 3186, 0)) (M' := yp_m18) [.inr (.inl 5), .inl x3] [] rfl (by decide +kernel) rfl ⟨rfl, rfl⟩ rfl rfl (hx_mono h1 (fun r m' h' => hx_pick [] h'))

/-- carryOut from 77 on -/
theorem hr67_77 {xs : List Int32} {n : Nat} {Q : hQ} {m : gx_M}
    (h1 : Q none m) : hxn xs (n + 1) yp_m67 77 [] [] m Q := by
  exact hx_ret0 (by decide +kernel) h1

/-- carryOut from 92 on -/
theorem hr67_92 {xs : List Int32} {n : Nat} {Q : hQ} {m : gx_M} {x2 x3 x5 : Int}
    (h1 : ((m 64 (x2).toNat) ≠ 93) → hxn xs n yp_m16 0 [(0, .inr (.inl 5)), (1, .inl x3), (2, .inl x5)] [] m (fun r m' => hxn xs n yp_m67 126 [] (hrs r ++ []) m' Q))
    (h2 : ((m 64 (x2).toNat) = 93) → hxn xs n yp_m19 0 [(0, .inr (.inl 5)), (1, .inl x3), (2, .inl x5), (3, .inl (m 66 (x2).toNat))] [] m (fun r m' => hxn xs n yp_m67 116 [] (hrs r ++ []) m' Q)) : hxn xs (n + 1) yp_m67 92 [(0, .inr (.inl 61)), (1, .inr (.inl 5)), (2, .inl x2), (3, .inl x3), (5, .inl x5)] [] m Q := by
  refine hx_blks (npc := 100) (L' := [(0, .inr (.inl 61)), (1, .inr (.inl 5)), (2, .inl x2), (3, .inl x3), (5, .inl x5)]) (st' := [.inl 93, .inl (m 64 (x2).toNat)]) (m' := m) ((92, .aload_n 0, 1, 0, 0, 0, 0), (0, 0, 0)) [((93, .getfield 18, 3, 5, 2, 1239, 0), (1, 61, 64)), ((96, .iload_n 2, 1, 0, 0, 0, 0), (0, 0, 0)), ((97, .iaload, 1, 0, 0, 0, 0), (0, 64, 0)), ((98, .bipush 93, 2, 0, 0, 0, 0), (0, 0, 0))] (by decide +kernel) rfl ?_
  refine hx_cmp .ne 119 (by decide +kernel) (fun c1 => ?_) (fun c1 => ?_)
  · have c1 : (m 64 (x2).toNat) ≠ 93 := c1
    refine hx_blk (npc := 123) (L' := [(0, .inr (.inl 61)), (1, .inr (.inl 5)), (2, .inl x2), (3, .inl x3), (5, .inl x5)]) (st' := [.inl x5, .inl x3, .inr (.inl 5)]) (m' := m) [((119, .aload_n 1, 1, 0, 0, 0, 0), (0, 0, 0)), ((120, .iload_n 3, 1, 0, 0, 0, 0), (0, 0, 0)), ((121, .iload 5, 2, 0, 0, 0, 0), (0, 0, 0))] (by decide +kernel) rfl ?_
    exact hx_call (E := (123, .invokevirtual 124, 3, 16, 0, 3188, 0)) (M' := yp_m16) [.inr (.inl 5), .inl x3, .inl x5] [] rfl (by decide +kernel) rfl ⟨rfl, rfl⟩ rfl rfl (hx_mono (h1 c1) (fun r m' h' => hx_pick [] h'))
  · have c1 : (m 64 (x2).toNat) = 93 := by have h : ¬ ((m 64 (x2).toNat) ≠ 93) := c1; omega
    refine hx_blk (npc := 113) (L' := [(0, .inr (.inl 61)), (1, .inr (.inl 5)), (2, .inl x2), (3, .inl x3), (5, .inl x5)]) (st' := [.inl (m 66 (x2).toNat), .inl x5, .inl x3, .inr (.inl 5)]) (m' := m) [((103, .aload_n 1, 1, 0, 0, 0, 0), (0, 0, 0)), ((104, .iload_n 3, 1, 0, 0, 0, 0), (0, 0, 0)), ((105, .iload 5, 2, 0, 0, 0, 0), (0, 0, 0)), ((107, .aload_n 0, 1, 0, 0, 0, 0), (0, 0, 0)), ((108, .getfield 24, 3, 5, 4, 2001, 0), (1, 61, 66)), ((111, .iload_n 2, 1, 0, 0, 0, 0), (0, 0, 0)), ((112, .iaload, 1, 0, 0, 0, 0), (0, 66, 0))] (by decide +kernel) rfl ?_
    exact hx_call (E := (113, .invokevirtual 121, 3, 19, 0, 3187, 0)) (M' := yp_m19) [.inr (.inl 5), .inl x3, .inl x5, .inl (m 66 (x2).toNat)] [] rfl (by decide +kernel) rfl ⟨rfl, rfl⟩ rfl rfl (hx_mono (h2 c1) (fun r m' h' => hx_pick [] h'))

/-- carryOut from 116 on -/
theorem hr67_116 {xs : List Int32} {n : Nat} {Q : hQ} {m : gx_M}
    (h1 : Q none m) : hxn xs (n + 1) yp_m67 116 [] [] m Q := by
  refine hx_blks (npc := 126) (L' := []) (st' := []) (m' := m) ((116, .goto 10, 3, 0, 0, 0, 0), (0, 0, 0)) [] (by decide +kernel) rfl ?_
  exact hx_ret0 (by decide +kernel) h1

/-- carryOut from 126 on -/
theorem hr67_126 {xs : List Int32} {n : Nat} {Q : hQ} {m : gx_M}
    (h1 : Q none m) : hxn xs (n + 1) yp_m67 126 [] [] m Q := by
  exact hx_ret0 (by decide +kernel) h1

/-- canBe from 0 on -/
theorem hr54_0 {xs : List Int32} {n : Nat} {Q : hQ} {m : gx_M} {x3 : Int}
    (h1 : (x3 < 0) → Q (some (.inl 0)) m)
    (h2 : (0 ≤ x3) → ((m 61 5) ≤ x3) → Q (some (.inl 0)) m)
    (h3 : (0 ≤ x3) → (x3 < (m 61 5)) → (x3 < 16) → (cYear 5 m (m 62 (x3).toNat)) → (cPers 5 m (m 63 (x3).toNat)) → (cPers 5 m (m 65 (x3).toNat)) → ((m 12 (m 62 (x3).toNat).toNat) = (m 63 (x3).toNat)) → ((m 64 (x3).toNat) ≠ 91) → ((m 13 (m 62 (x3).toNat).toNat) ≠ (-2)) → Q (some (.inl 0)) m)
    (h4 : (0 ≤ x3) → (x3 < (m 61 5)) → (x3 < 16) → (cYear 5 m (m 62 (x3).toNat)) → (cPers 5 m (m 63 (x3).toNat)) → (cPers 5 m (m 65 (x3).toNat)) → ((m 12 (m 62 (x3).toNat).toNat) = (m 63 (x3).toNat)) → ((m 64 (x3).toNat) ≠ 91) → ((m 13 (m 62 (x3).toNat).toNat) = (-2)) → ((m 6 (m 65 (x3).toNat).toNat) < (m 66 (x3).toNat)) → Q (some (.inl 0)) m)
    (h5 : (0 ≤ x3) → (x3 < (m 61 5)) → (x3 < 16) → (cYear 5 m (m 62 (x3).toNat)) → (cPers 5 m (m 63 (x3).toNat)) → (cPers 5 m (m 65 (x3).toNat)) → ((m 12 (m 62 (x3).toNat).toNat) = (m 63 (x3).toNat)) → ((m 64 (x3).toNat) ≠ 91) → ((m 13 (m 62 (x3).toNat).toNat) = (-2)) → ((m 66 (x3).toNat) ≤ (m 6 (m 65 (x3).toNat).toNat)) → hxn xs n yp_m55 0 [(0, .inr (.inl 44)), (1, .inr (.inl 5)), (2, .inl (m 62 (x3).toNat)), (3, .inl (m 65 (x3).toNat)), (4, .inl (m 66 (x3).toNat))] [] m (fun r m' => hxn xs n yp_m54 174 [] (hrs r ++ []) m' Q))
    (h6 : (0 ≤ x3) → (x3 < (m 61 5)) → (x3 < 16) → (cYear 5 m (m 62 (x3).toNat)) → (cPers 5 m (m 63 (x3).toNat)) → (cPers 5 m (m 65 (x3).toNat)) → ((m 12 (m 62 (x3).toNat).toNat) = (m 63 (x3).toNat)) → ((m 64 (x3).toNat) = 91) → ((m 13 (m 62 (x3).toNat).toNat) ≠ (m 65 (x3).toNat)) → Q (some (.inl 0)) m)
    (h7 : (0 ≤ x3) → (x3 < (m 61 5)) → (x3 < 16) → (cYear 5 m (m 62 (x3).toNat)) → (cPers 5 m (m 63 (x3).toNat)) → (cPers 5 m (m 65 (x3).toNat)) → ((m 12 (m 62 (x3).toNat).toNat) = (m 63 (x3).toNat)) → ((m 64 (x3).toNat) = 91) → ((m 13 (m 62 (x3).toNat).toNat) = (m 65 (x3).toNat)) → ((m 6 (m 63 (x3).toNat).toNat) < (m 15 (m 62 (x3).toNat).toNat)) → Q (some (.inl 0)) m)
    (h8 : (0 ≤ x3) → (x3 < (m 61 5)) → (x3 < 16) → (cYear 5 m (m 62 (x3).toNat)) → (cPers 5 m (m 63 (x3).toNat)) → (cPers 5 m (m 65 (x3).toNat)) → ((m 12 (m 62 (x3).toNat).toNat) = (m 63 (x3).toNat)) → ((m 64 (x3).toNat) = 91) → ((m 13 (m 62 (x3).toNat).toNat) = (m 65 (x3).toNat)) → ((m 15 (m 62 (x3).toNat).toNat) ≤ (m 6 (m 63 (x3).toNat).toNat)) → Q (some (.inl 1)) m)
    (h9 : (0 ≤ x3) → (x3 < (m 61 5)) → (x3 < 16) → (cYear 5 m (m 62 (x3).toNat)) → (cPers 5 m (m 63 (x3).toNat)) → (cPers 5 m (m 65 (x3).toNat)) → ((m 12 (m 62 (x3).toNat).toNat) ≠ (m 63 (x3).toNat)) → Q (some (.inl 0)) m)
    (h10 : (0 ≤ x3) → (x3 < (m 61 5)) → (x3 < 16) → (cYear 5 m (m 62 (x3).toNat)) → (cPers 5 m (m 63 (x3).toNat)) → (¬ (cPers 5 m (m 65 (x3).toNat))) → Q (some (.inl 0)) m)
    (h11 : (0 ≤ x3) → (x3 < (m 61 5)) → (x3 < 16) → (cYear 5 m (m 62 (x3).toNat)) → (¬ (cPers 5 m (m 63 (x3).toNat))) → Q (some (.inl 0)) m)
    (h12 : (0 ≤ x3) → (x3 < (m 61 5)) → (x3 < 16) → (¬ (cYear 5 m (m 62 (x3).toNat))) → Q (some (.inl 0)) m)
    (h13 : (0 ≤ x3) → (x3 < (m 61 5)) → (16 ≤ x3) → Q (some (.inl 0)) m) : hxn xs (n + 1) yp_m54 0 [(0, .inr (.inl 61)), (1, .inr (.inl 5)), (2, .inr (.inl 44)), (3, .inl x3)] [] m Q := by
  refine hx_blks (npc := 1) (L' := [(0, .inr (.inl 61)), (1, .inr (.inl 5)), (2, .inr (.inl 44)), (3, .inl x3)]) (st' := [.inl x3]) (m' := m) ((0, .iload_n 3, 1, 0, 0, 0, 0), (0, 0, 0)) [] (by decide +kernel) rfl ?_
  refine hx_if .lt 18 (by decide +kernel) (fun c1 => ?_) (fun c1 => ?_)
  · have c1 : x3 < 0 := c1
    refine hx_blk (npc := 19) (L' := [(0, .inr (.inl 61)), (1, .inr (.inl 5)), (2, .inr (.inl 44)), (3, .inl x3)]) (st' := [.inl 0]) (m' := m) [((18, .iconst 0, 1, 0, 0, 0, 0), (0, 0, 0))] (by decide +kernel) rfl ?_
    exact hx_reti (by decide +kernel) (h1 c1)
  · have c1 : 0 ≤ x3 := by have h : ¬ (x3 < 0) := c1; omega
    refine hx_blk (npc := 9) (L' := [(0, .inr (.inl 61)), (1, .inr (.inl 5)), (2, .inr (.inl 44)), (3, .inl x3)]) (st' := [.inl (m 61 5), .inl x3]) (m' := m) [((4, .iload_n 3, 1, 0, 0, 0, 0), (0, 0, 0)), ((5, .aload_n 0, 1, 0, 0, 0, 0), (0, 0, 0)), ((6, .getfield 33, 3, 5, 5, 2002, 0), (0, 61, 0))] (by decide +kernel) rfl ?_
    refine hx_cmp .ge 18 (by decide +kernel) (fun c2 => ?_) (fun c2 => ?_)
    · have c2 : (m 61 5) ≤ x3 := c2
      refine hx_blk (npc := 19) (L' := [(0, .inr (.inl 61)), (1, .inr (.inl 5)), (2, .inr (.inl 44)), (3, .inl x3)]) (st' := [.inl 0]) (m' := m) [((18, .iconst 0, 1, 0, 0, 0, 0), (0, 0, 0))] (by decide +kernel) rfl ?_
      exact hx_reti (by decide +kernel) (h2 c1 c2)
    · have c2 : x3 < (m 61 5) := by have h : ¬ ((m 61 5) ≤ x3) := c2; omega
      refine hx_blk (npc := 15) (L' := [(0, .inr (.inl 61)), (1, .inr (.inl 5)), (2, .inr (.inl 44)), (3, .inl x3)]) (st' := [.inl 16, .inl x3]) (m' := m) [((12, .iload_n 3, 1, 0, 0, 0, 0), (0, 0, 0)), ((13, .bipush 16, 2, 0, 0, 0, 0), (0, 0, 0))] (by decide +kernel) rfl ?_
      refine hx_cmp .lt 20 (by decide +kernel) (fun c3 => ?_) (fun c3 => ?_)
      · have c3 : x3 < 16 := c3
        refine hx_blk (npc := 47) (L' := [(0, .inr (.inl 61)), (1, .inr (.inl 5)), (2, .inr (.inl 44)), (3, .inl x3), (4, .inl (m 62 (x3).toNat)), (5, .inl (m 63 (x3).toNat)), (6, .inl (m 65 (x3).toNat))]) (st' := [.inl (m 62 (x3).toNat), .inr (.inl 5)]) (m' := m) [((20, .aload_n 0, 1, 0, 0, 0, 0), (0, 0, 0)), ((21, .getfield 9, 3, 5, 0, 1237, 0), (1, 61, 62)), ((24, .iload_n 3, 1, 0, 0, 0, 0), (0, 0, 0)), ((25, .iaload, 1, 0, 0, 0, 0), (0, 62, 0)), ((26, .istore 4, 2, 0, 0, 0, 0), (0, 0, 0)), ((28, .aload_n 0, 1, 0, 0, 0, 0), (0, 0, 0)), ((29, .getfield 15, 3, 5, 1, 1238, 0), (1, 61, 63)), ((32, .iload_n 3, 1, 0, 0, 0, 0), (0, 0, 0)), ((33, .iaload, 1, 0, 0, 0, 0), (0, 63, 0)), ((34, .istore 5, 2, 0, 0, 0, 0), (0, 0, 0)), ((36, .aload_n 0, 1, 0, 0, 0, 0), (0, 0, 0)), ((37, .getfield 21, 3, 5, 3, 2000, 0), (1, 61, 65)), ((40, .iload_n 3, 1, 0, 0, 0, 0), (0, 0, 0)), ((41, .iaload, 1, 0, 0, 0, 0), (0, 65, 0)), ((42, .istore 6, 2, 0, 0, 0, 0), (0, 0, 0)), ((44, .aload_n 1, 1, 0, 0, 0, 0), (0, 0, 0)), ((45, .iload 4, 2, 0, 0, 0, 0), (0, 0, 0))] (by decide +kernel) rfl ?_
        refine hx_call (E := (47, .invokevirtual 79, 3, 17, 0, 3117, 0)) (M' := yp_m17) [.inr (.inl 5), .inl (m 62 (x3).toNat)] [] rfl (by decide +kernel) rfl ⟨rfl, rfl⟩ rfl rfl (hs17_5 (fun c4 => ?_) (fun c4 => ?_))
        · have c4 : cYear 5 m (m 62 (x3).toNat) := c4
          show hxn xs n yp_m54 50 [(0, .inr (.inl 61)), (1, .inr (.inl 5)), (2, .inr (.inl 44)), (3, .inl x3), (4, .inl (m 62 (x3).toNat)), (5, .inl (m 63 (x3).toNat)), (6, .inl (m 65 (x3).toNat))] [.inl 1] m Q
          refine hx_if .eq 83 (by decide +kernel) (fun c5 => ?_) (fun c5 => ?_)
          · have c5 : (1 : Int) = 0 := c5
            exfalso; omega
          · have c5 : (1 : Int) ≠ 0 := c5
            refine hx_blk (npc := 56) (L' := [(0, .inr (.inl 61)), (1, .inr (.inl 5)), (2, .inr (.inl 44)), (3, .inl x3), (4, .inl (m 62 (x3).toNat)), (5, .inl (m 63 (x3).toNat)), (6, .inl (m 65 (x3).toNat))]) (st' := [.inl (m 63 (x3).toNat), .inr (.inl 5)]) (m' := m) [((53, .aload_n 1, 1, 0, 0, 0, 0), (0, 0, 0)), ((54, .iload 5, 2, 0, 0, 0, 0), (0, 0, 0))] (by decide +kernel) rfl ?_
            refine hx_call (E := (56, .invokevirtual 84, 3, 13, 0, 3118, 0)) (M' := yp_m13) [.inr (.inl 5), .inl (m 63 (x3).toNat)] [] rfl (by decide +kernel) rfl ⟨rfl, rfl⟩ rfl rfl (hs13_5 (fun c5 => ?_) (fun c5 => ?_))
            · have c5 : cPers 5 m (m 63 (x3).toNat) := c5
              show hxn xs n yp_m54 59 [(0, .inr (.inl 61)), (1, .inr (.inl 5)), (2, .inr (.inl 44)), (3, .inl x3), (4, .inl (m 62 (x3).toNat)), (5, .inl (m 63 (x3).toNat)), (6, .inl (m 65 (x3).toNat))] [.inl 1] m Q
              refine hx_if .eq 83 (by decide +kernel) (fun c6 => ?_) (fun c6 => ?_)
              · have c6 : (1 : Int) = 0 := c6
                exfalso; omega
              · have c6 : (1 : Int) ≠ 0 := c6
                refine hx_blk (npc := 65) (L' := [(0, .inr (.inl 61)), (1, .inr (.inl 5)), (2, .inr (.inl 44)), (3, .inl x3), (4, .inl (m 62 (x3).toNat)), (5, .inl (m 63 (x3).toNat)), (6, .inl (m 65 (x3).toNat))]) (st' := [.inl (m 65 (x3).toNat), .inr (.inl 5)]) (m' := m) [((62, .aload_n 1, 1, 0, 0, 0, 0), (0, 0, 0)), ((63, .iload 6, 2, 0, 0, 0, 0), (0, 0, 0))] (by decide +kernel) rfl ?_
                refine hx_call (E := (65, .invokevirtual 84, 3, 13, 0, 3118, 0)) (M' := yp_m13) [.inr (.inl 5), .inl (m 65 (x3).toNat)] [] rfl (by decide +kernel) rfl ⟨rfl, rfl⟩ rfl rfl (hs13_5 (fun c6 => ?_) (fun c6 => ?_))
                · have c6 : cPers 5 m (m 65 (x3).toNat) := c6
                  show hxn xs n yp_m54 68 [(0, .inr (.inl 61)), (1, .inr (.inl 5)), (2, .inr (.inl 44)), (3, .inl x3), (4, .inl (m 62 (x3).toNat)), (5, .inl (m 63 (x3).toNat)), (6, .inl (m 65 (x3).toNat))] [.inl 1] m Q
                  refine hx_if .eq 83 (by decide +kernel) (fun c7 => ?_) (fun c7 => ?_)
                  · have c7 : (1 : Int) = 0 := c7
                    exfalso; omega
                  · have c7 : (1 : Int) ≠ 0 := c7
                    refine hx_blk (npc := 80) (L' := [(0, .inr (.inl 61)), (1, .inr (.inl 5)), (2, .inr (.inl 44)), (3, .inl x3), (4, .inl (m 62 (x3).toNat)), (5, .inl (m 63 (x3).toNat)), (6, .inl (m 65 (x3).toNat))]) (st' := [.inl (m 63 (x3).toNat), .inl (m 12 (m 62 (x3).toNat).toNat)]) (m' := m) [((71, .aload_n 1, 1, 0, 0, 0, 0), (0, 0, 0)), ((72, .getfield 87, 3, 2, 11, 1115, 0), (1, 5, 12)), ((75, .iload 4, 2, 0, 0, 0, 0), (0, 0, 0)), ((77, .iaload, 1, 0, 0, 0, 0), (0, 12, 0)), ((78, .iload 5, 2, 0, 0, 0, 0), (0, 0, 0))] (by decide +kernel) rfl ?_
                    refine hx_cmp .eq 85 (by decide +kernel) (fun c7 => ?_) (fun c7 => ?_)
                    · have c7 : (m 12 (m 62 (x3).toNat).toNat) = (m 63 (x3).toNat) := c7
                      refine hx_blk (npc := 93) (L' := [(0, .inr (.inl 61)), (1, .inr (.inl 5)), (2, .inr (.inl 44)), (3, .inl x3), (4, .inl (m 62 (x3).toNat)), (5, .inl (m 63 (x3).toNat)), (6, .inl (m 65 (x3).toNat))]) (st' := [.inl 91, .inl (m 64 (x3).toNat)]) (m' := m) [((85, .aload_n 0, 1, 0, 0, 0, 0), (0, 0, 0)), ((86, .getfield 18, 3, 5, 2, 1239, 0), (1, 61, 64)), ((89, .iload_n 3, 1, 0, 0, 0, 0), (0, 0, 0)), ((90, .iaload, 1, 0, 0, 0, 0), (0, 64, 0)), ((91, .bipush 91, 2, 0, 0, 0, 0), (0, 0, 0))] (by decide +kernel) rfl ?_
                      refine hx_cmp .ne 131 (by decide +kernel) (fun c8 => ?_) (fun c8 => ?_)
                      · have c8 : (m 64 (x3).toNat) ≠ 91 := c8
                        refine hx_blk (npc := 140) (L' := [(0, .inr (.inl 61)), (1, .inr (.inl 5)), (2, .inr (.inl 44)), (3, .inl x3), (4, .inl (m 62 (x3).toNat)), (5, .inl (m 63 (x3).toNat)), (6, .inl (m 65 (x3).toNat))]) (st' := [.inl (-2), .inl (m 13 (m 62 (x3).toNat).toNat)]) (m' := m) [((131, .aload_n 1, 1, 0, 0, 0, 0), (0, 0, 0)), ((132, .getfield 90, 3, 2, 12, 1121, 0), (1, 5, 13)), ((135, .iload 4, 2, 0, 0, 0, 0), (0, 0, 0)), ((137, .iaload, 1, 0, 0, 0, 0), (0, 13, 0)), ((138, .bipush (-2), 2, 0, 0, 0, 0), (0, 0, 0))] (by decide +kernel) rfl ?_
                        refine hx_cmp .ne 181 (by decide +kernel) (fun c9 => ?_) (fun c9 => ?_)
                        · have c9 : (m 13 (m 62 (x3).toNat).toNat) ≠ (-2) := c9
                          refine hx_blk (npc := 182) (L' := [(0, .inr (.inl 61)), (1, .inr (.inl 5)), (2, .inr (.inl 44)), (3, .inl x3), (4, .inl (m 62 (x3).toNat)), (5, .inl (m 63 (x3).toNat)), (6, .inl (m 65 (x3).toNat))]) (st' := [.inl 0]) (m' := m) [((181, .iconst 0, 1, 0, 0, 0, 0), (0, 0, 0))] (by decide +kernel) rfl ?_
                          exact hx_reti (by decide +kernel) (h3 c1 c2 c3 c4 c5 c6 c7 c8 c9)
                        · have c9 : (m 13 (m 62 (x3).toNat).toNat) = (-2) := by have h : ¬ ((m 13 (m 62 (x3).toNat).toNat) ≠ (-2)) := c9; omega
                          refine hx_blk (npc := 156) (L' := [(0, .inr (.inl 61)), (1, .inr (.inl 5)), (2, .inr (.inl 44)), (3, .inl x3), (4, .inl (m 62 (x3).toNat)), (5, .inl (m 63 (x3).toNat)), (6, .inl (m 65 (x3).toNat))]) (st' := [.inl (m 66 (x3).toNat), .inl (m 6 (m 65 (x3).toNat).toNat)]) (m' := m) [((143, .aload_n 1, 1, 0, 0, 0, 0), (0, 0, 0)), ((144, .getfield 93, 3, 2, 5, 1091, 0), (1, 5, 6)), ((147, .iload 6, 2, 0, 0, 0, 0), (0, 0, 0)), ((149, .iaload, 1, 0, 0, 0, 0), (0, 6, 0)), ((150, .aload_n 0, 1, 0, 0, 0, 0), (0, 0, 0)), ((151, .getfield 24, 3, 5, 4, 2001, 0), (1, 61, 66)), ((154, .iload_n 3, 1, 0, 0, 0, 0), (0, 0, 0)), ((155, .iaload, 1, 0, 0, 0, 0), (0, 66, 0))] (by decide +kernel) rfl ?_
                          refine hx_cmp .lt 181 (by decide +kernel) (fun c10 => ?_) (fun c10 => ?_)
                          · have c10 : (m 6 (m 65 (x3).toNat).toNat) < (m 66 (x3).toNat) := c10
                            refine hx_blk (npc := 182) (L' := [(0, .inr (.inl 61)), (1, .inr (.inl 5)), (2, .inr (.inl 44)), (3, .inl x3), (4, .inl (m 62 (x3).toNat)), (5, .inl (m 63 (x3).toNat)), (6, .inl (m 65 (x3).toNat))]) (st' := [.inl 0]) (m' := m) [((181, .iconst 0, 1, 0, 0, 0, 0), (0, 0, 0))] (by decide +kernel) rfl ?_
                            exact hx_reti (by decide +kernel) (h4 c1 c2 c3 c4 c5 c6 c7 c8 c9 c10)
                          · have c10 : (m 66 (x3).toNat) ≤ (m 6 (m 65 (x3).toNat).toNat) := by have h : ¬ ((m 6 (m 65 (x3).toNat).toNat) < (m 66 (x3).toNat)) := c10; omega
                            refine hx_blk (npc := 171) (L' := [(0, .inr (.inl 61)), (1, .inr (.inl 5)), (2, .inr (.inl 44)), (3, .inl x3), (4, .inl (m 62 (x3).toNat)), (5, .inl (m 63 (x3).toNat)), (6, .inl (m 65 (x3).toNat))]) (st' := [.inl (m 66 (x3).toNat), .inl (m 65 (x3).toNat), .inl (m 62 (x3).toNat), .inr (.inl 5), .inr (.inl 44)]) (m' := m) [((159, .aload_n 2, 1, 0, 0, 0, 0), (0, 0, 0)), ((160, .aload_n 1, 1, 0, 0, 0, 0), (0, 0, 0)), ((161, .iload 4, 2, 0, 0, 0, 0), (0, 0, 0)), ((163, .iload 6, 2, 0, 0, 0, 0), (0, 0, 0)), ((165, .aload_n 0, 1, 0, 0, 0, 0), (0, 0, 0)), ((166, .getfield 24, 3, 5, 4, 2001, 0), (1, 61, 66)), ((169, .iload_n 3, 1, 0, 0, 0, 0), (0, 0, 0)), ((170, .iaload, 1, 0, 0, 0, 0), (0, 66, 0))] (by decide +kernel) rfl ?_
                            exact hx_call (E := (171, .invokevirtual 99, 3, 55, 0, 3119, 0)) (M' := yp_m55) [.inr (.inl 44), .inr (.inl 5), .inl (m 62 (x3).toNat), .inl (m 65 (x3).toNat), .inl (m 66 (x3).toNat)] [] rfl (by decide +kernel) rfl ⟨rfl, rfl⟩ rfl rfl (hx_mono (h5 c1 c2 c3 c4 c5 c6 c7 c8 c9 c10) (fun r m' h' => hx_pick [] h'))
                      · have c8 : (m 64 (x3).toNat) = 91 := by have h : ¬ ((m 64 (x3).toNat) ≠ 91) := c8; omega
                        refine hx_blk (npc := 105) (L' := [(0, .inr (.inl 61)), (1, .inr (.inl 5)), (2, .inr (.inl 44)), (3, .inl x3), (4, .inl (m 62 (x3).toNat)), (5, .inl (m 63 (x3).toNat)), (6, .inl (m 65 (x3).toNat))]) (st' := [.inl (m 65 (x3).toNat), .inl (m 13 (m 62 (x3).toNat).toNat)]) (m' := m) [((96, .aload_n 1, 1, 0, 0, 0, 0), (0, 0, 0)), ((97, .getfield 90, 3, 2, 12, 1121, 0), (1, 5, 13)), ((100, .iload 4, 2, 0, 0, 0, 0), (0, 0, 0)), ((102, .iaload, 1, 0, 0, 0, 0), (0, 13, 0)), ((103, .iload 6, 2, 0, 0, 0, 0), (0, 0, 0))] (by decide +kernel) rfl ?_
                        refine hx_cmp .ne 129 (by decide +kernel) (fun c9 => ?_) (fun c9 => ?_)
                        · have c9 : (m 13 (m 62 (x3).toNat).toNat) ≠ (m 65 (x3).toNat) := c9
                          refine hx_blk (npc := 130) (L' := [(0, .inr (.inl 61)), (1, .inr (.inl 5)), (2, .inr (.inl 44)), (3, .inl x3), (4, .inl (m 62 (x3).toNat)), (5, .inl (m 63 (x3).toNat)), (6, .inl (m 65 (x3).toNat))]) (st' := [.inl 0]) (m' := m) [((129, .iconst 0, 1, 0, 0, 0, 0), (0, 0, 0))] (by decide +kernel) rfl ?_
                          exact hx_reti (by decide +kernel) (h6 c1 c2 c3 c4 c5 c6 c7 c8 c9)
                        · have c9 : (m 13 (m 62 (x3).toNat).toNat) = (m 65 (x3).toNat) := by have h : ¬ ((m 13 (m 62 (x3).toNat).toNat) ≠ (m 65 (x3).toNat)) := c9; omega
                          refine hx_blk (npc := 122) (L' := [(0, .inr (.inl 61)), (1, .inr (.inl 5)), (2, .inr (.inl 44)), (3, .inl x3), (4, .inl (m 62 (x3).toNat)), (5, .inl (m 63 (x3).toNat)), (6, .inl (m 65 (x3).toNat))]) (st' := [.inl (m 15 (m 62 (x3).toNat).toNat), .inl (m 6 (m 63 (x3).toNat).toNat)]) (m' := m) [((108, .aload_n 1, 1, 0, 0, 0, 0), (0, 0, 0)), ((109, .getfield 93, 3, 2, 5, 1091, 0), (1, 5, 6)), ((112, .iload 5, 2, 0, 0, 0, 0), (0, 0, 0)), ((114, .iaload, 1, 0, 0, 0, 0), (0, 6, 0)), ((115, .aload_n 1, 1, 0, 0, 0, 0), (0, 0, 0)), ((116, .getfield 96, 3, 2, 14, 1129, 0), (1, 5, 15)), ((119, .iload 4, 2, 0, 0, 0, 0), (0, 0, 0)), ((121, .iaload, 1, 0, 0, 0, 0), (0, 15, 0))] (by decide +kernel) rfl ?_
                          refine hx_cmp .lt 129 (by decide +kernel) (fun c10 => ?_) (fun c10 => ?_)
                          · have c10 : (m 6 (m 63 (x3).toNat).toNat) < (m 15 (m 62 (x3).toNat).toNat) := c10
                            refine hx_blk (npc := 130) (L' := [(0, .inr (.inl 61)), (1, .inr (.inl 5)), (2, .inr (.inl 44)), (3, .inl x3), (4, .inl (m 62 (x3).toNat)), (5, .inl (m 63 (x3).toNat)), (6, .inl (m 65 (x3).toNat))]) (st' := [.inl 0]) (m' := m) [((129, .iconst 0, 1, 0, 0, 0, 0), (0, 0, 0))] (by decide +kernel) rfl ?_
                            exact hx_reti (by decide +kernel) (h7 c1 c2 c3 c4 c5 c6 c7 c8 c9 c10)
                          · have c10 : (m 15 (m 62 (x3).toNat).toNat) ≤ (m 6 (m 63 (x3).toNat).toNat) := by have h : ¬ ((m 6 (m 63 (x3).toNat).toNat) < (m 15 (m 62 (x3).toNat).toNat)) := c10; omega
                            refine hx_blk (npc := 130) (L' := [(0, .inr (.inl 61)), (1, .inr (.inl 5)), (2, .inr (.inl 44)), (3, .inl x3), (4, .inl (m 62 (x3).toNat)), (5, .inl (m 63 (x3).toNat)), (6, .inl (m 65 (x3).toNat))]) (st' := [.inl 1]) (m' := m) [((125, .iconst 1, 1, 0, 0, 0, 0), (0, 0, 0)), ((126, .goto 4, 3, 0, 0, 0, 0), (0, 0, 0))] (by decide +kernel) rfl ?_
                            exact hx_reti (by decide +kernel) (h8 c1 c2 c3 c4 c5 c6 c7 c8 c9 c10)
                    · have c7 : (m 12 (m 62 (x3).toNat).toNat) ≠ (m 63 (x3).toNat) := c7
                      refine hx_blk (npc := 84) (L' := [(0, .inr (.inl 61)), (1, .inr (.inl 5)), (2, .inr (.inl 44)), (3, .inl x3), (4, .inl (m 62 (x3).toNat)), (5, .inl (m 63 (x3).toNat)), (6, .inl (m 65 (x3).toNat))]) (st' := [.inl 0]) (m' := m) [((83, .iconst 0, 1, 0, 0, 0, 0), (0, 0, 0))] (by decide +kernel) rfl ?_
                      exact hx_reti (by decide +kernel) (h9 c1 c2 c3 c4 c5 c6 c7)
                · have c6 : ¬ (cPers 5 m (m 65 (x3).toNat)) := c6
                  show hxn xs n yp_m54 68 [(0, .inr (.inl 61)), (1, .inr (.inl 5)), (2, .inr (.inl 44)), (3, .inl x3), (4, .inl (m 62 (x3).toNat)), (5, .inl (m 63 (x3).toNat)), (6, .inl (m 65 (x3).toNat))] [.inl 0] m Q
                  refine hx_if .eq 83 (by decide +kernel) (fun c7 => ?_) (fun c7 => ?_)
                  · have c7 : (0 : Int) = 0 := c7
                    refine hx_blk (npc := 84) (L' := [(0, .inr (.inl 61)), (1, .inr (.inl 5)), (2, .inr (.inl 44)), (3, .inl x3), (4, .inl (m 62 (x3).toNat)), (5, .inl (m 63 (x3).toNat)), (6, .inl (m 65 (x3).toNat))]) (st' := [.inl 0]) (m' := m) [((83, .iconst 0, 1, 0, 0, 0, 0), (0, 0, 0))] (by decide +kernel) rfl ?_
                    exact hx_reti (by decide +kernel) (h10 c1 c2 c3 c4 c5 c6)
                  · have c7 : (0 : Int) ≠ 0 := c7
                    exfalso; omega
            · have c5 : ¬ (cPers 5 m (m 63 (x3).toNat)) := c5
              show hxn xs n yp_m54 59 [(0, .inr (.inl 61)), (1, .inr (.inl 5)), (2, .inr (.inl 44)), (3, .inl x3), (4, .inl (m 62 (x3).toNat)), (5, .inl (m 63 (x3).toNat)), (6, .inl (m 65 (x3).toNat))] [.inl 0] m Q
              refine hx_if .eq 83 (by decide +kernel) (fun c6 => ?_) (fun c6 => ?_)
              · have c6 : (0 : Int) = 0 := c6
                refine hx_blk (npc := 84) (L' := [(0, .inr (.inl 61)), (1, .inr (.inl 5)), (2, .inr (.inl 44)), (3, .inl x3), (4, .inl (m 62 (x3).toNat)), (5, .inl (m 63 (x3).toNat)), (6, .inl (m 65 (x3).toNat))]) (st' := [.inl 0]) (m' := m) [((83, .iconst 0, 1, 0, 0, 0, 0), (0, 0, 0))] (by decide +kernel) rfl ?_
                exact hx_reti (by decide +kernel) (h11 c1 c2 c3 c4 c5)
              · have c6 : (0 : Int) ≠ 0 := c6
                exfalso; omega
        · have c4 : ¬ (cYear 5 m (m 62 (x3).toNat)) := c4
          show hxn xs n yp_m54 50 [(0, .inr (.inl 61)), (1, .inr (.inl 5)), (2, .inr (.inl 44)), (3, .inl x3), (4, .inl (m 62 (x3).toNat)), (5, .inl (m 63 (x3).toNat)), (6, .inl (m 65 (x3).toNat))] [.inl 0] m Q
          refine hx_if .eq 83 (by decide +kernel) (fun c5 => ?_) (fun c5 => ?_)
          · have c5 : (0 : Int) = 0 := c5
            refine hx_blk (npc := 84) (L' := [(0, .inr (.inl 61)), (1, .inr (.inl 5)), (2, .inr (.inl 44)), (3, .inl x3), (4, .inl (m 62 (x3).toNat)), (5, .inl (m 63 (x3).toNat)), (6, .inl (m 65 (x3).toNat))]) (st' := [.inl 0]) (m' := m) [((83, .iconst 0, 1, 0, 0, 0, 0), (0, 0, 0))] (by decide +kernel) rfl ?_
            exact hx_reti (by decide +kernel) (h12 c1 c2 c3 c4)
          · have c5 : (0 : Int) ≠ 0 := c5
            exfalso; omega
      · have c3 : 16 ≤ x3 := by have h : ¬ (x3 < 16) := c3; omega
        refine hx_blk (npc := 19) (L' := [(0, .inr (.inl 61)), (1, .inr (.inl 5)), (2, .inr (.inl 44)), (3, .inl x3)]) (st' := [.inl 0]) (m' := m) [((18, .iconst 0, 1, 0, 0, 0, 0), (0, 0, 0))] (by decide +kernel) rfl ?_
        exact hx_reti (by decide +kernel) (h13 c1 c2 c3)

/-- canBe from 174 on -/
theorem hr54_174 {xs : List Int32} {n : Nat} {Q : hQ} {m : gx_M} {s0 : Int}
    (h1 : (s0 ≠ 0) → Q (some (.inl 0)) m)
    (h2 : (s0 = 0) → Q (some (.inl 1)) m) : hxn xs (n + 1) yp_m54 174 [] [.inl s0] m Q := by
  refine hx_ifs .ne 181 (by decide +kernel) (fun c1 => ?_) (fun c1 => ?_)
  · have c1 : s0 ≠ 0 := c1
    refine hx_blk (npc := 182) (L' := []) (st' := [.inl 0]) (m' := m) [((181, .iconst 0, 1, 0, 0, 0, 0), (0, 0, 0))] (by decide +kernel) rfl ?_
    exact hx_reti (by decide +kernel) (h1 c1)
  · have c1 : s0 = 0 := by have h : ¬ (s0 ≠ 0) := c1; omega
    refine hx_blk (npc := 182) (L' := []) (st' := [.inl 1]) (m' := m) [((177, .iconst 1, 1, 0, 0, 0, 0), (0, 0, 0)), ((178, .goto 4, 3, 0, 0, 0, 0), (0, 0, 0))] (by decide +kernel) rfl ?_
    exact hx_reti (by decide +kernel) (h2 c1)

/-- perform from 0 on -/
theorem hr53_0 {xs : List Int32} {n : Nat} {Q : hQ} {m : gx_M} {x3 : Int}
    (h1 : hxn xs n yp_m54 0 [(0, .inr (.inl 61)), (1, .inr (.inl 5)), (2, .inr (.inl 44)), (3, .inl x3)] [] m (fun r m' => hxn xs n yp_m53 7 [(0, .inr (.inl 61)), (1, .inr (.inl 5)), (3, .inl x3)] (hrs r ++ []) m' Q)) : hxn xs (n + 1) yp_m53 0 [(0, .inr (.inl 61)), (1, .inr (.inl 5)), (2, .inr (.inl 44)), (3, .inl x3)] [] m Q := by
  refine hx_blks (npc := 4) (L' := [(0, .inr (.inl 61)), (1, .inr (.inl 5)), (2, .inr (.inl 44)), (3, .inl x3)]) (st' := [.inl x3, .inr (.inl 44), .inr (.inl 5), .inr (.inl 61)]) (m' := m) ((0, .aload_n 0, 1, 0, 0, 0, 0), (0, 0, 0)) [((1, .aload_n 1, 1, 0, 0, 0, 0), (0, 0, 0)), ((2, .aload_n 2, 1, 0, 0, 0, 0), (0, 0, 0)), ((3, .iload_n 3, 1, 0, 0, 0, 0), (0, 0, 0))] (by decide +kernel) rfl ?_
  exact hx_call (E := (4, .invokevirtual 105, 3, 54, 0, 3113, 0)) (M' := yp_m54) [.inr (.inl 61), .inr (.inl 5), .inr (.inl 44), .inl x3] [] rfl (by decide +kernel) rfl ⟨rfl, rfl⟩ rfl rfl (hx_mono h1 (fun r m' h' => hx_pick [0, 1, 3] h'))

/-- perform from 7 on -/
theorem hr53_7 {xs : List Int32} {n : Nat} {Q : hQ} {m : gx_M} {x3 s0 : Int}
    (h1 : (s0 ≠ 0) → hxn xs n yp_m67 0 [(0, .inr (.inl 61)), (1, .inr (.inl 5)), (2, .inl x3)] [] m (fun r m' => hxn xs n yp_m53 18 [] (hrs r ++ []) m' Q))
    (h2 : (s0 = 0) → Q (some (.inl 0)) m) : hxn xs (n + 1) yp_m53 7 [(0, .inr (.inl 61)), (1, .inr (.inl 5)), (3, .inl x3)] [.inl s0] m Q := by
  refine hx_ifs .ne 12 (by decide +kernel) (fun c1 => ?_) (fun c1 => ?_)
  · have c1 : s0 ≠ 0 := c1
    refine hx_blk (npc := 15) (L' := [(0, .inr (.inl 61)), (1, .inr (.inl 5)), (3, .inl x3)]) (st' := [.inl x3, .inr (.inl 5), .inr (.inl 61)]) (m' := m) [((12, .aload_n 0, 1, 0, 0, 0, 0), (0, 0, 0)), ((13, .aload_n 1, 1, 0, 0, 0, 0), (0, 0, 0)), ((14, .iload_n 3, 1, 0, 0, 0, 0), (0, 0, 0))] (by decide +kernel) rfl ?_
    exact hx_call (E := (15, .invokevirtual 109, 3, 67, 0, 3171, 0)) (M' := yp_m67) [.inr (.inl 61), .inr (.inl 5), .inl x3] [] rfl (by decide +kernel) rfl ⟨rfl, rfl⟩ rfl rfl (hx_mono (h1 c1) (fun r m' h' => hx_pick [] h'))
  · have c1 : s0 = 0 := by have h : ¬ (s0 ≠ 0) := c1; omega
    refine hx_blk (npc := 11) (L' := [(0, .inr (.inl 61)), (1, .inr (.inl 5)), (3, .inl x3)]) (st' := [.inl 0]) (m' := m) [((10, .iconst 0, 1, 0, 0, 0, 0), (0, 0, 0))] (by decide +kernel) rfl ?_
    exact hx_reti (by decide +kernel) (h2 c1)

/-- perform from 18 on -/
theorem hr53_18 {xs : List Int32} {n : Nat} {Q : hQ} {m : gx_M}
    (h1 : Q (some (.inl 1)) m) : hxn xs (n + 1) yp_m53 18 [] [] m Q := by
  refine hx_blks (npc := 19) (L' := []) (st' := [.inl 1]) (m' := m) ((18, .iconst 1, 1, 0, 0, 0, 0), (0, 0, 0)) [] (by decide +kernel) rfl ?_
  exact hx_reti (by decide +kernel) h1

/-- pawn from 0 on -/
theorem hr31_19_0 {xs : List Int32} {n : Nat} {Q : hQ} {m : gx_M} {x1 x2 x3 : Int}
    (h1 : (cYear 31 m x1) → Q none (gx_u (gx_u (gx_u m 39 (x1).toNat x2) 40 (x1).toNat x3) 41 (x1).toNat x3))
    (h2 : (¬ (cYear 31 m x1)) → Q none m) : hxn xs (n + 1) yp_m19 0 [(0, .inr (.inl 31)), (1, .inl x1), (2, .inl x2), (3, .inl x3)] [] m Q := by
  refine hx_blks (npc := 2) (L' := [(0, .inr (.inl 31)), (1, .inl x1), (2, .inl x2), (3, .inl x3)]) (st' := [.inl x1, .inr (.inl 31)]) (m' := m) ((0, .aload_n 0, 1, 0, 0, 0, 0), (0, 0, 0)) [((1, .iload_n 1, 1, 0, 0, 0, 0), (0, 0, 0))] (by decide +kernel) rfl ?_
  refine hx_call (E := (2, .invokevirtual 71, 3, 17, 0, 2188, 0)) (M' := yp_m17) [.inr (.inl 31), .inl x1] [] rfl (by decide +kernel) rfl ⟨rfl, rfl⟩ rfl rfl (hs17_31 (fun c1 => ?_) (fun c1 => ?_))
  · have c1 : cYear 31 m x1 := c1
    show hxn xs n yp_m19 5 [(0, .inr (.inl 31)), (1, .inl x1), (2, .inl x2), (3, .inl x3)] [.inl 1] m Q
    refine hx_if .ne 9 (by decide +kernel) (fun c2 => ?_) (fun c2 => ?_)
    · have c2 : (1 : Int) ≠ 0 := c2
      refine hx_blk (npc := 30) (L' := [(0, .inr (.inl 31)), (1, .inl x1), (2, .inl x2), (3, .inl x3)]) (st' := []) (m' := (gx_u (gx_u (gx_u m 39 (x1).toNat x2) 40 (x1).toNat x3) 41 (x1).toNat x3)) [((9, .aload_n 0, 1, 0, 0, 0, 0), (0, 0, 0)), ((10, .getfield 37, 3, 2, 12, 1119, 0), (1, 31, 39)), ((13, .iload_n 1, 1, 0, 0, 0, 0), (0, 0, 0)), ((14, .iload_n 2, 1, 0, 0, 0, 0), (0, 0, 0)), ((15, .iastore, 1, 0, 0, 0, 0), (0, 39, 0)), ((16, .aload_n 0, 1, 0, 0, 0, 0), (0, 0, 0)), ((17, .getfield 40, 3, 2, 13, 1124, 0), (1, 31, 40)), ((20, .iload_n 1, 1, 0, 0, 0, 0), (0, 0, 0)), ((21, .iload_n 3, 1, 0, 0, 0, 0), (0, 0, 0)), ((22, .iastore, 1, 0, 0, 0, 0), (0, 40, 0)), ((23, .aload_n 0, 1, 0, 0, 0, 0), (0, 0, 0)), ((24, .getfield 43, 3, 2, 14, 1127, 0), (1, 31, 41)), ((27, .iload_n 1, 1, 0, 0, 0, 0), (0, 0, 0)), ((28, .iload_n 3, 1, 0, 0, 0, 0), (0, 0, 0)), ((29, .iastore, 1, 0, 0, 0, 0), (0, 41, 0))] (by decide +kernel) rfl ?_
      exact hx_ret0 (by decide +kernel) (h1 c1)
    · have c2 : (1 : Int) = 0 := by have h : ¬ ((1 : Int) ≠ 0) := c2; omega
      exfalso; omega
  · have c1 : ¬ (cYear 31 m x1) := c1
    show hxn xs n yp_m19 5 [(0, .inr (.inl 31)), (1, .inl x1), (2, .inl x2), (3, .inl x3)] [.inl 0] m Q
    refine hx_if .ne 9 (by decide +kernel) (fun c2 => ?_) (fun c2 => ?_)
    · have c2 : (0 : Int) ≠ 0 := c2
      exfalso; omega
    · have c2 : (0 : Int) = 0 := by have h : ¬ ((0 : Int) ≠ 0) := c2; omega
      exact hx_ret0 (by decide +kernel) (h2 c1)

/-- free from 0 on -/
theorem hr31_18_0 {xs : List Int32} {n : Nat} {Q : hQ} {m : gx_M} {x1 : Int}
    (h1 : hxn xs n yp_m19 0 [(0, .inr (.inl 31)), (1, .inl x1), (2, .inl (-2)), (3, .inl 0)] [] m (fun r m' => hxn xs n yp_m18 8 [] (hrs r ++ []) m' Q)) : hxn xs (n + 1) yp_m18 0 [(0, .inr (.inl 31)), (1, .inl x1)] [] m Q := by
  refine hx_blks (npc := 5) (L' := [(0, .inr (.inl 31)), (1, .inl x1)]) (st' := [.inl 0, .inl (-2), .inl x1, .inr (.inl 31)]) (m' := m) ((0, .aload_n 0, 1, 0, 0, 0, 0), (0, 0, 0)) [((1, .iload_n 1, 1, 0, 0, 0, 0), (0, 0, 0)), ((2, .bipush (-2), 2, 0, 0, 0, 0), (0, 0, 0)), ((4, .iconst 0, 1, 0, 0, 0, 0), (0, 0, 0))] (by decide +kernel) rfl ?_
  exact hx_call (E := (5, .invokevirtual 85, 3, 19, 0, 2196, 0)) (M' := yp_m19) [.inr (.inl 31), .inl x1, .inl (-2), .inl 0] [] rfl (by decide +kernel) rfl ⟨rfl, rfl⟩ rfl rfl (hx_mono h1 (fun r m' h' => hx_pick [] h'))

/-- free from 8 on -/
theorem hr31_18_8 {xs : List Int32} {n : Nat} {Q : hQ} {m : gx_M}
    (h1 : Q none m) : hxn xs (n + 1) yp_m18 8 [] [] m Q := by
  exact hx_ret0 (by decide +kernel) h1

/-- give from 0 on -/
theorem hr31_16_0 {xs : List Int32} {n : Nat} {Q : hQ} {m : gx_M} {x1 x2 : Int}
    (h1 : (cYear 31 m x1) → hxn xs n yp_m18 0 [(0, .inr (.inl 31)), (1, .inl x1)] [] (gx_u m 38 (x1).toNat x2) (fun r m' => hxn xs n yp_m16 21 [(0, .inr (.inl 31)), (1, .inl x1), (2, .inl x2)] (hrs r ++ []) m' Q))
    (h2 : (¬ (cYear 31 m x1)) → Q none m) : hxn xs (n + 1) yp_m16 0 [(0, .inr (.inl 31)), (1, .inl x1), (2, .inl x2)] [] m Q := by
  refine hx_blks (npc := 2) (L' := [(0, .inr (.inl 31)), (1, .inl x1), (2, .inl x2)]) (st' := [.inl x1, .inr (.inl 31)]) (m' := m) ((0, .aload_n 0, 1, 0, 0, 0, 0), (0, 0, 0)) [((1, .iload_n 1, 1, 0, 0, 0, 0), (0, 0, 0))] (by decide +kernel) rfl ?_
  refine hx_call (E := (2, .invokevirtual 71, 3, 17, 0, 2188, 0)) (M' := yp_m17) [.inr (.inl 31), .inl x1] [] rfl (by decide +kernel) rfl ⟨rfl, rfl⟩ rfl rfl (hs17_31 (fun c1 => ?_) (fun c1 => ?_))
  · have c1 : cYear 31 m x1 := c1
    show hxn xs n yp_m16 5 [(0, .inr (.inl 31)), (1, .inl x1), (2, .inl x2)] [.inl 1] m Q
    refine hx_if .ne 9 (by decide +kernel) (fun c2 => ?_) (fun c2 => ?_)
    · have c2 : (1 : Int) ≠ 0 := c2
      refine hx_blk (npc := 18) (L' := [(0, .inr (.inl 31)), (1, .inl x1), (2, .inl x2)]) (st' := [.inl x1, .inr (.inl 31)]) (m' := (gx_u m 38 (x1).toNat x2)) [((9, .aload_n 0, 1, 0, 0, 0, 0), (0, 0, 0)), ((10, .getfield 34, 3, 2, 11, 1111, 0), (1, 31, 38)), ((13, .iload_n 1, 1, 0, 0, 0, 0), (0, 0, 0)), ((14, .iload_n 2, 1, 0, 0, 0, 0), (0, 0, 0)), ((15, .iastore, 1, 0, 0, 0, 0), (0, 38, 0)), ((16, .aload_n 0, 1, 0, 0, 0, 0), (0, 0, 0)), ((17, .iload_n 1, 1, 0, 0, 0, 0), (0, 0, 0))] (by decide +kernel) rfl ?_
      exact hx_call (E := (18, .invokevirtual 81, 3, 18, 0, 2192, 0)) (M' := yp_m18) [.inr (.inl 31), .inl x1] [] rfl (by decide +kernel) rfl ⟨rfl, rfl⟩ rfl rfl (hx_mono (h1 c1) (fun r m' h' => hx_pick [0, 1, 2] h'))
    · have c2 : (1 : Int) = 0 := by have h : ¬ ((1 : Int) ≠ 0) := c2; omega
      exfalso; omega
  · have c1 : ¬ (cYear 31 m x1) := c1
    show hxn xs n yp_m16 5 [(0, .inr (.inl 31)), (1, .inl x1), (2, .inl x2)] [.inl 0] m Q
    refine hx_if .ne 9 (by decide +kernel) (fun c2 => ?_) (fun c2 => ?_)
    · have c2 : (0 : Int) ≠ 0 := c2
      exfalso; omega
    · have c2 : (0 : Int) = 0 := by have h : ¬ ((0 : Int) ≠ 0) := c2; omega
      exact hx_ret0 (by decide +kernel) (h2 c1)

/-- give from 21 on -/
theorem hr31_16_21 {xs : List Int32} {n : Nat} {Q : hQ} {m : gx_M} {x1 x2 : Int}
    (h1 : ((m 42 (x1).toNat) < 0) → Q none m)
    (h2 : (0 ≤ (m 42 (x1).toNat)) → ((m 42 (x1).toNat) < 16) → Q none (gx_u (gx_u m 43 (gx_w ((gx_w (x1 * 16)) + (m 42 (x1).toNat))).toNat x2) 42 (x1).toNat ((m 42 (x1).toNat) + 1)))
    (h3 : (0 ≤ (m 42 (x1).toNat)) → (16 ≤ (m 42 (x1).toNat)) → Q none m) : hxn xs (n + 1) yp_m16 21 [(0, .inr (.inl 31)), (1, .inl x1), (2, .inl x2)] [] m Q := by
  refine hx_blks (npc := 29) (L' := [(0, .inr (.inl 31)), (1, .inl x1), (2, .inl x2), (3, .inl (m 42 (x1).toNat))]) (st' := [.inl (m 42 (x1).toNat)]) (m' := m) ((21, .aload_n 0, 1, 0, 0, 0, 0), (0, 0, 0)) [((22, .getfield 46, 3, 2, 15, 1131, 0), (1, 31, 42)), ((25, .iload_n 1, 1, 0, 0, 0, 0), (0, 0, 0)), ((26, .iaload, 1, 0, 0, 0, 0), (0, 42, 0)), ((27, .istore_n 3, 1, 0, 0, 0, 0), (0, 0, 0)), ((28, .iload_n 3, 1, 0, 0, 0, 0), (0, 0, 0))] (by decide +kernel) rfl ?_
  refine hx_if .lt 38 (by decide +kernel) (fun c1 => ?_) (fun c1 => ?_)
  · have c1 : (m 42 (x1).toNat) < 0 := c1
    exact hx_ret0 (by decide +kernel) (h1 c1)
  · have c1 : 0 ≤ (m 42 (x1).toNat) := by have h : ¬ ((m 42 (x1).toNat) < 0) := c1; omega
    refine hx_blk (npc := 35) (L' := [(0, .inr (.inl 31)), (1, .inl x1), (2, .inl x2), (3, .inl (m 42 (x1).toNat))]) (st' := [.inl 16, .inl (m 42 (x1).toNat)]) (m' := m) [((32, .iload_n 3, 1, 0, 0, 0, 0), (0, 0, 0)), ((33, .bipush 16, 2, 0, 0, 0, 0), (0, 0, 0))] (by decide +kernel) rfl ?_
    refine hx_cmp .lt 39 (by decide +kernel) (fun c2 => ?_) (fun c2 => ?_)
    · have c2 : (m 42 (x1).toNat) < 16 := c2
      have e1 : gx_w ((m 42 (x1).toNat) + 1) = (m 42 (x1).toNat) + 1 := gx_w_id (by omega) (by omega)
      refine hx_blk (npc := 60) (L' := [(0, .inr (.inl 31)), (1, .inl x1), (2, .inl x2), (3, .inl (m 42 (x1).toNat))]) (st' := []) (m' := (gx_u (gx_u m 43 (gx_w ((gx_w (x1 * 16)) + (m 42 (x1).toNat))).toNat x2) 42 (x1).toNat (gx_w ((m 42 (x1).toNat) + 1)))) [((39, .aload_n 0, 1, 0, 0, 0, 0), (0, 0, 0)), ((40, .getfield 49, 3, 2, 16, 1136, 0), (1, 31, 43)), ((43, .iload_n 1, 1, 0, 0, 0, 0), (0, 0, 0)), ((44, .bipush 16, 2, 0, 0, 0, 0), (0, 0, 0)), ((46, .imul, 1, 0, 0, 0, 0), (0, 0, 0)), ((47, .iload_n 3, 1, 0, 0, 0, 0), (0, 0, 0)), ((48, .iadd, 1, 0, 0, 0, 0), (0, 0, 0)), ((49, .iload_n 2, 1, 0, 0, 0, 0), (0, 0, 0)), ((50, .iastore, 1, 0, 0, 0, 0), (0, 43, 0)), ((51, .aload_n 0, 1, 0, 0, 0, 0), (0, 0, 0)), ((52, .getfield 46, 3, 2, 15, 1131, 0), (1, 31, 42)), ((55, .iload_n 1, 1, 0, 0, 0, 0), (0, 0, 0)), ((56, .iload_n 3, 1, 0, 0, 0, 0), (0, 0, 0)), ((57, .iconst 1, 1, 0, 0, 0, 0), (0, 0, 0)), ((58, .iadd, 1, 0, 0, 0, 0), (0, 0, 0)), ((59, .iastore, 1, 0, 0, 0, 0), (0, 42, 0))] (by decide +kernel) rfl ?_
      rw [e1]
      exact hx_ret0 (by decide +kernel) (h2 c1 c2)
    · have c2 : 16 ≤ (m 42 (x1).toNat) := by have h : ¬ ((m 42 (x1).toNat) < 16) := c2; omega
      exact hx_ret0 (by decide +kernel) (h3 c1 c2)

/-- earn from 0 on -/
theorem hr31_69_0 {xs : List Int32} {n : Nat} {Q : hQ} {m : gx_M} {x1 x2 : Int}
    (h1 : (cPers 31 m x1) → Q none (gx_u m 32 (x1).toNat (if (gx_w ((m 32 (x1).toNat) + x2)) < 99999 then (gx_w ((m 32 (x1).toNat) + x2)) else 99999)))
    (h2 : (¬ (cPers 31 m x1)) → Q none m) : hxn xs (n + 1) yp_m69 0 [(0, .inr (.inl 31)), (1, .inl x1), (2, .inl x2)] [] m Q := by
  refine hx_blks (npc := 2) (L' := [(0, .inr (.inl 31)), (1, .inl x1), (2, .inl x2)]) (st' := [.inl x1, .inr (.inl 31)]) (m' := m) ((0, .aload_n 0, 1, 0, 0, 0, 0), (0, 0, 0)) [((1, .iload_n 1, 1, 0, 0, 0, 0), (0, 0, 0))] (by decide +kernel) rfl ?_
  refine hx_call (E := (2, .invokevirtual 89, 3, 13, 0, 3179, 0)) (M' := yp_m13) [.inr (.inl 31), .inl x1] [] rfl (by decide +kernel) rfl ⟨rfl, rfl⟩ rfl rfl (hs13_31 (fun c1 => ?_) (fun c1 => ?_))
  · have c1 : cPers 31 m x1 := c1
    show hxn xs n yp_m69 5 [(0, .inr (.inl 31)), (1, .inl x1), (2, .inl x2)] [.inl 1] m Q
    refine hx_if .eq 27 (by decide +kernel) (fun c2 => ?_) (fun c2 => ?_)
    · have c2 : (1 : Int) = 0 := c2
      exfalso; omega
    · have c2 : (1 : Int) ≠ 0 := c2
      refine hx_blk (npc := 27) (L' := [(0, .inr (.inl 31)), (1, .inl x1), (2, .inl x2)]) (st' := []) (m' := (gx_u m 32 (x1).toNat (if (gx_w ((m 32 (x1).toNat) + x2)) < 99999 then (gx_w ((m 32 (x1).toNat) + x2)) else 99999))) [((8, .aload_n 0, 1, 0, 0, 0, 0), (0, 0, 0)), ((9, .getfield 15, 3, 2, 5, 1089, 0), (1, 31, 32)), ((12, .iload_n 1, 1, 0, 0, 0, 0), (0, 0, 0)), ((13, .ldc 92, 2, 0, 0, 3184, 99999), (0, 0, 0)), ((15, .aload_n 0, 1, 0, 0, 0, 0), (0, 0, 0)), ((16, .getfield 15, 3, 2, 5, 1089, 0), (1, 31, 32)), ((19, .iload_n 1, 1, 0, 0, 0, 0), (0, 0, 0)), ((20, .iaload, 1, 0, 0, 0, 0), (0, 32, 0)), ((21, .iload_n 2, 1, 0, 0, 0, 0), (0, 0, 0)), ((22, .iadd, 1, 0, 0, 0, 0), (0, 0, 0)), ((23, .invokestatic 93, 3, 1003, 2221, 3185, 1013002222), (0, 0, 0)), ((26, .iastore, 1, 0, 0, 0, 0), (0, 32, 0))] (by decide +kernel) rfl ?_
      exact hx_ret0 (by decide +kernel) (h1 c1)
  · have c1 : ¬ (cPers 31 m x1) := c1
    show hxn xs n yp_m69 5 [(0, .inr (.inl 31)), (1, .inl x1), (2, .inl x2)] [.inl 0] m Q
    refine hx_if .eq 27 (by decide +kernel) (fun c2 => ?_) (fun c2 => ?_)
    · have c2 : (0 : Int) = 0 := c2
      exact hx_ret0 (by decide +kernel) (h2 c1)
    · have c2 : (0 : Int) ≠ 0 := c2
      exfalso; omega

/-- pay from 0 on -/
theorem hr31_68_0 {xs : List Int32} {n : Nat} {Q : hQ} {m : gx_M} {x1 x2 x3 : Int}
    (h1 : (cPers 31 m x1) → hxn xs n yp_m69 0 [(0, .inr (.inl 31)), (1, .inl x2), (2, .inl x3)] [] (gx_u m 32 (x1).toNat (gx_w ((m 32 (x1).toNat) - x3))) (fun r m' => hxn xs n yp_m68 25 [] (hrs r ++ []) m' Q))
    (h2 : (¬ (cPers 31 m x1)) → Q none m) : hxn xs (n + 1) yp_m68 0 [(0, .inr (.inl 31)), (1, .inl x1), (2, .inl x2), (3, .inl x3)] [] m Q := by
  refine hx_blks (npc := 2) (L' := [(0, .inr (.inl 31)), (1, .inl x1), (2, .inl x2), (3, .inl x3)]) (st' := [.inl x1, .inr (.inl 31)]) (m' := m) ((0, .aload_n 0, 1, 0, 0, 0, 0), (0, 0, 0)) [((1, .iload_n 1, 1, 0, 0, 0, 0), (0, 0, 0))] (by decide +kernel) rfl ?_
  refine hx_call (E := (2, .invokevirtual 89, 3, 13, 0, 3179, 0)) (M' := yp_m13) [.inr (.inl 31), .inl x1] [] rfl (by decide +kernel) rfl ⟨rfl, rfl⟩ rfl rfl (hs13_31 (fun c1 => ?_) (fun c1 => ?_))
  · have c1 : cPers 31 m x1 := c1
    show hxn xs n yp_m68 5 [(0, .inr (.inl 31)), (1, .inl x1), (2, .inl x2), (3, .inl x3)] [.inl 1] m Q
    refine hx_if .ne 9 (by decide +kernel) (fun c2 => ?_) (fun c2 => ?_)
    · have c2 : (1 : Int) ≠ 0 := c2
      refine hx_blk (npc := 22) (L' := [(0, .inr (.inl 31)), (1, .inl x1), (2, .inl x2), (3, .inl x3)]) (st' := [.inl x3, .inl x2, .inr (.inl 31)]) (m' := (gx_u m 32 (x1).toNat (gx_w ((m 32 (x1).toNat) - x3)))) [((9, .aload_n 0, 1, 0, 0, 0, 0), (0, 0, 0)), ((10, .getfield 15, 3, 2, 5, 1089, 0), (1, 31, 32)), ((13, .iload_n 1, 1, 0, 0, 0, 0), (0, 0, 0)), ((14, .dup2, 1, 0, 0, 0, 0), (0, 0, 0)), ((15, .iaload, 1, 0, 0, 0, 0), (0, 32, 0)), ((16, .iload_n 3, 1, 0, 0, 0, 0), (0, 0, 0)), ((17, .isub, 1, 0, 0, 0, 0), (0, 0, 0)), ((18, .iastore, 1, 0, 0, 0, 0), (0, 32, 0)), ((19, .aload_n 0, 1, 0, 0, 0, 0), (0, 0, 0)), ((20, .iload_n 2, 1, 0, 0, 0, 0), (0, 0, 0)), ((21, .iload_n 3, 1, 0, 0, 0, 0), (0, 0, 0))] (by decide +kernel) rfl ?_
      exact hx_call (E := (22, .invokevirtual 99, 3, 69, 0, 3180, 0)) (M' := yp_m69) [.inr (.inl 31), .inl x2, .inl x3] [] rfl (by decide +kernel) rfl ⟨rfl, rfl⟩ rfl rfl (hx_mono (h1 c1) (fun r m' h' => hx_pick [] h'))
    · have c2 : (1 : Int) = 0 := by have h : ¬ ((1 : Int) ≠ 0) := c2; omega
      exfalso; omega
  · have c1 : ¬ (cPers 31 m x1) := c1
    show hxn xs n yp_m68 5 [(0, .inr (.inl 31)), (1, .inl x1), (2, .inl x2), (3, .inl x3)] [.inl 0] m Q
    refine hx_if .ne 9 (by decide +kernel) (fun c2 => ?_) (fun c2 => ?_)
    · have c2 : (0 : Int) ≠ 0 := c2
      exfalso; omega
    · have c2 : (0 : Int) = 0 := by have h : ¬ ((0 : Int) ≠ 0) := c2; omega
      exact hx_ret0 (by decide +kernel) (h2 c1)

/-- pay from 25 on -/
theorem hr31_68_25 {xs : List Int32} {n : Nat} {Q : hQ} {m : gx_M}
    (h1 : Q none m) : hxn xs (n + 1) yp_m68 25 [] [] m Q := by
  exact hx_ret0 (by decide +kernel) h1

/-- carryOut from 0 on -/
theorem hr31_67_0 {xs : List Int32} {n : Nat} {Q : hQ} {m : gx_M} {x2 : Int}
    (h1 : (x2 < 0) → Q none m)
    (h2 : (0 ≤ x2) → (16 ≤ x2) → Q none m)
    (h3 : (0 ≤ x2) → (x2 < 16) → (cYear 31 m (m 62 (x2).toNat)) → ((m 64 (x2).toNat) ≠ 91) → hxn xs n yp_m68 0 [(0, .inr (.inl 31)), (1, .inl (m 65 (x2).toNat)), (2, .inl (m 63 (x2).toNat)), (3, .inl (m 66 (x2).toNat))] [] m (fun r m' => hxn xs n yp_m67 92 [(0, .inr (.inl 61)), (1, .inr (.inl 31)), (2, .inl x2), (3, .inl (m 62 (x2).toNat)), (5, .inl (m 65 (x2).toNat))] (hrs r ++ []) m' Q))
    (h4 : (0 ≤ x2) → (x2 < 16) → (cYear 31 m (m 62 (x2).toNat)) → ((m 64 (x2).toNat) = 91) → hxn xs n yp_m68 0 [(0, .inr (.inl 31)), (1, .inl (m 63 (x2).toNat)), (2, .inl (m 65 (x2).toNat)), (3, .inl (m 41 (m 62 (x2).toNat).toNat))] [] m (fun r m' => hxn xs n yp_m67 72 [(1, .inr (.inl 31)), (3, .inl (m 62 (x2).toNat))] (hrs r ++ []) m' Q))
    (h5 : (0 ≤ x2) → (x2 < 16) → (¬ (cYear 31 m (m 62 (x2).toNat))) → Q none m) : hxn xs (n + 1) yp_m67 0 [(0, .inr (.inl 61)), (1, .inr (.inl 31)), (2, .inl x2)] [] m Q := by
  refine hx_blks (npc := 1) (L' := [(0, .inr (.inl 61)), (1, .inr (.inl 31)), (2, .inl x2)]) (st' := [.inl x2]) (m' := m) ((0, .iload_n 2, 1, 0, 0, 0, 0), (0, 0, 0)) [] (by decide +kernel) rfl ?_
  refine hx_if .lt 23 (by decide +kernel) (fun c1 => ?_) (fun c1 => ?_)
  · have c1 : x2 < 0 := c1
    exact hx_ret0 (by decide +kernel) (h1 c1)
  · have c1 : 0 ≤ x2 := by have h : ¬ (x2 < 0) := c1; omega
    refine hx_blk (npc := 7) (L' := [(0, .inr (.inl 61)), (1, .inr (.inl 31)), (2, .inl x2)]) (st' := [.inl 16, .inl x2]) (m' := m) [((4, .iload_n 2, 1, 0, 0, 0, 0), (0, 0, 0)), ((5, .bipush 16, 2, 0, 0, 0, 0), (0, 0, 0))] (by decide +kernel) rfl ?_
    refine hx_cmp .ge 23 (by decide +kernel) (fun c2 => ?_) (fun c2 => ?_)
    · have c2 : 16 ≤ x2 := c2
      exact hx_ret0 (by decide +kernel) (h2 c1 c2)
    · have c2 : x2 < 16 := by have h : ¬ (16 ≤ x2) := c2; omega
      refine hx_blk (npc := 17) (L' := [(0, .inr (.inl 61)), (1, .inr (.inl 31)), (2, .inl x2)]) (st' := [.inl (m 62 (x2).toNat), .inr (.inl 31)]) (m' := m) [((10, .aload_n 1, 1, 0, 0, 0, 0), (0, 0, 0)), ((11, .aload_n 0, 1, 0, 0, 0, 0), (0, 0, 0)), ((12, .getfield 9, 3, 5, 0, 1237, 0), (1, 61, 62)), ((15, .iload_n 2, 1, 0, 0, 0, 0), (0, 0, 0)), ((16, .iaload, 1, 0, 0, 0, 0), (0, 62, 0))] (by decide +kernel) rfl ?_
      refine hx_call (E := (17, .invokevirtual 79, 3, 17, 0, 3117, 0)) (M' := yp_m17) [.inr (.inl 31), .inl (m 62 (x2).toNat)] [] rfl (by decide +kernel) rfl ⟨rfl, rfl⟩ rfl rfl (hs17_31 (fun c3 => ?_) (fun c3 => ?_))
      · have c3 : cYear 31 m (m 62 (x2).toNat) := c3
        show hxn xs n yp_m67 20 [(0, .inr (.inl 61)), (1, .inr (.inl 31)), (2, .inl x2)] [.inl 1] m Q
        refine hx_if .ne 24 (by decide +kernel) (fun c4 => ?_) (fun c4 => ?_)
        · have c4 : (1 : Int) ≠ 0 := c4
          refine hx_blk (npc := 55) (L' := [(0, .inr (.inl 61)), (1, .inr (.inl 31)), (2, .inl x2), (3, .inl (m 62 (x2).toNat)), (4, .inl (m 63 (x2).toNat)), (5, .inl (m 65 (x2).toNat))]) (st' := [.inl 91, .inl (m 64 (x2).toNat)]) (m' := m) [((24, .aload_n 0, 1, 0, 0, 0, 0), (0, 0, 0)), ((25, .getfield 9, 3, 5, 0, 1237, 0), (1, 61, 62)), ((28, .iload_n 2, 1, 0, 0, 0, 0), (0, 0, 0)), ((29, .iaload, 1, 0, 0, 0, 0), (0, 62, 0)), ((30, .istore_n 3, 1, 0, 0, 0, 0), (0, 0, 0)), ((31, .aload_n 0, 1, 0, 0, 0, 0), (0, 0, 0)), ((32, .getfield 15, 3, 5, 1, 1238, 0), (1, 61, 63)), ((35, .iload_n 2, 1, 0, 0, 0, 0), (0, 0, 0)), ((36, .iaload, 1, 0, 0, 0, 0), (0, 63, 0)), ((37, .istore 4, 2, 0, 0, 0, 0), (0, 0, 0)), ((39, .aload_n 0, 1, 0, 0, 0, 0), (0, 0, 0)), ((40, .getfield 21, 3, 5, 3, 2000, 0), (1, 61, 65)), ((43, .iload_n 2, 1, 0, 0, 0, 0), (0, 0, 0)), ((44, .iaload, 1, 0, 0, 0, 0), (0, 65, 0)), ((45, .istore 5, 2, 0, 0, 0, 0), (0, 0, 0)), ((47, .aload_n 0, 1, 0, 0, 0, 0), (0, 0, 0)), ((48, .getfield 18, 3, 5, 2, 1239, 0), (1, 61, 64)), ((51, .iload_n 2, 1, 0, 0, 0, 0), (0, 0, 0)), ((52, .iaload, 1, 0, 0, 0, 0), (0, 64, 0)), ((53, .bipush 91, 2, 0, 0, 0, 0), (0, 0, 0))] (by decide +kernel) rfl ?_
          refine hx_cmp .ne 78 (by decide +kernel) (fun c4 => ?_) (fun c4 => ?_)
          · have c4 : (m 64 (x2).toNat) ≠ 91 := c4
            refine hx_blk (npc := 89) (L' := [(0, .inr (.inl 61)), (1, .inr (.inl 31)), (2, .inl x2), (3, .inl (m 62 (x2).toNat)), (4, .inl (m 63 (x2).toNat)), (5, .inl (m 65 (x2).toNat))]) (st' := [.inl (m 66 (x2).toNat), .inl (m 63 (x2).toNat), .inl (m 65 (x2).toNat), .inr (.inl 31)]) (m' := m) [((78, .aload_n 1, 1, 0, 0, 0, 0), (0, 0, 0)), ((79, .iload 5, 2, 0, 0, 0, 0), (0, 0, 0)), ((81, .iload 4, 2, 0, 0, 0, 0), (0, 0, 0)), ((83, .aload_n 0, 1, 0, 0, 0, 0), (0, 0, 0)), ((84, .getfield 24, 3, 5, 4, 2001, 0), (1, 61, 66)), ((87, .iload_n 2, 1, 0, 0, 0, 0), (0, 0, 0)), ((88, .iaload, 1, 0, 0, 0, 0), (0, 66, 0))] (by decide +kernel) rfl ?_
            exact hx_call (E := (89, .invokevirtual 113, 3, 68, 0, 3175, 0)) (M' := yp_m68) [.inr (.inl 31), .inl (m 65 (x2).toNat), .inl (m 63 (x2).toNat), .inl (m 66 (x2).toNat)] [] rfl (by decide +kernel) rfl ⟨rfl, rfl⟩ rfl rfl (hx_mono (h3 c1 c2 c3 c4) (fun r m' h' => hx_pick [0, 1, 2, 3, 5] h'))
          · have c4 : (m 64 (x2).toNat) = 91 := by have h : ¬ ((m 64 (x2).toNat) ≠ 91) := c4; omega
            refine hx_blk (npc := 69) (L' := [(0, .inr (.inl 61)), (1, .inr (.inl 31)), (2, .inl x2), (3, .inl (m 62 (x2).toNat)), (4, .inl (m 63 (x2).toNat)), (5, .inl (m 65 (x2).toNat))]) (st' := [.inl (m 41 (m 62 (x2).toNat).toNat), .inl (m 65 (x2).toNat), .inl (m 63 (x2).toNat), .inr (.inl 31)]) (m' := m) [((58, .aload_n 1, 1, 0, 0, 0, 0), (0, 0, 0)), ((59, .iload 4, 2, 0, 0, 0, 0), (0, 0, 0)), ((61, .iload 5, 2, 0, 0, 0, 0), (0, 0, 0)), ((63, .aload_n 1, 1, 0, 0, 0, 0), (0, 0, 0)), ((64, .getfield 96, 3, 2, 14, 1129, 0), (1, 31, 41)), ((67, .iload_n 3, 1, 0, 0, 0, 0), (0, 0, 0)), ((68, .iaload, 1, 0, 0, 0, 0), (0, 41, 0))] (by decide +kernel) rfl ?_
            exact hx_call (E := (69, .invokevirtual 113, 3, 68, 0, 3175, 0)) (M' := yp_m68) [.inr (.inl 31), .inl (m 63 (x2).toNat), .inl (m 65 (x2).toNat), .inl (m 41 (m 62 (x2).toNat).toNat)] [] rfl (by decide +kernel) rfl ⟨rfl, rfl⟩ rfl rfl (hx_mono (h4 c1 c2 c3 c4) (fun r m' h' => hx_pick [1, 3] h'))
        · have c4 : (1 : Int) = 0 := by have h : ¬ ((1 : Int) ≠ 0) := c4; omega
          exfalso; omega
      · have c3 : ¬ (cYear 31 m (m 62 (x2).toNat)) := c3
        show hxn xs n yp_m67 20 [(0, .inr (.inl 61)), (1, .inr (.inl 31)), (2, .inl x2)] [.inl 0] m Q
        refine hx_if .ne 24 (by decide +kernel) (fun c4 => ?_) (fun c4 => ?_)
        · have c4 : (0 : Int) ≠ 0 := c4
          exfalso; omega
        · have c4 : (0 : Int) = 0 := by have h : ¬ ((0 : Int) ≠ 0) := c4; omega
          exact hx_ret0 (by decide +kernel) (h5 c1 c2 c3)

/-- carryOut from 72 on -/
theorem hr31_67_72 {xs : List Int32} {n : Nat} {Q : hQ} {m : gx_M} {x3 : Int}
    (h1 : hxn xs n yp_m18 0 [(0, .inr (.inl 31)), (1, .inl x3)] [] m (fun r m' => hxn xs n yp_m67 77 [] (hrs r ++ []) m' Q)) : hxn xs (n + 1) yp_m67 72 [(1, .inr (.inl 31)), (3, .inl x3)] [] m Q := by
  refine hx_blks (npc := 74) (L' := [(1, .inr (.inl 31)), (3, .inl x3)]) (st' := [.inl x3, .inr (.inl 31)]) (m' := m) ((72, .aload_n 1, 1, 0, 0, 0, 0), (0, 0, 0)) [((73, .iload_n 3, 1, 0, 0, 0, 0), (0, 0, 0))] (by decide +kernel) rfl ?_
  exact hx_call (E := (74, .invokevirtual 117, 3, 18, 0, 3186, 0)) (M' := yp_m18) [.inr (.inl 31), .inl x3] [] rfl (by decide +kernel) rfl ⟨rfl, rfl⟩ rfl rfl (hx_mono h1 (fun r m' h' => hx_pick [] h'))

/-- carryOut from 77 on -/
theorem hr31_67_77 {xs : List Int32} {n : Nat} {Q : hQ} {m : gx_M}
    (h1 : Q none m) : hxn xs (n + 1) yp_m67 77 [] [] m Q := by
  exact hx_ret0 (by decide +kernel) h1

/-- carryOut from 92 on -/
theorem hr31_67_92 {xs : List Int32} {n : Nat} {Q : hQ} {m : gx_M} {x2 x3 x5 : Int}
    (h1 : ((m 64 (x2).toNat) ≠ 93) → hxn xs n yp_m16 0 [(0, .inr (.inl 31)), (1, .inl x3), (2, .inl x5)] [] m (fun r m' => hxn xs n yp_m67 126 [] (hrs r ++ []) m' Q))
    (h2 : ((m 64 (x2).toNat) = 93) → hxn xs n yp_m19 0 [(0, .inr (.inl 31)), (1, .inl x3), (2, .inl x5), (3, .inl (m 66 (x2).toNat))] [] m (fun r m' => hxn xs n yp_m67 116 [] (hrs r ++ []) m' Q)) : hxn xs (n + 1) yp_m67 92 [(0, .inr (.inl 61)), (1, .inr (.inl 31)), (2, .inl x2), (3, .inl x3), (5, .inl x5)] [] m Q := by
  refine hx_blks (npc := 100) (L' := [(0, .inr (.inl 61)), (1, .inr (.inl 31)), (2, .inl x2), (3, .inl x3), (5, .inl x5)]) (st' := [.inl 93, .inl (m 64 (x2).toNat)]) (m' := m) ((92, .aload_n 0, 1, 0, 0, 0, 0), (0, 0, 0)) [((93, .getfield 18, 3, 5, 2, 1239, 0), (1, 61, 64)), ((96, .iload_n 2, 1, 0, 0, 0, 0), (0, 0, 0)), ((97, .iaload, 1, 0, 0, 0, 0), (0, 64, 0)), ((98, .bipush 93, 2, 0, 0, 0, 0), (0, 0, 0))] (by decide +kernel) rfl ?_
  refine hx_cmp .ne 119 (by decide +kernel) (fun c1 => ?_) (fun c1 => ?_)
  · have c1 : (m 64 (x2).toNat) ≠ 93 := c1
    refine hx_blk (npc := 123) (L' := [(0, .inr (.inl 61)), (1, .inr (.inl 31)), (2, .inl x2), (3, .inl x3), (5, .inl x5)]) (st' := [.inl x5, .inl x3, .inr (.inl 31)]) (m' := m) [((119, .aload_n 1, 1, 0, 0, 0, 0), (0, 0, 0)), ((120, .iload_n 3, 1, 0, 0, 0, 0), (0, 0, 0)), ((121, .iload 5, 2, 0, 0, 0, 0), (0, 0, 0))] (by decide +kernel) rfl ?_
    exact hx_call (E := (123, .invokevirtual 124, 3, 16, 0, 3188, 0)) (M' := yp_m16) [.inr (.inl 31), .inl x3, .inl x5] [] rfl (by decide +kernel) rfl ⟨rfl, rfl⟩ rfl rfl (hx_mono (h1 c1) (fun r m' h' => hx_pick [] h'))
  · have c1 : (m 64 (x2).toNat) = 93 := by have h : ¬ ((m 64 (x2).toNat) ≠ 93) := c1; omega
    refine hx_blk (npc := 113) (L' := [(0, .inr (.inl 61)), (1, .inr (.inl 31)), (2, .inl x2), (3, .inl x3), (5, .inl x5)]) (st' := [.inl (m 66 (x2).toNat), .inl x5, .inl x3, .inr (.inl 31)]) (m' := m) [((103, .aload_n 1, 1, 0, 0, 0, 0), (0, 0, 0)), ((104, .iload_n 3, 1, 0, 0, 0, 0), (0, 0, 0)), ((105, .iload 5, 2, 0, 0, 0, 0), (0, 0, 0)), ((107, .aload_n 0, 1, 0, 0, 0, 0), (0, 0, 0)), ((108, .getfield 24, 3, 5, 4, 2001, 0), (1, 61, 66)), ((111, .iload_n 2, 1, 0, 0, 0, 0), (0, 0, 0)), ((112, .iaload, 1, 0, 0, 0, 0), (0, 66, 0))] (by decide +kernel) rfl ?_
    exact hx_call (E := (113, .invokevirtual 121, 3, 19, 0, 3187, 0)) (M' := yp_m19) [.inr (.inl 31), .inl x3, .inl x5, .inl (m 66 (x2).toNat)] [] rfl (by decide +kernel) rfl ⟨rfl, rfl⟩ rfl rfl (hx_mono (h2 c1) (fun r m' h' => hx_pick [] h'))

/-- carryOut from 116 on -/
theorem hr31_67_116 {xs : List Int32} {n : Nat} {Q : hQ} {m : gx_M}
    (h1 : Q none m) : hxn xs (n + 1) yp_m67 116 [] [] m Q := by
  refine hx_blks (npc := 126) (L' := []) (st' := []) (m' := m) ((116, .goto 10, 3, 0, 0, 0, 0), (0, 0, 0)) [] (by decide +kernel) rfl ?_
  exact hx_ret0 (by decide +kernel) h1

/-- carryOut from 126 on -/
theorem hr31_67_126 {xs : List Int32} {n : Nat} {Q : hQ} {m : gx_M}
    (h1 : Q none m) : hxn xs (n + 1) yp_m67 126 [] [] m Q := by
  exact hx_ret0 (by decide +kernel) h1

/-- canBe from 0 on -/
theorem hr31_54_0 {xs : List Int32} {n : Nat} {Q : hQ} {m : gx_M} {x3 : Int}
    (h1 : (x3 < 0) → Q (some (.inl 0)) m)
    (h2 : (0 ≤ x3) → ((m 61 5) ≤ x3) → Q (some (.inl 0)) m)
    (h3 : (0 ≤ x3) → (x3 < (m 61 5)) → (x3 < 16) → (cYear 31 m (m 62 (x3).toNat)) → (cPers 31 m (m 63 (x3).toNat)) → (cPers 31 m (m 65 (x3).toNat)) → ((m 38 (m 62 (x3).toNat).toNat) = (m 63 (x3).toNat)) → ((m 64 (x3).toNat) ≠ 91) → ((m 39 (m 62 (x3).toNat).toNat) ≠ (-2)) → Q (some (.inl 0)) m)
    (h4 : (0 ≤ x3) → (x3 < (m 61 5)) → (x3 < 16) → (cYear 31 m (m 62 (x3).toNat)) → (cPers 31 m (m 63 (x3).toNat)) → (cPers 31 m (m 65 (x3).toNat)) → ((m 38 (m 62 (x3).toNat).toNat) = (m 63 (x3).toNat)) → ((m 64 (x3).toNat) ≠ 91) → ((m 39 (m 62 (x3).toNat).toNat) = (-2)) → ((m 32 (m 65 (x3).toNat).toNat) < (m 66 (x3).toNat)) → Q (some (.inl 0)) m)
    (h5 : (0 ≤ x3) → (x3 < (m 61 5)) → (x3 < 16) → (cYear 31 m (m 62 (x3).toNat)) → (cPers 31 m (m 63 (x3).toNat)) → (cPers 31 m (m 65 (x3).toNat)) → ((m 38 (m 62 (x3).toNat).toNat) = (m 63 (x3).toNat)) → ((m 64 (x3).toNat) ≠ 91) → ((m 39 (m 62 (x3).toNat).toNat) = (-2)) → ((m 66 (x3).toNat) ≤ (m 32 (m 65 (x3).toNat).toNat)) → hxn xs n yp_m55 0 [(0, .inr (.inl 44)), (1, .inr (.inl 31)), (2, .inl (m 62 (x3).toNat)), (3, .inl (m 65 (x3).toNat)), (4, .inl (m 66 (x3).toNat))] [] m (fun r m' => hxn xs n yp_m54 174 [] (hrs r ++ []) m' Q))
    (h6 : (0 ≤ x3) → (x3 < (m 61 5)) → (x3 < 16) → (cYear 31 m (m 62 (x3).toNat)) → (cPers 31 m (m 63 (x3).toNat)) → (cPers 31 m (m 65 (x3).toNat)) → ((m 38 (m 62 (x3).toNat).toNat) = (m 63 (x3).toNat)) → ((m 64 (x3).toNat) = 91) → ((m 39 (m 62 (x3).toNat).toNat) ≠ (m 65 (x3).toNat)) → Q (some (.inl 0)) m)
    (h7 : (0 ≤ x3) → (x3 < (m 61 5)) → (x3 < 16) → (cYear 31 m (m 62 (x3).toNat)) → (cPers 31 m (m 63 (x3).toNat)) → (cPers 31 m (m 65 (x3).toNat)) → ((m 38 (m 62 (x3).toNat).toNat) = (m 63 (x3).toNat)) → ((m 64 (x3).toNat) = 91) → ((m 39 (m 62 (x3).toNat).toNat) = (m 65 (x3).toNat)) → ((m 32 (m 63 (x3).toNat).toNat) < (m 41 (m 62 (x3).toNat).toNat)) → Q (some (.inl 0)) m)
    (h8 : (0 ≤ x3) → (x3 < (m 61 5)) → (x3 < 16) → (cYear 31 m (m 62 (x3).toNat)) → (cPers 31 m (m 63 (x3).toNat)) → (cPers 31 m (m 65 (x3).toNat)) → ((m 38 (m 62 (x3).toNat).toNat) = (m 63 (x3).toNat)) → ((m 64 (x3).toNat) = 91) → ((m 39 (m 62 (x3).toNat).toNat) = (m 65 (x3).toNat)) → ((m 41 (m 62 (x3).toNat).toNat) ≤ (m 32 (m 63 (x3).toNat).toNat)) → Q (some (.inl 1)) m)
    (h9 : (0 ≤ x3) → (x3 < (m 61 5)) → (x3 < 16) → (cYear 31 m (m 62 (x3).toNat)) → (cPers 31 m (m 63 (x3).toNat)) → (cPers 31 m (m 65 (x3).toNat)) → ((m 38 (m 62 (x3).toNat).toNat) ≠ (m 63 (x3).toNat)) → Q (some (.inl 0)) m)
    (h10 : (0 ≤ x3) → (x3 < (m 61 5)) → (x3 < 16) → (cYear 31 m (m 62 (x3).toNat)) → (cPers 31 m (m 63 (x3).toNat)) → (¬ (cPers 31 m (m 65 (x3).toNat))) → Q (some (.inl 0)) m)
    (h11 : (0 ≤ x3) → (x3 < (m 61 5)) → (x3 < 16) → (cYear 31 m (m 62 (x3).toNat)) → (¬ (cPers 31 m (m 63 (x3).toNat))) → Q (some (.inl 0)) m)
    (h12 : (0 ≤ x3) → (x3 < (m 61 5)) → (x3 < 16) → (¬ (cYear 31 m (m 62 (x3).toNat))) → Q (some (.inl 0)) m)
    (h13 : (0 ≤ x3) → (x3 < (m 61 5)) → (16 ≤ x3) → Q (some (.inl 0)) m) : hxn xs (n + 1) yp_m54 0 [(0, .inr (.inl 61)), (1, .inr (.inl 31)), (2, .inr (.inl 44)), (3, .inl x3)] [] m Q := by
  refine hx_blks (npc := 1) (L' := [(0, .inr (.inl 61)), (1, .inr (.inl 31)), (2, .inr (.inl 44)), (3, .inl x3)]) (st' := [.inl x3]) (m' := m) ((0, .iload_n 3, 1, 0, 0, 0, 0), (0, 0, 0)) [] (by decide +kernel) rfl ?_
  refine hx_if .lt 18 (by decide +kernel) (fun c1 => ?_) (fun c1 => ?_)
  · have c1 : x3 < 0 := c1
    refine hx_blk (npc := 19) (L' := [(0, .inr (.inl 61)), (1, .inr (.inl 31)), (2, .inr (.inl 44)), (3, .inl x3)]) (st' := [.inl 0]) (m' := m) [((18, .iconst 0, 1, 0, 0, 0, 0), (0, 0, 0))] (by decide +kernel) rfl ?_
    exact hx_reti (by decide +kernel) (h1 c1)
  · have c1 : 0 ≤ x3 := by have h : ¬ (x3 < 0) := c1; omega
    refine hx_blk (npc := 9) (L' := [(0, .inr (.inl 61)), (1, .inr (.inl 31)), (2, .inr (.inl 44)), (3, .inl x3)]) (st' := [.inl (m 61 5), .inl x3]) (m' := m) [((4, .iload_n 3, 1, 0, 0, 0, 0), (0, 0, 0)), ((5, .aload_n 0, 1, 0, 0, 0, 0), (0, 0, 0)), ((6, .getfield 33, 3, 5, 5, 2002, 0), (0, 61, 0))] (by decide +kernel) rfl ?_
    refine hx_cmp .ge 18 (by decide +kernel) (fun c2 => ?_) (fun c2 => ?_)
    · have c2 : (m 61 5) ≤ x3 := c2
      refine hx_blk (npc := 19) (L' := [(0, .inr (.inl 61)), (1, .inr (.inl 31)), (2, .inr (.inl 44)), (3, .inl x3)]) (st' := [.inl 0]) (m' := m) [((18, .iconst 0, 1, 0, 0, 0, 0), (0, 0, 0))] (by decide +kernel) rfl ?_
      exact hx_reti (by decide +kernel) (h2 c1 c2)
    · have c2 : x3 < (m 61 5) := by have h : ¬ ((m 61 5) ≤ x3) := c2; omega
      refine hx_blk (npc := 15) (L' := [(0, .inr (.inl 61)), (1, .inr (.inl 31)), (2, .inr (.inl 44)), (3, .inl x3)]) (st' := [.inl 16, .inl x3]) (m' := m) [((12, .iload_n 3, 1, 0, 0, 0, 0), (0, 0, 0)), ((13, .bipush 16, 2, 0, 0, 0, 0), (0, 0, 0))] (by decide +kernel) rfl ?_
      refine hx_cmp .lt 20 (by decide +kernel) (fun c3 => ?_) (fun c3 => ?_)
      · have c3 : x3 < 16 := c3
        refine hx_blk (npc := 47) (L' := [(0, .inr (.inl 61)), (1, .inr (.inl 31)), (2, .inr (.inl 44)), (3, .inl x3), (4, .inl (m 62 (x3).toNat)), (5, .inl (m 63 (x3).toNat)), (6, .inl (m 65 (x3).toNat))]) (st' := [.inl (m 62 (x3).toNat), .inr (.inl 31)]) (m' := m) [((20, .aload_n 0, 1, 0, 0, 0, 0), (0, 0, 0)), ((21, .getfield 9, 3, 5, 0, 1237, 0), (1, 61, 62)), ((24, .iload_n 3, 1, 0, 0, 0, 0), (0, 0, 0)), ((25, .iaload, 1, 0, 0, 0, 0), (0, 62, 0)), ((26, .istore 4, 2, 0, 0, 0, 0), (0, 0, 0)), ((28, .aload_n 0, 1, 0, 0, 0, 0), (0, 0, 0)), ((29, .getfield 15, 3, 5, 1, 1238, 0), (1, 61, 63)), ((32, .iload_n 3, 1, 0, 0, 0, 0), (0, 0, 0)), ((33, .iaload, 1, 0, 0, 0, 0), (0, 63, 0)), ((34, .istore 5, 2, 0, 0, 0, 0), (0, 0, 0)), ((36, .aload_n 0, 1, 0, 0, 0, 0), (0, 0, 0)), ((37, .getfield 21, 3, 5, 3, 2000, 0), (1, 61, 65)), ((40, .iload_n 3, 1, 0, 0, 0, 0), (0, 0, 0)), ((41, .iaload, 1, 0, 0, 0, 0), (0, 65, 0)), ((42, .istore 6, 2, 0, 0, 0, 0), (0, 0, 0)), ((44, .aload_n 1, 1, 0, 0, 0, 0), (0, 0, 0)), ((45, .iload 4, 2, 0, 0, 0, 0), (0, 0, 0))] (by decide +kernel) rfl ?_
        refine hx_call (E := (47, .invokevirtual 79, 3, 17, 0, 3117, 0)) (M' := yp_m17) [.inr (.inl 31), .inl (m 62 (x3).toNat)] [] rfl (by decide +kernel) rfl ⟨rfl, rfl⟩ rfl rfl (hs17_31 (fun c4 => ?_) (fun c4 => ?_))
        · have c4 : cYear 31 m (m 62 (x3).toNat) := c4
          show hxn xs n yp_m54 50 [(0, .inr (.inl 61)), (1, .inr (.inl 31)), (2, .inr (.inl 44)), (3, .inl x3), (4, .inl (m 62 (x3).toNat)), (5, .inl (m 63 (x3).toNat)), (6, .inl (m 65 (x3).toNat))] [.inl 1] m Q
          refine hx_if .eq 83 (by decide +kernel) (fun c5 => ?_) (fun c5 => ?_)
          · have c5 : (1 : Int) = 0 := c5
            exfalso; omega
          · have c5 : (1 : Int) ≠ 0 := c5
            refine hx_blk (npc := 56) (L' := [(0, .inr (.inl 61)), (1, .inr (.inl 31)), (2, .inr (.inl 44)), (3, .inl x3), (4, .inl (m 62 (x3).toNat)), (5, .inl (m 63 (x3).toNat)), (6, .inl (m 65 (x3).toNat))]) (st' := [.inl (m 63 (x3).toNat), .inr (.inl 31)]) (m' := m) [((53, .aload_n 1, 1, 0, 0, 0, 0), (0, 0, 0)), ((54, .iload 5, 2, 0, 0, 0, 0), (0, 0, 0))] (by decide +kernel) rfl ?_
            refine hx_call (E := (56, .invokevirtual 84, 3, 13, 0, 3118, 0)) (M' := yp_m13) [.inr (.inl 31), .inl (m 63 (x3).toNat)] [] rfl (by decide +kernel) rfl ⟨rfl, rfl⟩ rfl rfl (hs13_31 (fun c5 => ?_) (fun c5 => ?_))
            · have c5 : cPers 31 m (m 63 (x3).toNat) := c5
              show hxn xs n yp_m54 59 [(0, .inr (.inl 61)), (1, .inr (.inl 31)), (2, .inr (.inl 44)), (3, .inl x3), (4, .inl (m 62 (x3).toNat)), (5, .inl (m 63 (x3).toNat)), (6, .inl (m 65 (x3).toNat))] [.inl 1] m Q
              refine hx_if .eq 83 (by decide +kernel) (fun c6 => ?_) (fun c6 => ?_)
              · have c6 : (1 : Int) = 0 := c6
                exfalso; omega
              · have c6 : (1 : Int) ≠ 0 := c6
                refine hx_blk (npc := 65) (L' := [(0, .inr (.inl 61)), (1, .inr (.inl 31)), (2, .inr (.inl 44)), (3, .inl x3), (4, .inl (m 62 (x3).toNat)), (5, .inl (m 63 (x3).toNat)), (6, .inl (m 65 (x3).toNat))]) (st' := [.inl (m 65 (x3).toNat), .inr (.inl 31)]) (m' := m) [((62, .aload_n 1, 1, 0, 0, 0, 0), (0, 0, 0)), ((63, .iload 6, 2, 0, 0, 0, 0), (0, 0, 0))] (by decide +kernel) rfl ?_
                refine hx_call (E := (65, .invokevirtual 84, 3, 13, 0, 3118, 0)) (M' := yp_m13) [.inr (.inl 31), .inl (m 65 (x3).toNat)] [] rfl (by decide +kernel) rfl ⟨rfl, rfl⟩ rfl rfl (hs13_31 (fun c6 => ?_) (fun c6 => ?_))
                · have c6 : cPers 31 m (m 65 (x3).toNat) := c6
                  show hxn xs n yp_m54 68 [(0, .inr (.inl 61)), (1, .inr (.inl 31)), (2, .inr (.inl 44)), (3, .inl x3), (4, .inl (m 62 (x3).toNat)), (5, .inl (m 63 (x3).toNat)), (6, .inl (m 65 (x3).toNat))] [.inl 1] m Q
                  refine hx_if .eq 83 (by decide +kernel) (fun c7 => ?_) (fun c7 => ?_)
                  · have c7 : (1 : Int) = 0 := c7
                    exfalso; omega
                  · have c7 : (1 : Int) ≠ 0 := c7
                    refine hx_blk (npc := 80) (L' := [(0, .inr (.inl 61)), (1, .inr (.inl 31)), (2, .inr (.inl 44)), (3, .inl x3), (4, .inl (m 62 (x3).toNat)), (5, .inl (m 63 (x3).toNat)), (6, .inl (m 65 (x3).toNat))]) (st' := [.inl (m 63 (x3).toNat), .inl (m 38 (m 62 (x3).toNat).toNat)]) (m' := m) [((71, .aload_n 1, 1, 0, 0, 0, 0), (0, 0, 0)), ((72, .getfield 87, 3, 2, 11, 1115, 0), (1, 31, 38)), ((75, .iload 4, 2, 0, 0, 0, 0), (0, 0, 0)), ((77, .iaload, 1, 0, 0, 0, 0), (0, 38, 0)), ((78, .iload 5, 2, 0, 0, 0, 0), (0, 0, 0))] (by decide +kernel) rfl ?_
                    refine hx_cmp .eq 85 (by decide +kernel) (fun c7 => ?_) (fun c7 => ?_)
                    · have c7 : (m 38 (m 62 (x3).toNat).toNat) = (m 63 (x3).toNat) := c7
                      refine hx_blk (npc := 93) (L' := [(0, .inr (.inl 61)), (1, .inr (.inl 31)), (2, .inr (.inl 44)), (3, .inl x3), (4, .inl (m 62 (x3).toNat)), (5, .inl (m 63 (x3).toNat)), (6, .inl (m 65 (x3).toNat))]) (st' := [.inl 91, .inl (m 64 (x3).toNat)]) (m' := m) [((85, .aload_n 0, 1, 0, 0, 0, 0), (0, 0, 0)), ((86, .getfield 18, 3, 5, 2, 1239, 0), (1, 61, 64)), ((89, .iload_n 3, 1, 0, 0, 0, 0), (0, 0, 0)), ((90, .iaload, 1, 0, 0, 0, 0), (0, 64, 0)), ((91, .bipush 91, 2, 0, 0, 0, 0), (0, 0, 0))] (by decide +kernel) rfl ?_
                      refine hx_cmp .ne 131 (by decide +kernel) (fun c8 => ?_) (fun c8 => ?_)
                      · have c8 : (m 64 (x3).toNat) ≠ 91 := c8
                        refine hx_blk (npc := 140) (L' := [(0, .inr (.inl 61)), (1, .inr (.inl 31)), (2, .inr (.inl 44)), (3, .inl x3), (4, .inl (m 62 (x3).toNat)), (5, .inl (m 63 (x3).toNat)), (6, .inl (m 65 (x3).toNat))]) (st' := [.inl (-2), .inl (m 39 (m 62 (x3).toNat).toNat)]) (m' := m) [((131, .aload_n 1, 1, 0, 0, 0, 0), (0, 0, 0)), ((132, .getfield 90, 3, 2, 12, 1121, 0), (1, 31, 39)), ((135, .iload 4, 2, 0, 0, 0, 0), (0, 0, 0)), ((137, .iaload, 1, 0, 0, 0, 0), (0, 39, 0)), ((138, .bipush (-2), 2, 0, 0, 0, 0), (0, 0, 0))] (by decide +kernel) rfl ?_
                        refine hx_cmp .ne 181 (by decide +kernel) (fun c9 => ?_) (fun c9 => ?_)
                        · have c9 : (m 39 (m 62 (x3).toNat).toNat) ≠ (-2) := c9
                          refine hx_blk (npc := 182) (L' := [(0, .inr (.inl 61)), (1, .inr (.inl 31)), (2, .inr (.inl 44)), (3, .inl x3), (4, .inl (m 62 (x3).toNat)), (5, .inl (m 63 (x3).toNat)), (6, .inl (m 65 (x3).toNat))]) (st' := [.inl 0]) (m' := m) [((181, .iconst 0, 1, 0, 0, 0, 0), (0, 0, 0))] (by decide +kernel) rfl ?_
                          exact hx_reti (by decide +kernel) (h3 c1 c2 c3 c4 c5 c6 c7 c8 c9)
                        · have c9 : (m 39 (m 62 (x3).toNat).toNat) = (-2) := by have h : ¬ ((m 39 (m 62 (x3).toNat).toNat) ≠ (-2)) := c9; omega
                          refine hx_blk (npc := 156) (L' := [(0, .inr (.inl 61)), (1, .inr (.inl 31)), (2, .inr (.inl 44)), (3, .inl x3), (4, .inl (m 62 (x3).toNat)), (5, .inl (m 63 (x3).toNat)), (6, .inl (m 65 (x3).toNat))]) (st' := [.inl (m 66 (x3).toNat), .inl (m 32 (m 65 (x3).toNat).toNat)]) (m' := m) [((143, .aload_n 1, 1, 0, 0, 0, 0), (0, 0, 0)), ((144, .getfield 93, 3, 2, 5, 1091, 0), (1, 31, 32)), ((147, .iload 6, 2, 0, 0, 0, 0), (0, 0, 0)), ((149, .iaload, 1, 0, 0, 0, 0), (0, 32, 0)), ((150, .aload_n 0, 1, 0, 0, 0, 0), (0, 0, 0)), ((151, .getfield 24, 3, 5, 4, 2001, 0), (1, 61, 66)), ((154, .iload_n 3, 1, 0, 0, 0, 0), (0, 0, 0)), ((155, .iaload, 1, 0, 0, 0, 0), (0, 66, 0))] (by decide +kernel) rfl ?_
                          refine hx_cmp .lt 181 (by decide +kernel) (fun c10 => ?_) (fun c10 => ?_)
                          · have c10 : (m 32 (m 65 (x3).toNat).toNat) < (m 66 (x3).toNat) := c10
                            refine hx_blk (npc := 182) (L' := [(0, .inr (.inl 61)), (1, .inr (.inl 31)), (2, .inr (.inl 44)), (3, .inl x3), (4, .inl (m 62 (x3).toNat)), (5, .inl (m 63 (x3).toNat)), (6, .inl (m 65 (x3).toNat))]) (st' := [.inl 0]) (m' := m) [((181, .iconst 0, 1, 0, 0, 0, 0), (0, 0, 0))] (by decide +kernel) rfl ?_
                            exact hx_reti (by decide +kernel) (h4 c1 c2 c3 c4 c5 c6 c7 c8 c9 c10)
                          · have c10 : (m 66 (x3).toNat) ≤ (m 32 (m 65 (x3).toNat).toNat) := by have h : ¬ ((m 32 (m 65 (x3).toNat).toNat) < (m 66 (x3).toNat)) := c10; omega
                            refine hx_blk (npc := 171) (L' := [(0, .inr (.inl 61)), (1, .inr (.inl 31)), (2, .inr (.inl 44)), (3, .inl x3), (4, .inl (m 62 (x3).toNat)), (5, .inl (m 63 (x3).toNat)), (6, .inl (m 65 (x3).toNat))]) (st' := [.inl (m 66 (x3).toNat), .inl (m 65 (x3).toNat), .inl (m 62 (x3).toNat), .inr (.inl 31), .inr (.inl 44)]) (m' := m) [((159, .aload_n 2, 1, 0, 0, 0, 0), (0, 0, 0)), ((160, .aload_n 1, 1, 0, 0, 0, 0), (0, 0, 0)), ((161, .iload 4, 2, 0, 0, 0, 0), (0, 0, 0)), ((163, .iload 6, 2, 0, 0, 0, 0), (0, 0, 0)), ((165, .aload_n 0, 1, 0, 0, 0, 0), (0, 0, 0)), ((166, .getfield 24, 3, 5, 4, 2001, 0), (1, 61, 66)), ((169, .iload_n 3, 1, 0, 0, 0, 0), (0, 0, 0)), ((170, .iaload, 1, 0, 0, 0, 0), (0, 66, 0))] (by decide +kernel) rfl ?_
                            exact hx_call (E := (171, .invokevirtual 99, 3, 55, 0, 3119, 0)) (M' := yp_m55) [.inr (.inl 44), .inr (.inl 31), .inl (m 62 (x3).toNat), .inl (m 65 (x3).toNat), .inl (m 66 (x3).toNat)] [] rfl (by decide +kernel) rfl ⟨rfl, rfl⟩ rfl rfl (hx_mono (h5 c1 c2 c3 c4 c5 c6 c7 c8 c9 c10) (fun r m' h' => hx_pick [] h'))
                      · have c8 : (m 64 (x3).toNat) = 91 := by have h : ¬ ((m 64 (x3).toNat) ≠ 91) := c8; omega
                        refine hx_blk (npc := 105) (L' := [(0, .inr (.inl 61)), (1, .inr (.inl 31)), (2, .inr (.inl 44)), (3, .inl x3), (4, .inl (m 62 (x3).toNat)), (5, .inl (m 63 (x3).toNat)), (6, .inl (m 65 (x3).toNat))]) (st' := [.inl (m 65 (x3).toNat), .inl (m 39 (m 62 (x3).toNat).toNat)]) (m' := m) [((96, .aload_n 1, 1, 0, 0, 0, 0), (0, 0, 0)), ((97, .getfield 90, 3, 2, 12, 1121, 0), (1, 31, 39)), ((100, .iload 4, 2, 0, 0, 0, 0), (0, 0, 0)), ((102, .iaload, 1, 0, 0, 0, 0), (0, 39, 0)), ((103, .iload 6, 2, 0, 0, 0, 0), (0, 0, 0))] (by decide +kernel) rfl ?_
                        refine hx_cmp .ne 129 (by decide +kernel) (fun c9 => ?_) (fun c9 => ?_)
                        · have c9 : (m 39 (m 62 (x3).toNat).toNat) ≠ (m 65 (x3).toNat) := c9
                          refine hx_blk (npc := 130) (L' := [(0, .inr (.inl 61)), (1, .inr (.inl 31)), (2, .inr (.inl 44)), (3, .inl x3), (4, .inl (m 62 (x3).toNat)), (5, .inl (m 63 (x3).toNat)), (6, .inl (m 65 (x3).toNat))]) (st' := [.inl 0]) (m' := m) [((129, .iconst 0, 1, 0, 0, 0, 0), (0, 0, 0))] (by decide +kernel) rfl ?_
                          exact hx_reti (by decide +kernel) (h6 c1 c2 c3 c4 c5 c6 c7 c8 c9)
                        · have c9 : (m 39 (m 62 (x3).toNat).toNat) = (m 65 (x3).toNat) := by have h : ¬ ((m 39 (m 62 (x3).toNat).toNat) ≠ (m 65 (x3).toNat)) := c9; omega
                          refine hx_blk (npc := 122) (L' := [(0, .inr (.inl 61)), (1, .inr (.inl 31)), (2, .inr (.inl 44)), (3, .inl x3), (4, .inl (m 62 (x3).toNat)), (5, .inl (m 63 (x3).toNat)), (6, .inl (m 65 (x3).toNat))]) (st' := [.inl (m 41 (m 62 (x3).toNat).toNat), .inl (m 32 (m 63 (x3).toNat).toNat)]) (m' := m) [((108, .aload_n 1, 1, 0, 0, 0, 0), (0, 0, 0)), ((109, .getfield 93, 3, 2, 5, 1091, 0), (1, 31, 32)), ((112, .iload 5, 2, 0, 0, 0, 0), (0, 0, 0)), ((114, .iaload, 1, 0, 0, 0, 0), (0, 32, 0)), ((115, .aload_n 1, 1, 0, 0, 0, 0), (0, 0, 0)), ((116, .getfield 96, 3, 2, 14, 1129, 0), (1, 31, 41)), ((119, .iload 4, 2, 0, 0, 0, 0), (0, 0, 0)), ((121, .iaload, 1, 0, 0, 0, 0), (0, 41, 0))] (by decide +kernel) rfl ?_
                          refine hx_cmp .lt 129 (by decide +kernel) (fun c10 => ?_) (fun c10 => ?_)
                          · have c10 : (m 32 (m 63 (x3).toNat).toNat) < (m 41 (m 62 (x3).toNat).toNat) := c10
                            refine hx_blk (npc := 130) (L' := [(0, .inr (.inl 61)), (1, .inr (.inl 31)), (2, .inr (.inl 44)), (3, .inl x3), (4, .inl (m 62 (x3).toNat)), (5, .inl (m 63 (x3).toNat)), (6, .inl (m 65 (x3).toNat))]) (st' := [.inl 0]) (m' := m) [((129, .iconst 0, 1, 0, 0, 0, 0), (0, 0, 0))] (by decide +kernel) rfl ?_
                            exact hx_reti (by decide +kernel) (h7 c1 c2 c3 c4 c5 c6 c7 c8 c9 c10)
                          · have c10 : (m 41 (m 62 (x3).toNat).toNat) ≤ (m 32 (m 63 (x3).toNat).toNat) := by have h : ¬ ((m 32 (m 63 (x3).toNat).toNat) < (m 41 (m 62 (x3).toNat).toNat)) := c10; omega
                            refine hx_blk (npc := 130) (L' := [(0, .inr (.inl 61)), (1, .inr (.inl 31)), (2, .inr (.inl 44)), (3, .inl x3), (4, .inl (m 62 (x3).toNat)), (5, .inl (m 63 (x3).toNat)), (6, .inl (m 65 (x3).toNat))]) (st' := [.inl 1]) (m' := m) [((125, .iconst 1, 1, 0, 0, 0, 0), (0, 0, 0)), ((126, .goto 4, 3, 0, 0, 0, 0), (0, 0, 0))] (by decide +kernel) rfl ?_
                            exact hx_reti (by decide +kernel) (h8 c1 c2 c3 c4 c5 c6 c7 c8 c9 c10)
                    · have c7 : (m 38 (m 62 (x3).toNat).toNat) ≠ (m 63 (x3).toNat) := c7
                      refine hx_blk (npc := 84) (L' := [(0, .inr (.inl 61)), (1, .inr (.inl 31)), (2, .inr (.inl 44)), (3, .inl x3), (4, .inl (m 62 (x3).toNat)), (5, .inl (m 63 (x3).toNat)), (6, .inl (m 65 (x3).toNat))]) (st' := [.inl 0]) (m' := m) [((83, .iconst 0, 1, 0, 0, 0, 0), (0, 0, 0))] (by decide +kernel) rfl ?_
                      exact hx_reti (by decide +kernel) (h9 c1 c2 c3 c4 c5 c6 c7)
                · have c6 : ¬ (cPers 31 m (m 65 (x3).toNat)) := c6
                  show hxn xs n yp_m54 68 [(0, .inr (.inl 61)), (1, .inr (.inl 31)), (2, .inr (.inl 44)), (3, .inl x3), (4, .inl (m 62 (x3).toNat)), (5, .inl (m 63 (x3).toNat)), (6, .inl (m 65 (x3).toNat))] [.inl 0] m Q
                  refine hx_if .eq 83 (by decide +kernel) (fun c7 => ?_) (fun c7 => ?_)
                  · have c7 : (0 : Int) = 0 := c7
                    refine hx_blk (npc := 84) (L' := [(0, .inr (.inl 61)), (1, .inr (.inl 31)), (2, .inr (.inl 44)), (3, .inl x3), (4, .inl (m 62 (x3).toNat)), (5, .inl (m 63 (x3).toNat)), (6, .inl (m 65 (x3).toNat))]) (st' := [.inl 0]) (m' := m) [((83, .iconst 0, 1, 0, 0, 0, 0), (0, 0, 0))] (by decide +kernel) rfl ?_
                    exact hx_reti (by decide +kernel) (h10 c1 c2 c3 c4 c5 c6)
                  · have c7 : (0 : Int) ≠ 0 := c7
                    exfalso; omega
            · have c5 : ¬ (cPers 31 m (m 63 (x3).toNat)) := c5
              show hxn xs n yp_m54 59 [(0, .inr (.inl 61)), (1, .inr (.inl 31)), (2, .inr (.inl 44)), (3, .inl x3), (4, .inl (m 62 (x3).toNat)), (5, .inl (m 63 (x3).toNat)), (6, .inl (m 65 (x3).toNat))] [.inl 0] m Q
              refine hx_if .eq 83 (by decide +kernel) (fun c6 => ?_) (fun c6 => ?_)
              · have c6 : (0 : Int) = 0 := c6
                refine hx_blk (npc := 84) (L' := [(0, .inr (.inl 61)), (1, .inr (.inl 31)), (2, .inr (.inl 44)), (3, .inl x3), (4, .inl (m 62 (x3).toNat)), (5, .inl (m 63 (x3).toNat)), (6, .inl (m 65 (x3).toNat))]) (st' := [.inl 0]) (m' := m) [((83, .iconst 0, 1, 0, 0, 0, 0), (0, 0, 0))] (by decide +kernel) rfl ?_
                exact hx_reti (by decide +kernel) (h11 c1 c2 c3 c4 c5)
              · have c6 : (0 : Int) ≠ 0 := c6
                exfalso; omega
        · have c4 : ¬ (cYear 31 m (m 62 (x3).toNat)) := c4
          show hxn xs n yp_m54 50 [(0, .inr (.inl 61)), (1, .inr (.inl 31)), (2, .inr (.inl 44)), (3, .inl x3), (4, .inl (m 62 (x3).toNat)), (5, .inl (m 63 (x3).toNat)), (6, .inl (m 65 (x3).toNat))] [.inl 0] m Q
          refine hx_if .eq 83 (by decide +kernel) (fun c5 => ?_) (fun c5 => ?_)
          · have c5 : (0 : Int) = 0 := c5
            refine hx_blk (npc := 84) (L' := [(0, .inr (.inl 61)), (1, .inr (.inl 31)), (2, .inr (.inl 44)), (3, .inl x3), (4, .inl (m 62 (x3).toNat)), (5, .inl (m 63 (x3).toNat)), (6, .inl (m 65 (x3).toNat))]) (st' := [.inl 0]) (m' := m) [((83, .iconst 0, 1, 0, 0, 0, 0), (0, 0, 0))] (by decide +kernel) rfl ?_
            exact hx_reti (by decide +kernel) (h12 c1 c2 c3 c4)
          · have c5 : (0 : Int) ≠ 0 := c5
            exfalso; omega
      · have c3 : 16 ≤ x3 := by have h : ¬ (x3 < 16) := c3; omega
        refine hx_blk (npc := 19) (L' := [(0, .inr (.inl 61)), (1, .inr (.inl 31)), (2, .inr (.inl 44)), (3, .inl x3)]) (st' := [.inl 0]) (m' := m) [((18, .iconst 0, 1, 0, 0, 0, 0), (0, 0, 0))] (by decide +kernel) rfl ?_
        exact hx_reti (by decide +kernel) (h13 c1 c2 c3)

/-- canBe from 174 on -/
theorem hr31_54_174 {xs : List Int32} {n : Nat} {Q : hQ} {m : gx_M} {s0 : Int}
    (h1 : (s0 ≠ 0) → Q (some (.inl 0)) m)
    (h2 : (s0 = 0) → Q (some (.inl 1)) m) : hxn xs (n + 1) yp_m54 174 [] [.inl s0] m Q := by
  refine hx_ifs .ne 181 (by decide +kernel) (fun c1 => ?_) (fun c1 => ?_)
  · have c1 : s0 ≠ 0 := c1
    refine hx_blk (npc := 182) (L' := []) (st' := [.inl 0]) (m' := m) [((181, .iconst 0, 1, 0, 0, 0, 0), (0, 0, 0))] (by decide +kernel) rfl ?_
    exact hx_reti (by decide +kernel) (h1 c1)
  · have c1 : s0 = 0 := by have h : ¬ (s0 ≠ 0) := c1; omega
    refine hx_blk (npc := 182) (L' := []) (st' := [.inl 1]) (m' := m) [((177, .iconst 1, 1, 0, 0, 0, 0), (0, 0, 0)), ((178, .goto 4, 3, 0, 0, 0, 0), (0, 0, 0))] (by decide +kernel) rfl ?_
    exact hx_reti (by decide +kernel) (h2 c1)

/-- perform from 0 on -/
theorem hr31_53_0 {xs : List Int32} {n : Nat} {Q : hQ} {m : gx_M} {x3 : Int}
    (h1 : hxn xs n yp_m54 0 [(0, .inr (.inl 61)), (1, .inr (.inl 31)), (2, .inr (.inl 44)), (3, .inl x3)] [] m (fun r m' => hxn xs n yp_m53 7 [(0, .inr (.inl 61)), (1, .inr (.inl 31)), (3, .inl x3)] (hrs r ++ []) m' Q)) : hxn xs (n + 1) yp_m53 0 [(0, .inr (.inl 61)), (1, .inr (.inl 31)), (2, .inr (.inl 44)), (3, .inl x3)] [] m Q := by
  refine hx_blks (npc := 4) (L' := [(0, .inr (.inl 61)), (1, .inr (.inl 31)), (2, .inr (.inl 44)), (3, .inl x3)]) (st' := [.inl x3, .inr (.inl 44), .inr (.inl 31), .inr (.inl 61)]) (m' := m) ((0, .aload_n 0, 1, 0, 0, 0, 0), (0, 0, 0)) [((1, .aload_n 1, 1, 0, 0, 0, 0), (0, 0, 0)), ((2, .aload_n 2, 1, 0, 0, 0, 0), (0, 0, 0)), ((3, .iload_n 3, 1, 0, 0, 0, 0), (0, 0, 0))] (by decide +kernel) rfl ?_
  exact hx_call (E := (4, .invokevirtual 105, 3, 54, 0, 3113, 0)) (M' := yp_m54) [.inr (.inl 61), .inr (.inl 31), .inr (.inl 44), .inl x3] [] rfl (by decide +kernel) rfl ⟨rfl, rfl⟩ rfl rfl (hx_mono h1 (fun r m' h' => hx_pick [0, 1, 3] h'))

/-- perform from 7 on -/
theorem hr31_53_7 {xs : List Int32} {n : Nat} {Q : hQ} {m : gx_M} {x3 s0 : Int}
    (h1 : (s0 ≠ 0) → hxn xs n yp_m67 0 [(0, .inr (.inl 61)), (1, .inr (.inl 31)), (2, .inl x3)] [] m (fun r m' => hxn xs n yp_m53 18 [] (hrs r ++ []) m' Q))
    (h2 : (s0 = 0) → Q (some (.inl 0)) m) : hxn xs (n + 1) yp_m53 7 [(0, .inr (.inl 61)), (1, .inr (.inl 31)), (3, .inl x3)] [.inl s0] m Q := by
  refine hx_ifs .ne 12 (by decide +kernel) (fun c1 => ?_) (fun c1 => ?_)
  · have c1 : s0 ≠ 0 := c1
    refine hx_blk (npc := 15) (L' := [(0, .inr (.inl 61)), (1, .inr (.inl 31)), (3, .inl x3)]) (st' := [.inl x3, .inr (.inl 31), .inr (.inl 61)]) (m' := m) [((12, .aload_n 0, 1, 0, 0, 0, 0), (0, 0, 0)), ((13, .aload_n 1, 1, 0, 0, 0, 0), (0, 0, 0)), ((14, .iload_n 3, 1, 0, 0, 0, 0), (0, 0, 0))] (by decide +kernel) rfl ?_
    exact hx_call (E := (15, .invokevirtual 109, 3, 67, 0, 3171, 0)) (M' := yp_m67) [.inr (.inl 61), .inr (.inl 31), .inl x3] [] rfl (by decide +kernel) rfl ⟨rfl, rfl⟩ rfl rfl (hx_mono (h1 c1) (fun r m' h' => hx_pick [] h'))
  · have c1 : s0 = 0 := by have h : ¬ (s0 ≠ 0) := c1; omega
    refine hx_blk (npc := 11) (L' := [(0, .inr (.inl 61)), (1, .inr (.inl 31)), (3, .inl x3)]) (st' := [.inl 0]) (m' := m) [((10, .iconst 0, 1, 0, 0, 0, 0), (0, 0, 0))] (by decide +kernel) rfl ?_
    exact hx_reti (by decide +kernel) (h2 c1)

/-- perform from 18 on -/
theorem hr31_53_18 {xs : List Int32} {n : Nat} {Q : hQ} {m : gx_M}
    (h1 : Q (some (.inl 1)) m) : hxn xs (n + 1) yp_m53 18 [] [] m Q := by
  refine hx_blks (npc := 19) (L' := []) (st' := [.inl 1]) (m' := m) ((18, .iconst 1, 1, 0, 0, 0, 0), (0, 0, 0)) [] (by decide +kernel) rfl ?_
  exact hx_reti (by decide +kernel) h1
end
section
/-! deals as the reference reads and does them: roads -/
/-- isYear from 0 on -/
theorem hs196 {xs : List Int32} {n : Nat} {Q : hQ} {m : gx_M} {x1 : Int}
    (h1 : aYr (m 87) x1 → Q (some (.inl 1)) m) (h0 : ¬ (aYr (m 87) x1) → Q (some (.inl 0)) m) : hxn xs n yp_m196 0 [(0, .inr (.inl 86)), (1, .inl x1)] [] m Q := by
  refine hx_dn ?_
  refine hx_blks (npc := 1) (L' := [(0, .inr (.inl 86)), (1, .inl x1)]) (st' := [.inl x1]) (m' := m) ((0, .iload_n 1, 1, 0, 0, 0, 0), (0, 0, 0)) [] (by decide +kernel) rfl ?_
  refine hx_if .lt 28 (by decide +kernel) (fun c1 => ?_) (fun c1 => ?_)
  · have c1 : x1 < 0 := c1
    refine hx_blk (npc := 29) (L' := [(0, .inr (.inl 86)), (1, .inl x1)]) (st' := [.inl 0]) (m' := m) [((28, .iconst 0, 1, 0, 0, 0, 0), (0, 0, 0))] (by decide +kernel) rfl ?_
    exact hx_reti (by decide +kernel) (h0 (by unfold aYr; omega))
  · have c1 : 0 ≤ x1 := by have h : ¬ (x1 < 0) := c1; omega
    refine hx_blk (npc := 7) (L' := [(0, .inr (.inl 86)), (1, .inl x1)]) (st' := [.inl 40, .inl x1]) (m' := m) [((4, .iload_n 1, 1, 0, 0, 0, 0), (0, 0, 0)), ((5, .bipush 40, 2, 0, 0, 0, 0), (0, 0, 0))] (by decide +kernel) rfl ?_
    refine hx_cmp .ge 28 (by decide +kernel) (fun c2 => ?_) (fun c2 => ?_)
    · have c2 : 40 ≤ x1 := c2
      refine hx_blk (npc := 29) (L' := [(0, .inr (.inl 86)), (1, .inl x1)]) (st' := [.inl 0]) (m' := m) [((28, .iconst 0, 1, 0, 0, 0, 0), (0, 0, 0))] (by decide +kernel) rfl ?_
      exact hx_reti (by decide +kernel) (h0 (by unfold aYr; omega))
    · have c2 : x1 < 40 := by have h : ¬ (40 ≤ x1) := c2; omega
      have e1 : gx_w (440 + x1) = 440 + x1 := gx_w_id (by omega) (by omega)
      refine hx_blk (npc := 21) (L' := [(0, .inr (.inl 86)), (1, .inl x1)]) (st' := [.inl 1, .inl (m 87 (gx_w (440 + x1)).toNat)]) (m' := m) [((10, .aload_n 0, 1, 0, 0, 0, 0), (0, 0, 0)), ((11, .getfield 7, 3, 10, 0, 5113, 0), (1, 86, 87)), ((14, .sipush 440, 3, 0, 0, 0, 0), (0, 0, 0)), ((17, .iload_n 1, 1, 0, 0, 0, 0), (0, 0, 0)), ((18, .iadd, 1, 0, 0, 0, 0), (0, 0, 0)), ((19, .iaload, 1, 0, 0, 0, 0), (0, 87, 0)), ((20, .iconst 1, 1, 0, 0, 0, 0), (0, 0, 0))] (by decide +kernel) rfl ?_
      rw [e1]
      refine hx_cmp .ne 28 (by decide +kernel) (fun c3 => ?_) (fun c3 => ?_)
      · have c3 : (m 87 (440 + x1).toNat) ≠ 1 := c3
        refine hx_blk (npc := 29) (L' := [(0, .inr (.inl 86)), (1, .inl x1)]) (st' := [.inl 0]) (m' := m) [((28, .iconst 0, 1, 0, 0, 0, 0), (0, 0, 0))] (by decide +kernel) rfl ?_
        exact hx_reti (by decide +kernel) (h0 (by unfold aYr; omega))
      · have c3 : (m 87 (440 + x1).toNat) = 1 := by have h : ¬ ((m 87 (440 + x1).toNat) ≠ 1) := c3; omega
        refine hx_blk (npc := 29) (L' := [(0, .inr (.inl 86)), (1, .inl x1)]) (st' := [.inl 1]) (m' := m) [((24, .iconst 1, 1, 0, 0, 0, 0), (0, 0, 0)), ((25, .goto 4, 3, 0, 0, 0, 0), (0, 0, 0))] (by decide +kernel) rfl ?_
        exact hx_reti (by decide +kernel) (h1 (by unfold aYr; omega))

/-- isOne from 0 on -/
theorem hs194 {xs : List Int32} {n : Nat} {Q : hQ} {m : gx_M}
    (h1 : isPn (aHere m) → Q (some (.inl 1)) m) (h0 : ¬ (isPn (aHere m)) → Q (some (.inl 0)) m) : hxn xs n yp_m194 0 [(0, .inr (.inl 86))] [] m Q := by
  refine hx_dn ?_
  refine hx_blks (npc := 1) (L' := [(0, .inr (.inl 86))]) (st' := [.inr (.inl 86)]) (m' := m) ((0, .aload_n 0, 1, 0, 0, 0, 0), (0, 0, 0)) [] (by decide +kernel) rfl ?_
  refine hx_call (E := (1, .invokevirtual 138, 3, 170, 0, 6054, 0)) (M' := yp_m170) [.inr (.inl 86)] [] rfl (by decide +kernel) rfl ⟨rfl, rfl⟩ rfl rfl (hs170 ?_)
  show hxn xs n yp_m194 4 [(0, .inr (.inl 86))] [.inl (aHere m)] m Q
  refine hx_blk (npc := 8) (L' := [(0, .inr (.inl 86))]) (st' := [.inl 104, .inl 97, .inl (aHere m)]) (m' := m) [((4, .bipush 97, 2, 0, 0, 0, 0), (0, 0, 0)), ((6, .bipush 104, 2, 0, 0, 0, 0), (0, 0, 0))] (by decide +kernel) rfl ?_
  refine hx_call (E := (8, .invokestatic 108, 3, 162, 0, 6023, 0)) (M' := yp_m162) [.inl (aHere m), .inl 97, .inl 104] [] rfl (by decide +kernel) rfl ⟨rfl, rfl⟩ rfl rfl (hs162 (fun c1 => ?_) (fun c1 => ?_))
  · have c1 : 97 ≤ (aHere m) ∧ (aHere m) ≤ 104 := c1
    show hxn xs n yp_m194 11 [(0, .inr (.inl 86))] [.inl 1] m Q
    exact hx_reti (by decide +kernel) (h1 (by unfold isPn; omega))
  · have c1 : ¬ (97 ≤ (aHere m) ∧ (aHere m) ≤ 104) := c1
    show hxn xs n yp_m194 11 [(0, .inr (.inl 86))] [.inl 0] m Q
    exact hx_reti (by decide +kernel) (h0 (by unfold isPn; omega))

/-- readsDigits from 0 on -/
theorem hr193_0 {xs : List Int32} {n : Nat} {Q : hQ} {m : gx_M} {x1 : Int}
    (h1 : hxn xs n yp_m193 10 [(0, .inr (.inl 86)), (1, .inl x1), (2, .inl (m 86 5))] [] (gx_u m 86 8 0) Q) : hxn xs (n + 1) yp_m193 0 [(0, .inr (.inl 86)), (1, .inl x1)] [] m Q := by
  refine hx_blks (npc := 10) (L' := [(0, .inr (.inl 86)), (1, .inl x1), (2, .inl (m 86 5))]) (st' := []) (m' := (gx_u m 86 8 0)) ((0, .aload_n 0, 1, 0, 0, 0, 0), (0, 0, 0)) [((1, .getfield 132, 3, 10, 5, 5118, 0), (0, 86, 0)), ((4, .istore_n 2, 1, 0, 0, 0, 0), (0, 0, 0)), ((5, .aload_n 0, 1, 0, 0, 0, 0), (0, 0, 0)), ((6, .iconst 0, 1, 0, 0, 0, 0), (0, 0, 0)), ((7, .putfield 148, 3, 10, 8, 5121, 0), (0, 86, 0))] (by decide +kernel) rfl ?_
  exact hx_pick [0, 1, 2] h1

/-- readsDigits from 10 on -/
theorem hr193_10 {xs : List Int32} {n : Nat} {Q : hQ} {m : gx_M} {x1 x2 : Int} (g0 : 0 ≤ (m 86 5) ∧ (m 86 5) ≤ 260)
    (h1 : (isDg (aHere m)) → ((gx_w (x2 + x1)) ≤ (m 86 5)) → (x2 < (m 86 5)) → Q (some (.inl 1)) m)
    (h2 : (isDg (aHere m)) → ((gx_w (x2 + x1)) ≤ (m 86 5)) → ((m 86 5) ≤ x2) → hxn xs n yp_m172 0 [(0, .inr (.inl 86)), (1, .inl 1), (2, .inl (m 86 5))] [] m (fun r m' => hxn xs n yp_m193 76 [] (hrs r ++ []) m' Q))
    (h3 : (isDg (aHere m)) → ((m 86 5) < (gx_w (x2 + x1))) → hxn xs n yp_m193 10 [(0, .inr (.inl 86)), (1, .inl x1), (2, .inl x2)] [] (gx_u (gx_u m 86 8 (gx_w ((gx_w ((gx_w (10 * (m 86 8))) + (aHere m))) - 48))) 86 5 ((m 86 5) + 1)) Q)
    (h4 : (¬ (isDg (aHere m))) → (x2 < (m 86 5)) → Q (some (.inl 1)) m)
    (h5 : (¬ (isDg (aHere m))) → ((m 86 5) ≤ x2) → hxn xs n yp_m172 0 [(0, .inr (.inl 86)), (1, .inl 1), (2, .inl (m 86 5))] [] m (fun r m' => hxn xs n yp_m193 76 [] (hrs r ++ []) m' Q)) : hxn xs (n + 1) yp_m193 10 [(0, .inr (.inl 86)), (1, .inl x1), (2, .inl x2)] [] m Q := by
  refine hx_blks (npc := 11) (L' := [(0, .inr (.inl 86)), (1, .inl x1), (2, .inl x2)]) (st' := [.inr (.inl 86)]) (m' := m) ((10, .aload_n 0, 1, 0, 0, 0, 0), (0, 0, 0)) [] (by decide +kernel) rfl ?_
  refine hx_call (E := (11, .invokevirtual 151, 3, 176, 0, 6078, 0)) (M' := yp_m176) [.inr (.inl 86)] [] rfl (by decide +kernel) rfl ⟨rfl, rfl⟩ rfl rfl (hs176 (fun c1 => ?_) (fun c1 => ?_))
  · have c1 : isDg (aHere m) := c1
    show hxn xs n yp_m193 14 [(0, .inr (.inl 86)), (1, .inl x1), (2, .inl x2)] [.inl 1] m Q
    refine hx_if .eq 59 (by decide +kernel) (fun c2 => ?_) (fun c2 => ?_)
    · have c2 : (1 : Int) = 0 := c2
      exfalso; omega
    · have c2 : (1 : Int) ≠ 0 := c2
      refine hx_blk (npc := 24) (L' := [(0, .inr (.inl 86)), (1, .inl x1), (2, .inl x2)]) (st' := [.inl (gx_w (x2 + x1)), .inl (m 86 5)]) (m' := m) [((17, .aload_n 0, 1, 0, 0, 0, 0), (0, 0, 0)), ((18, .getfield 132, 3, 10, 5, 5118, 0), (0, 86, 0)), ((21, .iload_n 2, 1, 0, 0, 0, 0), (0, 0, 0)), ((22, .iload_n 1, 1, 0, 0, 0, 0), (0, 0, 0)), ((23, .iadd, 1, 0, 0, 0, 0), (0, 0, 0))] (by decide +kernel) rfl ?_
      refine hx_cmp .ge 59 (by decide +kernel) (fun c2 => ?_) (fun c2 => ?_)
      · have c2 : (gx_w (x2 + x1)) ≤ (m 86 5) := c2
        refine hx_blk (npc := 64) (L' := [(0, .inr (.inl 86)), (1, .inl x1), (2, .inl x2)]) (st' := [.inl x2, .inl (m 86 5)]) (m' := m) [((59, .aload_n 0, 1, 0, 0, 0, 0), (0, 0, 0)), ((60, .getfield 132, 3, 10, 5, 5118, 0), (0, 86, 0)), ((63, .iload_n 2, 1, 0, 0, 0, 0), (0, 0, 0))] (by decide +kernel) rfl ?_
        refine hx_cmp .gt 79 (by decide +kernel) (fun c3 => ?_) (fun c3 => ?_)
        · have c3 : x2 < (m 86 5) := c3
          refine hx_blk (npc := 84) (L' := [(0, .inr (.inl 86)), (1, .inl x1), (2, .inl x2)]) (st' := [.inl 1]) (m' := m) [((79, .iconst 1, 1, 0, 0, 0, 0), (0, 0, 0)), ((80, .goto 4, 3, 0, 0, 0, 0), (0, 0, 0))] (by decide +kernel) rfl ?_
          exact hx_reti (by decide +kernel) (h1 c1 c2 c3)
        · have c3 : (m 86 5) ≤ x2 := by have h : ¬ (x2 < (m 86 5)) := c3; omega
          refine hx_blk (npc := 73) (L' := [(0, .inr (.inl 86)), (1, .inl x1), (2, .inl x2)]) (st' := [.inl (m 86 5), .inl 1, .inr (.inl 86)]) (m' := m) [((67, .aload_n 0, 1, 0, 0, 0, 0), (0, 0, 0)), ((68, .iconst 1, 1, 0, 0, 0, 0), (0, 0, 0)), ((69, .aload_n 0, 1, 0, 0, 0, 0), (0, 0, 0)), ((70, .getfield 132, 3, 10, 5, 5118, 0), (0, 86, 0))] (by decide +kernel) rfl ?_
          exact hx_call (E := (73, .invokevirtual 145, 3, 172, 0, 6061, 0)) (M' := yp_m172) [.inr (.inl 86), .inl 1, .inl (m 86 5)] [] rfl (by decide +kernel) rfl ⟨rfl, rfl⟩ rfl rfl (hx_mono (h2 c1 c2 c3) (fun r m' h' => hx_pick [] h'))
      · have c2 : (m 86 5) < (gx_w (x2 + x1)) := by have h : ¬ ((gx_w (x2 + x1)) ≤ (m 86 5)) := c2; omega
        refine hx_blk (npc := 36) (L' := [(0, .inr (.inl 86)), (1, .inl x1), (2, .inl x2)]) (st' := [.inr (.inl 86), .inl (gx_w (10 * (m 86 8))), .inr (.inl 86)]) (m' := m) [((27, .aload_n 0, 1, 0, 0, 0, 0), (0, 0, 0)), ((28, .bipush 10, 2, 0, 0, 0, 0), (0, 0, 0)), ((30, .aload_n 0, 1, 0, 0, 0, 0), (0, 0, 0)), ((31, .getfield 148, 3, 10, 8, 5121, 0), (0, 86, 0)), ((34, .imul, 1, 0, 0, 0, 0), (0, 0, 0)), ((35, .aload_n 0, 1, 0, 0, 0, 0), (0, 0, 0))] (by decide +kernel) rfl ?_
        refine hx_call (E := (36, .invokevirtual 138, 3, 170, 0, 6054, 0)) (M' := yp_m170) [.inr (.inl 86)] [.inl (gx_w (10 * (m 86 8))), .inr (.inl 86)] rfl (by decide +kernel) rfl ⟨rfl, rfl⟩ rfl rfl (hs170 ?_)
        show hxn xs n yp_m193 39 [(0, .inr (.inl 86)), (1, .inl x1), (2, .inl x2)] [.inl (aHere m), .inl (gx_w (10 * (m 86 8))), .inr (.inl 86)] m Q
        have e1 : gx_w ((m 86 5) + 1) = (m 86 5) + 1 := gx_w_id (by omega) (by omega)
        refine hx_blk (npc := 10) (L' := [(0, .inr (.inl 86)), (1, .inl x1), (2, .inl x2)]) (st' := []) (m' := (gx_u (gx_u m 86 8 (gx_w ((gx_w ((gx_w (10 * (m 86 8))) + (aHere m))) - 48))) 86 5 (gx_w ((m 86 5) + 1)))) [((39, .iadd, 1, 0, 0, 0, 0), (0, 0, 0)), ((40, .bipush 48, 2, 0, 0, 0, 0), (0, 0, 0)), ((42, .isub, 1, 0, 0, 0, 0), (0, 0, 0)), ((43, .putfield 148, 3, 10, 8, 5121, 0), (0, 86, 0)), ((46, .aload_n 0, 1, 0, 0, 0, 0), (0, 0, 0)), ((47, .aload_n 0, 1, 0, 0, 0, 0), (0, 0, 0)), ((48, .getfield 132, 3, 10, 5, 5118, 0), (0, 86, 0)), ((51, .iconst 1, 1, 0, 0, 0, 0), (0, 0, 0)), ((52, .iadd, 1, 0, 0, 0, 0), (0, 0, 0)), ((53, .putfield 132, 3, 10, 5, 5118, 0), (0, 86, 0)), ((56, .goto (-46), 3, 0, 0, 0, 0), (0, 0, 0))] (by decide +kernel) rfl ?_
        rw [e1]
        exact hx_pick [0, 1, 2] (h3 c1 c2)
  · have c1 : ¬ (isDg (aHere m)) := c1
    show hxn xs n yp_m193 14 [(0, .inr (.inl 86)), (1, .inl x1), (2, .inl x2)] [.inl 0] m Q
    refine hx_if .eq 59 (by decide +kernel) (fun c2 => ?_) (fun c2 => ?_)
    · have c2 : (0 : Int) = 0 := c2
      refine hx_blk (npc := 64) (L' := [(0, .inr (.inl 86)), (1, .inl x1), (2, .inl x2)]) (st' := [.inl x2, .inl (m 86 5)]) (m' := m) [((59, .aload_n 0, 1, 0, 0, 0, 0), (0, 0, 0)), ((60, .getfield 132, 3, 10, 5, 5118, 0), (0, 86, 0)), ((63, .iload_n 2, 1, 0, 0, 0, 0), (0, 0, 0))] (by decide +kernel) rfl ?_
      refine hx_cmp .gt 79 (by decide +kernel) (fun c2 => ?_) (fun c2 => ?_)
      · have c2 : x2 < (m 86 5) := c2
        refine hx_blk (npc := 84) (L' := [(0, .inr (.inl 86)), (1, .inl x1), (2, .inl x2)]) (st' := [.inl 1]) (m' := m) [((79, .iconst 1, 1, 0, 0, 0, 0), (0, 0, 0)), ((80, .goto 4, 3, 0, 0, 0, 0), (0, 0, 0))] (by decide +kernel) rfl ?_
        exact hx_reti (by decide +kernel) (h4 c1 c2)
      · have c2 : (m 86 5) ≤ x2 := by have h : ¬ (x2 < (m 86 5)) := c2; omega
        refine hx_blk (npc := 73) (L' := [(0, .inr (.inl 86)), (1, .inl x1), (2, .inl x2)]) (st' := [.inl (m 86 5), .inl 1, .inr (.inl 86)]) (m' := m) [((67, .aload_n 0, 1, 0, 0, 0, 0), (0, 0, 0)), ((68, .iconst 1, 1, 0, 0, 0, 0), (0, 0, 0)), ((69, .aload_n 0, 1, 0, 0, 0, 0), (0, 0, 0)), ((70, .getfield 132, 3, 10, 5, 5118, 0), (0, 86, 0))] (by decide +kernel) rfl ?_
        exact hx_call (E := (73, .invokevirtual 145, 3, 172, 0, 6061, 0)) (M' := yp_m172) [.inr (.inl 86), .inl 1, .inl (m 86 5)] [] rfl (by decide +kernel) rfl ⟨rfl, rfl⟩ rfl rfl (hx_mono (h5 c1 c2) (fun r m' h' => hx_pick [] h'))
    · have c2 : (0 : Int) ≠ 0 := c2
      exfalso; omega

/-- readsDigits from 76 on -/
theorem hr193_76 {xs : List Int32} {n : Nat} {Q : hQ} {m : gx_M} {s0 : Int}
    (h1 : (s0 = 0) → Q (some (.inl 0)) m)
    (h2 : (s0 ≠ 0) → Q (some (.inl 1)) m) : hxn xs (n + 1) yp_m193 76 [] [.inl s0] m Q := by
  refine hx_ifs .eq 83 (by decide +kernel) (fun c1 => ?_) (fun c1 => ?_)
  · have c1 : s0 = 0 := c1
    refine hx_blk (npc := 84) (L' := []) (st' := [.inl 0]) (m' := m) [((83, .iconst 0, 1, 0, 0, 0, 0), (0, 0, 0))] (by decide +kernel) rfl ?_
    exact hx_reti (by decide +kernel) (h1 c1)
  · have c1 : s0 ≠ 0 := c1
    refine hx_blk (npc := 84) (L' := []) (st' := [.inl 1]) (m' := m) [((79, .iconst 1, 1, 0, 0, 0, 0), (0, 0, 0)), ((80, .goto 4, 3, 0, 0, 0, 0), (0, 0, 0))] (by decide +kernel) rfl ?_
    exact hx_reti (by decide +kernel) (h2 c1)

/-- wrongAt from 0 on -/
theorem hr172_0 {xs : List Int32} {n : Nat} {Q : hQ} {m : gx_M} {x1 x2 : Int}
    (h1 : Q (some (.inl 0)) (gx_u m 86 7 (gx_w ((gx_w ((-1000) * x1)) - x2)))) : hxn xs (n + 1) yp_m172 0 [(0, .inr (.inl 86)), (1, .inl x1), (2, .inl x2)] [] m Q := by
  refine hx_blks (npc := 12) (L' := [(0, .inr (.inl 86)), (1, .inl x1), (2, .inl x2)]) (st' := [.inl 0]) (m' := (gx_u m 86 7 (gx_w ((gx_w ((-1000) * x1)) - x2)))) ((0, .aload_n 0, 1, 0, 0, 0, 0), (0, 0, 0)) [((1, .sipush (-1000), 3, 0, 0, 0, 0), (0, 0, 0)), ((4, .iload_n 1, 1, 0, 0, 0, 0), (0, 0, 0)), ((5, .imul, 1, 0, 0, 0, 0), (0, 0, 0)), ((6, .iload_n 2, 1, 0, 0, 0, 0), (0, 0, 0)), ((7, .isub, 1, 0, 0, 0, 0), (0, 0, 0)), ((8, .putfield 142, 3, 10, 7, 5120, 0), (0, 86, 0)), ((11, .iconst 0, 1, 0, 0, 0, 0), (0, 0, 0))] (by decide +kernel) rfl ?_
  exact hx_reti (by decide +kernel) h1

/-- readsAct from 0 on -/
theorem hr192_0 {xs : List Int32} {n : Nat} {Q : hQ} {m : gx_M}
    (h1 : (isDg (aHere m)) → ((m 86 32) ≠ 16) → hxn xs n yp_m193 0 [(0, .inr (.inl 86)), (1, .inl 2)] [] m (fun r m' => hxn xs n yp_m192 46 [(0, .inr (.inl 86)), (1, .inl (m 86 5))] (hrs r ++ []) m' Q))
    (h2 : (isDg (aHere m)) → ((m 86 32) = 16) → hxn xs n yp_m172 0 [(0, .inr (.inl 86)), (1, .inl 4), (2, .inl (m 86 5))] [] m (fun r m' => hxn xs n yp_m192 40 [] (hrs r ++ []) m' Q))
    (h3 : (¬ (isDg (aHere m))) → hxn xs n yp_m172 0 [(0, .inr (.inl 86)), (1, .inl 1), (2, .inl (m 86 5))] [] m (fun r m' => hxn xs n yp_m192 21 [] (hrs r ++ []) m' Q)) : hxn xs (n + 1) yp_m192 0 [(0, .inr (.inl 86))] [] m Q := by
  refine hx_blks (npc := 6) (L' := [(0, .inr (.inl 86)), (1, .inl (m 86 5))]) (st' := [.inr (.inl 86)]) (m' := m) ((0, .aload_n 0, 1, 0, 0, 0, 0), (0, 0, 0)) [((1, .getfield 132, 3, 10, 5, 5118, 0), (0, 86, 0)), ((4, .istore_n 1, 1, 0, 0, 0, 0), (0, 0, 0)), ((5, .aload_n 0, 1, 0, 0, 0, 0), (0, 0, 0))] (by decide +kernel) rfl ?_
  refine hx_call (E := (6, .invokevirtual 151, 3, 176, 0, 6078, 0)) (M' := yp_m176) [.inr (.inl 86)] [] rfl (by decide +kernel) rfl ⟨rfl, rfl⟩ rfl rfl (hs176 (fun c1 => ?_) (fun c1 => ?_))
  · have c1 : isDg (aHere m) := c1
    show hxn xs n yp_m192 9 [(0, .inr (.inl 86)), (1, .inl (m 86 5))] [.inl 1] m Q
    refine hx_if .ne 22 (by decide +kernel) (fun c2 => ?_) (fun c2 => ?_)
    · have c2 : (1 : Int) ≠ 0 := c2
      refine hx_blk (npc := 28) (L' := [(0, .inr (.inl 86)), (1, .inl (m 86 5))]) (st' := [.inl 16, .inl (m 86 32)]) (m' := m) [((22, .aload_n 0, 1, 0, 0, 0, 0), (0, 0, 0)), ((23, .getfield 254, 3, 10, 32, 5145, 0), (0, 86, 0)), ((26, .bipush 16, 2, 0, 0, 0, 0), (0, 0, 0))] (by decide +kernel) rfl ?_
      refine hx_cmp .ne 41 (by decide +kernel) (fun c2 => ?_) (fun c2 => ?_)
      · have c2 : (m 86 32) ≠ 16 := c2
        refine hx_blk (npc := 43) (L' := [(0, .inr (.inl 86)), (1, .inl (m 86 5))]) (st' := [.inl 2, .inr (.inl 86)]) (m' := m) [((41, .aload_n 0, 1, 0, 0, 0, 0), (0, 0, 0)), ((42, .iconst 2, 1, 0, 0, 0, 0), (0, 0, 0))] (by decide +kernel) rfl ?_
        exact hx_call (E := (43, .invokevirtual 257, 3, 193, 0, 6144, 0)) (M' := yp_m193) [.inr (.inl 86), .inl 2] [] rfl (by decide +kernel) rfl ⟨rfl, rfl⟩ rfl rfl (hx_mono (h1 c1 c2) (fun r m' h' => hx_pick [0, 1] h'))
      · have c2 : (m 86 32) = 16 := by have h : ¬ ((m 86 32) ≠ 16) := c2; omega
        refine hx_blk (npc := 37) (L' := [(0, .inr (.inl 86)), (1, .inl (m 86 5))]) (st' := [.inl (m 86 5), .inl 4, .inr (.inl 86)]) (m' := m) [((31, .aload_n 0, 1, 0, 0, 0, 0), (0, 0, 0)), ((32, .iconst 4, 1, 0, 0, 0, 0), (0, 0, 0)), ((33, .aload_n 0, 1, 0, 0, 0, 0), (0, 0, 0)), ((34, .getfield 132, 3, 10, 5, 5118, 0), (0, 86, 0))] (by decide +kernel) rfl ?_
        exact hx_call (E := (37, .invokevirtual 145, 3, 172, 0, 6061, 0)) (M' := yp_m172) [.inr (.inl 86), .inl 4, .inl (m 86 5)] [] rfl (by decide +kernel) rfl ⟨rfl, rfl⟩ rfl rfl (hx_mono (h2 c1 c2) (fun r m' h' => hx_pick [] h'))
    · have c2 : (1 : Int) = 0 := by have h : ¬ ((1 : Int) ≠ 0) := c2; omega
      exfalso; omega
  · have c1 : ¬ (isDg (aHere m)) := c1
    show hxn xs n yp_m192 9 [(0, .inr (.inl 86)), (1, .inl (m 86 5))] [.inl 0] m Q
    refine hx_if .ne 22 (by decide +kernel) (fun c2 => ?_) (fun c2 => ?_)
    · have c2 : (0 : Int) ≠ 0 := c2
      exfalso; omega
    · have c2 : (0 : Int) = 0 := by have h : ¬ ((0 : Int) ≠ 0) := c2; omega
      refine hx_blk (npc := 18) (L' := [(0, .inr (.inl 86)), (1, .inl (m 86 5))]) (st' := [.inl (m 86 5), .inl 1, .inr (.inl 86)]) (m' := m) [((12, .aload_n 0, 1, 0, 0, 0, 0), (0, 0, 0)), ((13, .iconst 1, 1, 0, 0, 0, 0), (0, 0, 0)), ((14, .aload_n 0, 1, 0, 0, 0, 0), (0, 0, 0)), ((15, .getfield 132, 3, 10, 5, 5118, 0), (0, 86, 0))] (by decide +kernel) rfl ?_
      exact hx_call (E := (18, .invokevirtual 145, 3, 172, 0, 6061, 0)) (M' := yp_m172) [.inr (.inl 86), .inl 1, .inl (m 86 5)] [] rfl (by decide +kernel) rfl ⟨rfl, rfl⟩ rfl rfl (hx_mono (h3 c1) (fun r m' h' => hx_pick [] h'))

/-- readsAct from 21 on -/
theorem hr192_21 {xs : List Int32} {n : Nat} {Q : hQ} {m : gx_M} {s0 : Int}
    (h1 : Q (some (.inl s0)) m) : hxn xs (n + 1) yp_m192 21 [] [.inl s0] m Q := by
  exact hx_reti (by decide +kernel) h1

/-- readsAct from 40 on -/
theorem hr192_40 {xs : List Int32} {n : Nat} {Q : hQ} {m : gx_M} {s0 : Int}
    (h1 : Q (some (.inl s0)) m) : hxn xs (n + 1) yp_m192 40 [] [.inl s0] m Q := by
  exact hx_reti (by decide +kernel) h1

/-- readsAct from 46 on -/
theorem hr192_46 {xs : List Int32} {n : Nat} {Q : hQ} {m : gx_M} {x1 s0 : Int}
    (h1 : ((m 86 8) < 40) → (isPn (aHere (gx_u m 104 (m 86 32).toNat (m 86 8)))) → hxn xs n yp_m170 0 [(0, .inr (.inl 86))] [] (gx_u m 104 (m 86 32).toNat (m 86 8)) (fun r m' => hxn xs n yp_m192 105 [(0, .inr (.inl 86))] (hrs r ++ [.inl (m 86 32), .inr (.inl 105)]) m' Q))
    (h2 : ((m 86 8) < 40) → (¬ (isPn (aHere (gx_u m 104 (m 86 32).toNat (m 86 8))))) → hxn xs n yp_m172 0 [(0, .inr (.inl 86)), (1, .inl 1), (2, .inl (m 86 5))] [] (gx_u m 104 (m 86 32).toNat (m 86 8)) (fun r m' => hxn xs n yp_m192 92 [] (hrs r ++ []) m' Q))
    (h3 : (40 ≤ (m 86 8)) → hxn xs n yp_m172 0 [(0, .inr (.inl 86)), (1, .inl 3), (2, .inl x1)] [] m (fun r m' => hxn xs n yp_m192 62 [] (hrs r ++ []) m' Q)) : hxn xs (n + 1) yp_m192 46 [(0, .inr (.inl 86)), (1, .inl x1)] [.inl s0] m Q := by
  refine hx_blks (npc := 53) (L' := [(0, .inr (.inl 86)), (1, .inl x1)]) (st' := [.inl 40, .inl (m 86 8)]) (m' := m) ((46, .pop, 1, 0, 0, 0, 0), (0, 0, 0)) [((47, .aload_n 0, 1, 0, 0, 0, 0), (0, 0, 0)), ((48, .getfield 148, 3, 10, 8, 5121, 0), (0, 86, 0)), ((51, .bipush 40, 2, 0, 0, 0, 0), (0, 0, 0))] (by decide +kernel) rfl ?_
  refine hx_cmp .lt 63 (by decide +kernel) (fun c1 => ?_) (fun c1 => ?_)
  · have c1 : (m 86 8) < 40 := c1
    refine hx_blk (npc := 77) (L' := [(0, .inr (.inl 86)), (1, .inl x1)]) (st' := [.inr (.inl 86)]) (m' := (gx_u m 104 (m 86 32).toNat (m 86 8))) [((63, .aload_n 0, 1, 0, 0, 0, 0), (0, 0, 0)), ((64, .getfield 62, 3, 10, 27, 5140, 0), (1, 86, 104)), ((67, .aload_n 0, 1, 0, 0, 0, 0), (0, 0, 0)), ((68, .getfield 254, 3, 10, 32, 5145, 0), (0, 86, 0)), ((71, .aload_n 0, 1, 0, 0, 0, 0), (0, 0, 0)), ((72, .getfield 148, 3, 10, 8, 5121, 0), (0, 86, 0)), ((75, .iastore, 1, 0, 0, 0, 0), (0, 104, 0)), ((76, .aload_n 0, 1, 0, 0, 0, 0), (0, 0, 0))] (by decide +kernel) rfl ?_
    refine hx_call (E := (77, .invokevirtual 260, 3, 194, 0, 6148, 0)) (M' := yp_m194) [.inr (.inl 86)] [] rfl (by decide +kernel) rfl ⟨rfl, rfl⟩ rfl rfl (hs194 (fun c2 => ?_) (fun c2 => ?_))
    · have c2 : isPn (aHere (gx_u m 104 (m 86 32).toNat (m 86 8))) := c2
      show hxn xs n yp_m192 80 [(0, .inr (.inl 86)), (1, .inl x1)] [.inl 1] (gx_u m 104 (m 86 32).toNat (m 86 8)) Q
      refine hx_if .ne 93 (by decide +kernel) (fun c3 => ?_) (fun c3 => ?_)
      · have c3 : (1 : Int) ≠ 0 := c3
        refine hx_blk (npc := 102) (L' := [(0, .inr (.inl 86)), (1, .inl x1)]) (st' := [.inr (.inl 86), .inl (m 86 32), .inr (.inl 105)]) (m' := (gx_u m 104 (m 86 32).toNat (m 86 8))) [((93, .aload_n 0, 1, 0, 0, 0, 0), (0, 0, 0)), ((94, .getfield 65, 3, 10, 28, 5141, 0), (1, 86, 105)), ((97, .aload_n 0, 1, 0, 0, 0, 0), (0, 0, 0)), ((98, .getfield 254, 3, 10, 32, 5145, 0), (0, 86, 0)), ((101, .aload_n 0, 1, 0, 0, 0, 0), (0, 0, 0))] (by decide +kernel) rfl ?_
        exact hx_call (E := (102, .invokevirtual 138, 3, 170, 0, 6054, 0)) (M' := yp_m170) [.inr (.inl 86)] [.inl (m 86 32), .inr (.inl 105)] rfl (by decide +kernel) rfl ⟨rfl, rfl⟩ rfl rfl (hx_mono (h1 c1 c2) (fun r m' h' => hx_pick [0] h'))
      · have c3 : (1 : Int) = 0 := by have h : ¬ ((1 : Int) ≠ 0) := c3; omega
        exfalso; omega
    · have c2 : ¬ (isPn (aHere (gx_u m 104 (m 86 32).toNat (m 86 8)))) := c2
      show hxn xs n yp_m192 80 [(0, .inr (.inl 86)), (1, .inl x1)] [.inl 0] (gx_u m 104 (m 86 32).toNat (m 86 8)) Q
      refine hx_if .ne 93 (by decide +kernel) (fun c3 => ?_) (fun c3 => ?_)
      · have c3 : (0 : Int) ≠ 0 := c3
        exfalso; omega
      · have c3 : (0 : Int) = 0 := by have h : ¬ ((0 : Int) ≠ 0) := c3; omega
        refine hx_blk (npc := 89) (L' := [(0, .inr (.inl 86)), (1, .inl x1)]) (st' := [.inl (m 86 5), .inl 1, .inr (.inl 86)]) (m' := (gx_u m 104 (m 86 32).toNat (m 86 8))) [((83, .aload_n 0, 1, 0, 0, 0, 0), (0, 0, 0)), ((84, .iconst 1, 1, 0, 0, 0, 0), (0, 0, 0)), ((85, .aload_n 0, 1, 0, 0, 0, 0), (0, 0, 0)), ((86, .getfield 132, 3, 10, 5, 5118, 0), (0, 86, 0))] (by decide +kernel) rfl ?_
        exact hx_call (E := (89, .invokevirtual 145, 3, 172, 0, 6061, 0)) (M' := yp_m172) [.inr (.inl 86), .inl 1, .inl (m 86 5)] [] rfl (by decide +kernel) rfl ⟨rfl, rfl⟩ rfl rfl (hx_mono (h2 c1 c2) (fun r m' h' => hx_pick [] h'))
  · have c1 : 40 ≤ (m 86 8) := by have h : ¬ ((m 86 8) < 40) := c1; omega
    refine hx_blk (npc := 59) (L' := [(0, .inr (.inl 86)), (1, .inl x1)]) (st' := [.inl x1, .inl 3, .inr (.inl 86)]) (m' := m) [((56, .aload_n 0, 1, 0, 0, 0, 0), (0, 0, 0)), ((57, .iconst 3, 1, 0, 0, 0, 0), (0, 0, 0)), ((58, .iload_n 1, 1, 0, 0, 0, 0), (0, 0, 0))] (by decide +kernel) rfl ?_
    exact hx_call (E := (59, .invokevirtual 145, 3, 172, 0, 6061, 0)) (M' := yp_m172) [.inr (.inl 86), .inl 3, .inl x1] [] rfl (by decide +kernel) rfl ⟨rfl, rfl⟩ rfl rfl (hx_mono (h3 c1) (fun r m' h' => hx_pick [] h'))

/-- readsAct from 62 on -/
theorem hr192_62 {xs : List Int32} {n : Nat} {Q : hQ} {m : gx_M} {s0 : Int}
    (h1 : Q (some (.inl s0)) m) : hxn xs (n + 1) yp_m192 62 [] [.inl s0] m Q := by
  exact hx_reti (by decide +kernel) h1

/-- readsAct from 92 on -/
theorem hr192_92 {xs : List Int32} {n : Nat} {Q : hQ} {m : gx_M} {s0 : Int}
    (h1 : Q (some (.inl s0)) m) : hxn xs (n + 1) yp_m192 92 [] [.inl s0] m Q := by
  exact hx_reti (by decide +kernel) h1

/-- readsAct from 105 on -/
theorem hr192_105 {xs : List Int32} {n : Nat} {Q : hQ} {m : gx_M} {s1 s2 : Int}
    (h1 : hxn xs n yp_m170 0 [(0, .inr (.inl 86))] [] (gx_u (gx_u m 105 (s1).toNat (gx_w (s2 - 97))) 86 5 (gx_w ((m 86 5) + 1))) (fun r m' => hxn xs n yp_m192 123 [(0, .inr (.inl 86))] (hrs r ++ []) m' Q)) : hxn xs (n + 1) yp_m192 105 [(0, .inr (.inl 86))] [.inl s2, .inl s1, .inr (.inl 105)] m Q := by
  refine hx_blks (npc := 120) (L' := [(0, .inr (.inl 86))]) (st' := [.inr (.inl 86)]) (m' := (gx_u (gx_u m 105 (s1).toNat (gx_w (s2 - 97))) 86 5 (gx_w ((m 86 5) + 1)))) ((105, .bipush 97, 2, 0, 0, 0, 0), (0, 0, 0)) [((107, .isub, 1, 0, 0, 0, 0), (0, 0, 0)), ((108, .iastore, 1, 0, 0, 0, 0), (0, 105, 0)), ((109, .aload_n 0, 1, 0, 0, 0, 0), (0, 0, 0)), ((110, .aload_n 0, 1, 0, 0, 0, 0), (0, 0, 0)), ((111, .getfield 132, 3, 10, 5, 5118, 0), (0, 86, 0)), ((114, .iconst 1, 1, 0, 0, 0, 0), (0, 0, 0)), ((115, .iadd, 1, 0, 0, 0, 0), (0, 0, 0)), ((116, .putfield 132, 3, 10, 5, 5118, 0), (0, 86, 0)), ((119, .aload_n 0, 1, 0, 0, 0, 0), (0, 0, 0))] (by decide +kernel) rfl ?_
  exact hx_call (E := (120, .invokevirtual 138, 3, 170, 0, 6054, 0)) (M' := yp_m170) [.inr (.inl 86)] [] rfl (by decide +kernel) rfl ⟨rfl, rfl⟩ rfl rfl (hx_mono h1 (fun r m' h' => hx_pick [0] h'))

/-- readsAct from 123 on -/
theorem hr192_123 {xs : List Int32} {n : Nat} {Q : hQ} {m : gx_M} {s0 : Int}
    (h1 : (s0 = 62) → (isPn (aHere (gx_u (gx_u m 106 (m 86 32).toNat s0) 86 5 (gx_w ((m 86 5) + 1))))) → hxn xs n yp_m170 0 [(0, .inr (.inl 86))] [] (gx_u (gx_u m 106 (m 86 32).toNat s0) 86 5 (gx_w ((m 86 5) + 1))) (fun r m' => hxn xs n yp_m192 207 [(0, .inr (.inl 86)), (2, .inl s0)] (hrs r ++ [.inl (m 86 32), .inr (.inl 107)]) m' Q))
    (h2 : (s0 = 62) → (¬ (isPn (aHere (gx_u (gx_u m 106 (m 86 32).toNat s0) 86 5 (gx_w ((m 86 5) + 1)))))) → hxn xs n yp_m172 0 [(0, .inr (.inl 86)), (1, .inl 1), (2, .inl (gx_w ((m 86 5) + 1)))] [] (gx_u (gx_u m 106 (m 86 32).toNat s0) 86 5 (gx_w ((m 86 5) + 1))) (fun r m' => hxn xs n yp_m192 194 [] (hrs r ++ []) m' Q))
    (h3 : (s0 ≠ 62) → (s0 = 93) → (isPn (aHere (gx_u (gx_u m 106 (m 86 32).toNat s0) 86 5 (gx_w ((m 86 5) + 1))))) → hxn xs n yp_m170 0 [(0, .inr (.inl 86))] [] (gx_u (gx_u m 106 (m 86 32).toNat s0) 86 5 (gx_w ((m 86 5) + 1))) (fun r m' => hxn xs n yp_m192 207 [(0, .inr (.inl 86)), (2, .inl s0)] (hrs r ++ [.inl (m 86 32), .inr (.inl 107)]) m' Q))
    (h4 : (s0 ≠ 62) → (s0 = 93) → (¬ (isPn (aHere (gx_u (gx_u m 106 (m 86 32).toNat s0) 86 5 (gx_w ((m 86 5) + 1)))))) → hxn xs n yp_m172 0 [(0, .inr (.inl 86)), (1, .inl 1), (2, .inl (gx_w ((m 86 5) + 1)))] [] (gx_u (gx_u m 106 (m 86 32).toNat s0) 86 5 (gx_w ((m 86 5) + 1))) (fun r m' => hxn xs n yp_m192 194 [] (hrs r ++ []) m' Q))
    (h5 : (s0 ≠ 62) → (s0 ≠ 93) → (s0 = 91) → (isPn (aHere (gx_u (gx_u m 106 (m 86 32).toNat s0) 86 5 (gx_w ((m 86 5) + 1))))) → hxn xs n yp_m170 0 [(0, .inr (.inl 86))] [] (gx_u (gx_u m 106 (m 86 32).toNat s0) 86 5 (gx_w ((m 86 5) + 1))) (fun r m' => hxn xs n yp_m192 207 [(0, .inr (.inl 86)), (2, .inl s0)] (hrs r ++ [.inl (m 86 32), .inr (.inl 107)]) m' Q))
    (h6 : (s0 ≠ 62) → (s0 ≠ 93) → (s0 = 91) → (¬ (isPn (aHere (gx_u (gx_u m 106 (m 86 32).toNat s0) 86 5 (gx_w ((m 86 5) + 1)))))) → hxn xs n yp_m172 0 [(0, .inr (.inl 86)), (1, .inl 1), (2, .inl (gx_w ((m 86 5) + 1)))] [] (gx_u (gx_u m 106 (m 86 32).toNat s0) 86 5 (gx_w ((m 86 5) + 1))) (fun r m' => hxn xs n yp_m192 194 [] (hrs r ++ []) m' Q))
    (h7 : (s0 ≠ 62) → (s0 ≠ 93) → (s0 ≠ 91) → (s0 = 61) → (isPn (aHere (gx_u (gx_u m 106 (m 86 32).toNat s0) 86 5 (gx_w ((m 86 5) + 1))))) → hxn xs n yp_m170 0 [(0, .inr (.inl 86))] [] (gx_u (gx_u m 106 (m 86 32).toNat s0) 86 5 (gx_w ((m 86 5) + 1))) (fun r m' => hxn xs n yp_m192 207 [(0, .inr (.inl 86)), (2, .inl s0)] (hrs r ++ [.inl (m 86 32), .inr (.inl 107)]) m' Q))
    (h8 : (s0 ≠ 62) → (s0 ≠ 93) → (s0 ≠ 91) → (s0 = 61) → (¬ (isPn (aHere (gx_u (gx_u m 106 (m 86 32).toNat s0) 86 5 (gx_w ((m 86 5) + 1)))))) → hxn xs n yp_m172 0 [(0, .inr (.inl 86)), (1, .inl 1), (2, .inl (gx_w ((m 86 5) + 1)))] [] (gx_u (gx_u m 106 (m 86 32).toNat s0) 86 5 (gx_w ((m 86 5) + 1))) (fun r m' => hxn xs n yp_m192 194 [] (hrs r ++ []) m' Q))
    (h9 : (s0 ≠ 62) → (s0 ≠ 93) → (s0 ≠ 91) → (s0 ≠ 61) → hxn xs n yp_m172 0 [(0, .inr (.inl 86)), (1, .inl 1), (2, .inl (m 86 5))] [] m (fun r m' => hxn xs n yp_m192 157 [] (hrs r ++ []) m' Q)) : hxn xs (n + 1) yp_m192 123 [(0, .inr (.inl 86))] [.inl s0] m Q := by
  refine hx_blks (npc := 127) (L' := [(0, .inr (.inl 86)), (2, .inl s0)]) (st' := [.inl 62, .inl s0]) (m' := m) ((123, .istore_n 2, 1, 0, 0, 0, 0), (0, 0, 0)) [((124, .iload_n 2, 1, 0, 0, 0, 0), (0, 0, 0)), ((125, .bipush 62, 2, 0, 0, 0, 0), (0, 0, 0))] (by decide +kernel) rfl ?_
  refine hx_cmp .eq 158 (by decide +kernel) (fun c1 => ?_) (fun c1 => ?_)
  · have c1 : s0 = 62 := c1
    refine hx_blk (npc := 179) (L' := [(0, .inr (.inl 86)), (2, .inl s0)]) (st' := [.inr (.inl 86)]) (m' := (gx_u (gx_u m 106 (m 86 32).toNat s0) 86 5 (gx_w ((m 86 5) + 1)))) [((158, .aload_n 0, 1, 0, 0, 0, 0), (0, 0, 0)), ((159, .getfield 68, 3, 10, 29, 5142, 0), (1, 86, 106)), ((162, .aload_n 0, 1, 0, 0, 0, 0), (0, 0, 0)), ((163, .getfield 254, 3, 10, 32, 5145, 0), (0, 86, 0)), ((166, .iload_n 2, 1, 0, 0, 0, 0), (0, 0, 0)), ((167, .iastore, 1, 0, 0, 0, 0), (0, 106, 0)), ((168, .aload_n 0, 1, 0, 0, 0, 0), (0, 0, 0)), ((169, .aload_n 0, 1, 0, 0, 0, 0), (0, 0, 0)), ((170, .getfield 132, 3, 10, 5, 5118, 0), (0, 86, 0)), ((173, .iconst 1, 1, 0, 0, 0, 0), (0, 0, 0)), ((174, .iadd, 1, 0, 0, 0, 0), (0, 0, 0)), ((175, .putfield 132, 3, 10, 5, 5118, 0), (0, 86, 0)), ((178, .aload_n 0, 1, 0, 0, 0, 0), (0, 0, 0))] (by decide +kernel) rfl ?_
    refine hx_call (E := (179, .invokevirtual 260, 3, 194, 0, 6148, 0)) (M' := yp_m194) [.inr (.inl 86)] [] rfl (by decide +kernel) rfl ⟨rfl, rfl⟩ rfl rfl (hs194 (fun c2 => ?_) (fun c2 => ?_))
    · have c2 : isPn (aHere (gx_u (gx_u m 106 (m 86 32).toNat s0) 86 5 (gx_w ((m 86 5) + 1)))) := c2
      show hxn xs n yp_m192 182 [(0, .inr (.inl 86)), (2, .inl s0)] [.inl 1] (gx_u (gx_u m 106 (m 86 32).toNat s0) 86 5 (gx_w ((m 86 5) + 1))) Q
      refine hx_if .ne 195 (by decide +kernel) (fun c3 => ?_) (fun c3 => ?_)
      · have c3 : (1 : Int) ≠ 0 := c3
        refine hx_blk (npc := 204) (L' := [(0, .inr (.inl 86)), (2, .inl s0)]) (st' := [.inr (.inl 86), .inl (m 86 32), .inr (.inl 107)]) (m' := (gx_u (gx_u m 106 (m 86 32).toNat s0) 86 5 (gx_w ((m 86 5) + 1)))) [((195, .aload_n 0, 1, 0, 0, 0, 0), (0, 0, 0)), ((196, .getfield 71, 3, 10, 30, 5143, 0), (1, 86, 107)), ((199, .aload_n 0, 1, 0, 0, 0, 0), (0, 0, 0)), ((200, .getfield 254, 3, 10, 32, 5145, 0), (0, 86, 0)), ((203, .aload_n 0, 1, 0, 0, 0, 0), (0, 0, 0))] (by decide +kernel) rfl ?_
        exact hx_call (E := (204, .invokevirtual 138, 3, 170, 0, 6054, 0)) (M' := yp_m170) [.inr (.inl 86)] [.inl (m 86 32), .inr (.inl 107)] rfl (by decide +kernel) rfl ⟨rfl, rfl⟩ rfl rfl (hx_mono (h1 c1 c2) (fun r m' h' => hx_pick [0, 2] h'))
      · have c3 : (1 : Int) = 0 := by have h : ¬ ((1 : Int) ≠ 0) := c3; omega
        exfalso; omega
    · have c2 : ¬ (isPn (aHere (gx_u (gx_u m 106 (m 86 32).toNat s0) 86 5 (gx_w ((m 86 5) + 1))))) := c2
      show hxn xs n yp_m192 182 [(0, .inr (.inl 86)), (2, .inl s0)] [.inl 0] (gx_u (gx_u m 106 (m 86 32).toNat s0) 86 5 (gx_w ((m 86 5) + 1))) Q
      refine hx_if .ne 195 (by decide +kernel) (fun c3 => ?_) (fun c3 => ?_)
      · have c3 : (0 : Int) ≠ 0 := c3
        exfalso; omega
      · have c3 : (0 : Int) = 0 := by have h : ¬ ((0 : Int) ≠ 0) := c3; omega
        refine hx_blk (npc := 191) (L' := [(0, .inr (.inl 86)), (2, .inl s0)]) (st' := [.inl (gx_w ((m 86 5) + 1)), .inl 1, .inr (.inl 86)]) (m' := (gx_u (gx_u m 106 (m 86 32).toNat s0) 86 5 (gx_w ((m 86 5) + 1)))) [((185, .aload_n 0, 1, 0, 0, 0, 0), (0, 0, 0)), ((186, .iconst 1, 1, 0, 0, 0, 0), (0, 0, 0)), ((187, .aload_n 0, 1, 0, 0, 0, 0), (0, 0, 0)), ((188, .getfield 132, 3, 10, 5, 5118, 0), (0, 86, 0))] (by decide +kernel) rfl ?_
        exact hx_call (E := (191, .invokevirtual 145, 3, 172, 0, 6061, 0)) (M' := yp_m172) [.inr (.inl 86), .inl 1, .inl (gx_w ((m 86 5) + 1))] [] rfl (by decide +kernel) rfl ⟨rfl, rfl⟩ rfl rfl (hx_mono (h2 c1 c2) (fun r m' h' => hx_pick [] h'))
  · have c1 : s0 ≠ 62 := c1
    refine hx_blk (npc := 133) (L' := [(0, .inr (.inl 86)), (2, .inl s0)]) (st' := [.inl 93, .inl s0]) (m' := m) [((130, .iload_n 2, 1, 0, 0, 0, 0), (0, 0, 0)), ((131, .bipush 93, 2, 0, 0, 0, 0), (0, 0, 0))] (by decide +kernel) rfl ?_
    refine hx_cmp .eq 158 (by decide +kernel) (fun c2 => ?_) (fun c2 => ?_)
    · have c2 : s0 = 93 := c2
      refine hx_blk (npc := 179) (L' := [(0, .inr (.inl 86)), (2, .inl s0)]) (st' := [.inr (.inl 86)]) (m' := (gx_u (gx_u m 106 (m 86 32).toNat s0) 86 5 (gx_w ((m 86 5) + 1)))) [((158, .aload_n 0, 1, 0, 0, 0, 0), (0, 0, 0)), ((159, .getfield 68, 3, 10, 29, 5142, 0), (1, 86, 106)), ((162, .aload_n 0, 1, 0, 0, 0, 0), (0, 0, 0)), ((163, .getfield 254, 3, 10, 32, 5145, 0), (0, 86, 0)), ((166, .iload_n 2, 1, 0, 0, 0, 0), (0, 0, 0)), ((167, .iastore, 1, 0, 0, 0, 0), (0, 106, 0)), ((168, .aload_n 0, 1, 0, 0, 0, 0), (0, 0, 0)), ((169, .aload_n 0, 1, 0, 0, 0, 0), (0, 0, 0)), ((170, .getfield 132, 3, 10, 5, 5118, 0), (0, 86, 0)), ((173, .iconst 1, 1, 0, 0, 0, 0), (0, 0, 0)), ((174, .iadd, 1, 0, 0, 0, 0), (0, 0, 0)), ((175, .putfield 132, 3, 10, 5, 5118, 0), (0, 86, 0)), ((178, .aload_n 0, 1, 0, 0, 0, 0), (0, 0, 0))] (by decide +kernel) rfl ?_
      refine hx_call (E := (179, .invokevirtual 260, 3, 194, 0, 6148, 0)) (M' := yp_m194) [.inr (.inl 86)] [] rfl (by decide +kernel) rfl ⟨rfl, rfl⟩ rfl rfl (hs194 (fun c3 => ?_) (fun c3 => ?_))
      · have c3 : isPn (aHere (gx_u (gx_u m 106 (m 86 32).toNat s0) 86 5 (gx_w ((m 86 5) + 1)))) := c3
        show hxn xs n yp_m192 182 [(0, .inr (.inl 86)), (2, .inl s0)] [.inl 1] (gx_u (gx_u m 106 (m 86 32).toNat s0) 86 5 (gx_w ((m 86 5) + 1))) Q
        refine hx_if .ne 195 (by decide +kernel) (fun c4 => ?_) (fun c4 => ?_)
        · have c4 : (1 : Int) ≠ 0 := c4
          refine hx_blk (npc := 204) (L' := [(0, .inr (.inl 86)), (2, .inl s0)]) (st' := [.inr (.inl 86), .inl (m 86 32), .inr (.inl 107)]) (m' := (gx_u (gx_u m 106 (m 86 32).toNat s0) 86 5 (gx_w ((m 86 5) + 1)))) [((195, .aload_n 0, 1, 0, 0, 0, 0), (0, 0, 0)), ((196, .getfield 71, 3, 10, 30, 5143, 0), (1, 86, 107)), ((199, .aload_n 0, 1, 0, 0, 0, 0), (0, 0, 0)), ((200, .getfield 254, 3, 10, 32, 5145, 0), (0, 86, 0)), ((203, .aload_n 0, 1, 0, 0, 0, 0), (0, 0, 0))] (by decide +kernel) rfl ?_
          exact hx_call (E := (204, .invokevirtual 138, 3, 170, 0, 6054, 0)) (M' := yp_m170) [.inr (.inl 86)] [.inl (m 86 32), .inr (.inl 107)] rfl (by decide +kernel) rfl ⟨rfl, rfl⟩ rfl rfl (hx_mono (h3 c1 c2 c3) (fun r m' h' => hx_pick [0, 2] h'))
        · have c4 : (1 : Int) = 0 := by have h : ¬ ((1 : Int) ≠ 0) := c4; omega
          exfalso; omega
      · have c3 : ¬ (isPn (aHere (gx_u (gx_u m 106 (m 86 32).toNat s0) 86 5 (gx_w ((m 86 5) + 1))))) := c3
        show hxn xs n yp_m192 182 [(0, .inr (.inl 86)), (2, .inl s0)] [.inl 0] (gx_u (gx_u m 106 (m 86 32).toNat s0) 86 5 (gx_w ((m 86 5) + 1))) Q
        refine hx_if .ne 195 (by decide +kernel) (fun c4 => ?_) (fun c4 => ?_)
        · have c4 : (0 : Int) ≠ 0 := c4
          exfalso; omega
        · have c4 : (0 : Int) = 0 := by have h : ¬ ((0 : Int) ≠ 0) := c4; omega
          refine hx_blk (npc := 191) (L' := [(0, .inr (.inl 86)), (2, .inl s0)]) (st' := [.inl (gx_w ((m 86 5) + 1)), .inl 1, .inr (.inl 86)]) (m' := (gx_u (gx_u m 106 (m 86 32).toNat s0) 86 5 (gx_w ((m 86 5) + 1)))) [((185, .aload_n 0, 1, 0, 0, 0, 0), (0, 0, 0)), ((186, .iconst 1, 1, 0, 0, 0, 0), (0, 0, 0)), ((187, .aload_n 0, 1, 0, 0, 0, 0), (0, 0, 0)), ((188, .getfield 132, 3, 10, 5, 5118, 0), (0, 86, 0))] (by decide +kernel) rfl ?_
          exact hx_call (E := (191, .invokevirtual 145, 3, 172, 0, 6061, 0)) (M' := yp_m172) [.inr (.inl 86), .inl 1, .inl (gx_w ((m 86 5) + 1))] [] rfl (by decide +kernel) rfl ⟨rfl, rfl⟩ rfl rfl (hx_mono (h4 c1 c2 c3) (fun r m' h' => hx_pick [] h'))
    · have c2 : s0 ≠ 93 := c2
      refine hx_blk (npc := 139) (L' := [(0, .inr (.inl 86)), (2, .inl s0)]) (st' := [.inl 91, .inl s0]) (m' := m) [((136, .iload_n 2, 1, 0, 0, 0, 0), (0, 0, 0)), ((137, .bipush 91, 2, 0, 0, 0, 0), (0, 0, 0))] (by decide +kernel) rfl ?_
      refine hx_cmp .eq 158 (by decide +kernel) (fun c3 => ?_) (fun c3 => ?_)
      · have c3 : s0 = 91 := c3
        refine hx_blk (npc := 179) (L' := [(0, .inr (.inl 86)), (2, .inl s0)]) (st' := [.inr (.inl 86)]) (m' := (gx_u (gx_u m 106 (m 86 32).toNat s0) 86 5 (gx_w ((m 86 5) + 1)))) [((158, .aload_n 0, 1, 0, 0, 0, 0), (0, 0, 0)), ((159, .getfield 68, 3, 10, 29, 5142, 0), (1, 86, 106)), ((162, .aload_n 0, 1, 0, 0, 0, 0), (0, 0, 0)), ((163, .getfield 254, 3, 10, 32, 5145, 0), (0, 86, 0)), ((166, .iload_n 2, 1, 0, 0, 0, 0), (0, 0, 0)), ((167, .iastore, 1, 0, 0, 0, 0), (0, 106, 0)), ((168, .aload_n 0, 1, 0, 0, 0, 0), (0, 0, 0)), ((169, .aload_n 0, 1, 0, 0, 0, 0), (0, 0, 0)), ((170, .getfield 132, 3, 10, 5, 5118, 0), (0, 86, 0)), ((173, .iconst 1, 1, 0, 0, 0, 0), (0, 0, 0)), ((174, .iadd, 1, 0, 0, 0, 0), (0, 0, 0)), ((175, .putfield 132, 3, 10, 5, 5118, 0), (0, 86, 0)), ((178, .aload_n 0, 1, 0, 0, 0, 0), (0, 0, 0))] (by decide +kernel) rfl ?_
        refine hx_call (E := (179, .invokevirtual 260, 3, 194, 0, 6148, 0)) (M' := yp_m194) [.inr (.inl 86)] [] rfl (by decide +kernel) rfl ⟨rfl, rfl⟩ rfl rfl (hs194 (fun c4 => ?_) (fun c4 => ?_))
        · have c4 : isPn (aHere (gx_u (gx_u m 106 (m 86 32).toNat s0) 86 5 (gx_w ((m 86 5) + 1)))) := c4
          show hxn xs n yp_m192 182 [(0, .inr (.inl 86)), (2, .inl s0)] [.inl 1] (gx_u (gx_u m 106 (m 86 32).toNat s0) 86 5 (gx_w ((m 86 5) + 1))) Q
          refine hx_if .ne 195 (by decide +kernel) (fun c5 => ?_) (fun c5 => ?_)
          · have c5 : (1 : Int) ≠ 0 := c5
            refine hx_blk (npc := 204) (L' := [(0, .inr (.inl 86)), (2, .inl s0)]) (st' := [.inr (.inl 86), .inl (m 86 32), .inr (.inl 107)]) (m' := (gx_u (gx_u m 106 (m 86 32).toNat s0) 86 5 (gx_w ((m 86 5) + 1)))) [((195, .aload_n 0, 1, 0, 0, 0, 0), (0, 0, 0)), ((196, .getfield 71, 3, 10, 30, 5143, 0), (1, 86, 107)), ((199, .aload_n 0, 1, 0, 0, 0, 0), (0, 0, 0)), ((200, .getfield 254, 3, 10, 32, 5145, 0), (0, 86, 0)), ((203, .aload_n 0, 1, 0, 0, 0, 0), (0, 0, 0))] (by decide +kernel) rfl ?_
            exact hx_call (E := (204, .invokevirtual 138, 3, 170, 0, 6054, 0)) (M' := yp_m170) [.inr (.inl 86)] [.inl (m 86 32), .inr (.inl 107)] rfl (by decide +kernel) rfl ⟨rfl, rfl⟩ rfl rfl (hx_mono (h5 c1 c2 c3 c4) (fun r m' h' => hx_pick [0, 2] h'))
          · have c5 : (1 : Int) = 0 := by have h : ¬ ((1 : Int) ≠ 0) := c5; omega
            exfalso; omega
        · have c4 : ¬ (isPn (aHere (gx_u (gx_u m 106 (m 86 32).toNat s0) 86 5 (gx_w ((m 86 5) + 1))))) := c4
          show hxn xs n yp_m192 182 [(0, .inr (.inl 86)), (2, .inl s0)] [.inl 0] (gx_u (gx_u m 106 (m 86 32).toNat s0) 86 5 (gx_w ((m 86 5) + 1))) Q
          refine hx_if .ne 195 (by decide +kernel) (fun c5 => ?_) (fun c5 => ?_)
          · have c5 : (0 : Int) ≠ 0 := c5
            exfalso; omega
          · have c5 : (0 : Int) = 0 := by have h : ¬ ((0 : Int) ≠ 0) := c5; omega
            refine hx_blk (npc := 191) (L' := [(0, .inr (.inl 86)), (2, .inl s0)]) (st' := [.inl (gx_w ((m 86 5) + 1)), .inl 1, .inr (.inl 86)]) (m' := (gx_u (gx_u m 106 (m 86 32).toNat s0) 86 5 (gx_w ((m 86 5) + 1)))) [((185, .aload_n 0, 1, 0, 0, 0, 0), (0, 0, 0)), ((186, .iconst 1, 1, 0, 0, 0, 0), (0, 0, 0)), ((187, .aload_n 0, 1, 0, 0, 0, 0), (0, 0, 0)), ((188, .getfield 132, 3, 10, 5, 5118, 0), (0, 86, 0))] (by decide +kernel) rfl ?_
            exact hx_call (E := (191, .invokevirtual 145, 3, 172, 0, 6061, 0)) (M' := yp_m172) [.inr (.inl 86), .inl 1, .inl (gx_w ((m 86 5) + 1))] [] rfl (by decide +kernel) rfl ⟨rfl, rfl⟩ rfl rfl (hx_mono (h6 c1 c2 c3 c4) (fun r m' h' => hx_pick [] h'))
      · have c3 : s0 ≠ 91 := c3
        refine hx_blk (npc := 145) (L' := [(0, .inr (.inl 86)), (2, .inl s0)]) (st' := [.inl 61, .inl s0]) (m' := m) [((142, .iload_n 2, 1, 0, 0, 0, 0), (0, 0, 0)), ((143, .bipush 61, 2, 0, 0, 0, 0), (0, 0, 0))] (by decide +kernel) rfl ?_
        refine hx_cmp .eq 158 (by decide +kernel) (fun c4 => ?_) (fun c4 => ?_)
        · have c4 : s0 = 61 := c4
          refine hx_blk (npc := 179) (L' := [(0, .inr (.inl 86)), (2, .inl s0)]) (st' := [.inr (.inl 86)]) (m' := (gx_u (gx_u m 106 (m 86 32).toNat s0) 86 5 (gx_w ((m 86 5) + 1)))) [((158, .aload_n 0, 1, 0, 0, 0, 0), (0, 0, 0)), ((159, .getfield 68, 3, 10, 29, 5142, 0), (1, 86, 106)), ((162, .aload_n 0, 1, 0, 0, 0, 0), (0, 0, 0)), ((163, .getfield 254, 3, 10, 32, 5145, 0), (0, 86, 0)), ((166, .iload_n 2, 1, 0, 0, 0, 0), (0, 0, 0)), ((167, .iastore, 1, 0, 0, 0, 0), (0, 106, 0)), ((168, .aload_n 0, 1, 0, 0, 0, 0), (0, 0, 0)), ((169, .aload_n 0, 1, 0, 0, 0, 0), (0, 0, 0)), ((170, .getfield 132, 3, 10, 5, 5118, 0), (0, 86, 0)), ((173, .iconst 1, 1, 0, 0, 0, 0), (0, 0, 0)), ((174, .iadd, 1, 0, 0, 0, 0), (0, 0, 0)), ((175, .putfield 132, 3, 10, 5, 5118, 0), (0, 86, 0)), ((178, .aload_n 0, 1, 0, 0, 0, 0), (0, 0, 0))] (by decide +kernel) rfl ?_
          refine hx_call (E := (179, .invokevirtual 260, 3, 194, 0, 6148, 0)) (M' := yp_m194) [.inr (.inl 86)] [] rfl (by decide +kernel) rfl ⟨rfl, rfl⟩ rfl rfl (hs194 (fun c5 => ?_) (fun c5 => ?_))
          · have c5 : isPn (aHere (gx_u (gx_u m 106 (m 86 32).toNat s0) 86 5 (gx_w ((m 86 5) + 1)))) := c5
            show hxn xs n yp_m192 182 [(0, .inr (.inl 86)), (2, .inl s0)] [.inl 1] (gx_u (gx_u m 106 (m 86 32).toNat s0) 86 5 (gx_w ((m 86 5) + 1))) Q
            refine hx_if .ne 195 (by decide +kernel) (fun c6 => ?_) (fun c6 => ?_)
            · have c6 : (1 : Int) ≠ 0 := c6
              refine hx_blk (npc := 204) (L' := [(0, .inr (.inl 86)), (2, .inl s0)]) (st' := [.inr (.inl 86), .inl (m 86 32), .inr (.inl 107)]) (m' := (gx_u (gx_u m 106 (m 86 32).toNat s0) 86 5 (gx_w ((m 86 5) + 1)))) [((195, .aload_n 0, 1, 0, 0, 0, 0), (0, 0, 0)), ((196, .getfield 71, 3, 10, 30, 5143, 0), (1, 86, 107)), ((199, .aload_n 0, 1, 0, 0, 0, 0), (0, 0, 0)), ((200, .getfield 254, 3, 10, 32, 5145, 0), (0, 86, 0)), ((203, .aload_n 0, 1, 0, 0, 0, 0), (0, 0, 0))] (by decide +kernel) rfl ?_
              exact hx_call (E := (204, .invokevirtual 138, 3, 170, 0, 6054, 0)) (M' := yp_m170) [.inr (.inl 86)] [.inl (m 86 32), .inr (.inl 107)] rfl (by decide +kernel) rfl ⟨rfl, rfl⟩ rfl rfl (hx_mono (h7 c1 c2 c3 c4 c5) (fun r m' h' => hx_pick [0, 2] h'))
            · have c6 : (1 : Int) = 0 := by have h : ¬ ((1 : Int) ≠ 0) := c6; omega
              exfalso; omega
          · have c5 : ¬ (isPn (aHere (gx_u (gx_u m 106 (m 86 32).toNat s0) 86 5 (gx_w ((m 86 5) + 1))))) := c5
            show hxn xs n yp_m192 182 [(0, .inr (.inl 86)), (2, .inl s0)] [.inl 0] (gx_u (gx_u m 106 (m 86 32).toNat s0) 86 5 (gx_w ((m 86 5) + 1))) Q
            refine hx_if .ne 195 (by decide +kernel) (fun c6 => ?_) (fun c6 => ?_)
            · have c6 : (0 : Int) ≠ 0 := c6
              exfalso; omega
            · have c6 : (0 : Int) = 0 := by have h : ¬ ((0 : Int) ≠ 0) := c6; omega
              refine hx_blk (npc := 191) (L' := [(0, .inr (.inl 86)), (2, .inl s0)]) (st' := [.inl (gx_w ((m 86 5) + 1)), .inl 1, .inr (.inl 86)]) (m' := (gx_u (gx_u m 106 (m 86 32).toNat s0) 86 5 (gx_w ((m 86 5) + 1)))) [((185, .aload_n 0, 1, 0, 0, 0, 0), (0, 0, 0)), ((186, .iconst 1, 1, 0, 0, 0, 0), (0, 0, 0)), ((187, .aload_n 0, 1, 0, 0, 0, 0), (0, 0, 0)), ((188, .getfield 132, 3, 10, 5, 5118, 0), (0, 86, 0))] (by decide +kernel) rfl ?_
              exact hx_call (E := (191, .invokevirtual 145, 3, 172, 0, 6061, 0)) (M' := yp_m172) [.inr (.inl 86), .inl 1, .inl (gx_w ((m 86 5) + 1))] [] rfl (by decide +kernel) rfl ⟨rfl, rfl⟩ rfl rfl (hx_mono (h8 c1 c2 c3 c4 c5) (fun r m' h' => hx_pick [] h'))
        · have c4 : s0 ≠ 61 := c4
          refine hx_blk (npc := 154) (L' := [(0, .inr (.inl 86)), (2, .inl s0)]) (st' := [.inl (m 86 5), .inl 1, .inr (.inl 86)]) (m' := m) [((148, .aload_n 0, 1, 0, 0, 0, 0), (0, 0, 0)), ((149, .iconst 1, 1, 0, 0, 0, 0), (0, 0, 0)), ((150, .aload_n 0, 1, 0, 0, 0, 0), (0, 0, 0)), ((151, .getfield 132, 3, 10, 5, 5118, 0), (0, 86, 0))] (by decide +kernel) rfl ?_
          exact hx_call (E := (154, .invokevirtual 145, 3, 172, 0, 6061, 0)) (M' := yp_m172) [.inr (.inl 86), .inl 1, .inl (m 86 5)] [] rfl (by decide +kernel) rfl ⟨rfl, rfl⟩ rfl rfl (hx_mono (h9 c1 c2 c3 c4) (fun r m' h' => hx_pick [] h'))

/-- readsAct from 157 on -/
theorem hr192_157 {xs : List Int32} {n : Nat} {Q : hQ} {m : gx_M} {s0 : Int}
    (h1 : Q (some (.inl s0)) m) : hxn xs (n + 1) yp_m192 157 [] [.inl s0] m Q := by
  exact hx_reti (by decide +kernel) h1

/-- readsAct from 194 on -/
theorem hr192_194 {xs : List Int32} {n : Nat} {Q : hQ} {m : gx_M} {s0 : Int}
    (h1 : Q (some (.inl s0)) m) : hxn xs (n + 1) yp_m192 194 [] [.inl s0] m Q := by
  exact hx_reti (by decide +kernel) h1

/-- readsAct from 207 on -/
theorem hr192_207 {xs : List Int32} {n : Nat} {Q : hQ} {m : gx_M} {x2 s1 s2 : Int}
    (h1 : (((gx_u m 107 (s1).toNat (gx_w (s2 - 97))) 107 (m 86 32).toNat) ≠ (m 105 (m 86 32).toNat)) → (x2 = 62) → hxn xs n yp_m193 0 [(0, .inr (.inl 86)), (1, .inl 4)] [] (gx_u (gx_u (gx_u m 107 (s1).toNat (gx_w (s2 - 97))) 86 5 (gx_w ((m 86 5) + 1))) 108 (m 86 32).toNat 0) (fun r m' => hxn xs n yp_m192 280 [(0, .inr (.inl 86))] (hrs r ++ []) m' Q))
    (h2 : (((gx_u m 107 (s1).toNat (gx_w (s2 - 97))) 107 (m 86 32).toNat) ≠ (m 105 (m 86 32).toNat)) → (x2 ≠ 62) → (x2 ≠ 93) → Q (some (.inl 1)) (gx_u (gx_u (gx_u (gx_u m 107 (s1).toNat (gx_w (s2 - 97))) 86 5 (gx_w ((m 86 5) + 1))) 108 (m 86 32).toNat 0) 86 32 (gx_w ((m 86 32) + 1))))
    (h3 : (((gx_u m 107 (s1).toNat (gx_w (s2 - 97))) 107 (m 86 32).toNat) ≠ (m 105 (m 86 32).toNat)) → (x2 ≠ 62) → (x2 = 93) → hxn xs n yp_m193 0 [(0, .inr (.inl 86)), (1, .inl 4)] [] (gx_u (gx_u (gx_u m 107 (s1).toNat (gx_w (s2 - 97))) 86 5 (gx_w ((m 86 5) + 1))) 108 (m 86 32).toNat 0) (fun r m' => hxn xs n yp_m192 280 [(0, .inr (.inl 86))] (hrs r ++ []) m' Q))
    (h4 : (((gx_u m 107 (s1).toNat (gx_w (s2 - 97))) 107 (m 86 32).toNat) = (m 105 (m 86 32).toNat)) → hxn xs n yp_m172 0 [(0, .inr (.inl 86)), (1, .inl 6), (2, .inl (m 86 5))] [] (gx_u m 107 (s1).toNat (gx_w (s2 - 97))) (fun r m' => hxn xs n yp_m192 242 [] (hrs r ++ []) m' Q)) : hxn xs (n + 1) yp_m192 207 [(0, .inr (.inl 86)), (2, .inl x2)] [.inl s2, .inl s1, .inr (.inl 107)] m Q := by
  refine hx_blks (npc := 229) (L' := [(0, .inr (.inl 86)), (2, .inl x2)]) (st' := [.inl (m 105 (m 86 32).toNat), .inl ((gx_u m 107 (s1).toNat (gx_w (s2 - 97))) 107 (m 86 32).toNat)]) (m' := (gx_u m 107 (s1).toNat (gx_w (s2 - 97)))) ((207, .bipush 97, 2, 0, 0, 0, 0), (0, 0, 0)) [((209, .isub, 1, 0, 0, 0, 0), (0, 0, 0)), ((210, .iastore, 1, 0, 0, 0, 0), (0, 107, 0)), ((211, .aload_n 0, 1, 0, 0, 0, 0), (0, 0, 0)), ((212, .getfield 71, 3, 10, 30, 5143, 0), (1, 86, 107)), ((215, .aload_n 0, 1, 0, 0, 0, 0), (0, 0, 0)), ((216, .getfield 254, 3, 10, 32, 5145, 0), (0, 86, 0)), ((219, .iaload, 1, 0, 0, 0, 0), (0, 107, 0)), ((220, .aload_n 0, 1, 0, 0, 0, 0), (0, 0, 0)), ((221, .getfield 65, 3, 10, 28, 5141, 0), (1, 86, 105)), ((224, .aload_n 0, 1, 0, 0, 0, 0), (0, 0, 0)), ((225, .getfield 254, 3, 10, 32, 5145, 0), (0, 86, 0)), ((228, .iaload, 1, 0, 0, 0, 0), (0, 105, 0))] (by decide +kernel) rfl ?_
  refine hx_cmp .ne 243 (by decide +kernel) (fun c1 => ?_) (fun c1 => ?_)
  · have c1 : ((gx_u m 107 (s1).toNat (gx_w (s2 - 97))) 107 (m 86 32).toNat) ≠ (m 105 (m 86 32).toNat) := c1
    refine hx_blk (npc := 266) (L' := [(0, .inr (.inl 86)), (2, .inl x2)]) (st' := [.inl 62, .inl x2]) (m' := (gx_u (gx_u (gx_u m 107 (s1).toNat (gx_w (s2 - 97))) 86 5 (gx_w ((m 86 5) + 1))) 108 (m 86 32).toNat 0)) [((243, .aload_n 0, 1, 0, 0, 0, 0), (0, 0, 0)), ((244, .aload_n 0, 1, 0, 0, 0, 0), (0, 0, 0)), ((245, .getfield 132, 3, 10, 5, 5118, 0), (0, 86, 0)), ((248, .iconst 1, 1, 0, 0, 0, 0), (0, 0, 0)), ((249, .iadd, 1, 0, 0, 0, 0), (0, 0, 0)), ((250, .putfield 132, 3, 10, 5, 5118, 0), (0, 86, 0)), ((253, .aload_n 0, 1, 0, 0, 0, 0), (0, 0, 0)), ((254, .getfield 74, 3, 10, 31, 5144, 0), (1, 86, 108)), ((257, .aload_n 0, 1, 0, 0, 0, 0), (0, 0, 0)), ((258, .getfield 254, 3, 10, 32, 5145, 0), (0, 86, 0)), ((261, .iconst 0, 1, 0, 0, 0, 0), (0, 0, 0)), ((262, .iastore, 1, 0, 0, 0, 0), (0, 108, 0)), ((263, .iload_n 2, 1, 0, 0, 0, 0), (0, 0, 0)), ((264, .bipush 62, 2, 0, 0, 0, 0), (0, 0, 0))] (by decide +kernel) rfl ?_
    refine hx_cmp .eq 275 (by decide +kernel) (fun c2 => ?_) (fun c2 => ?_)
    · have c2 : x2 = 62 := c2
      refine hx_blk (npc := 277) (L' := [(0, .inr (.inl 86)), (2, .inl x2)]) (st' := [.inl 4, .inr (.inl 86)]) (m' := (gx_u (gx_u (gx_u m 107 (s1).toNat (gx_w (s2 - 97))) 86 5 (gx_w ((m 86 5) + 1))) 108 (m 86 32).toNat 0)) [((275, .aload_n 0, 1, 0, 0, 0, 0), (0, 0, 0)), ((276, .iconst 4, 1, 0, 0, 0, 0), (0, 0, 0))] (by decide +kernel) rfl ?_
      exact hx_call (E := (277, .invokevirtual 257, 3, 193, 0, 6144, 0)) (M' := yp_m193) [.inr (.inl 86), .inl 4] [] rfl (by decide +kernel) rfl ⟨rfl, rfl⟩ rfl rfl (hx_mono (h1 c1 c2) (fun r m' h' => hx_pick [0] h'))
    · have c2 : x2 ≠ 62 := c2
      refine hx_blk (npc := 272) (L' := [(0, .inr (.inl 86)), (2, .inl x2)]) (st' := [.inl 93, .inl x2]) (m' := (gx_u (gx_u (gx_u m 107 (s1).toNat (gx_w (s2 - 97))) 86 5 (gx_w ((m 86 5) + 1))) 108 (m 86 32).toNat 0)) [((269, .iload_n 2, 1, 0, 0, 0, 0), (0, 0, 0)), ((270, .bipush 93, 2, 0, 0, 0, 0), (0, 0, 0))] (by decide +kernel) rfl ?_
      refine hx_cmp .ne 298 (by decide +kernel) (fun c3 => ?_) (fun c3 => ?_)
      · have c3 : x2 ≠ 93 := c3
        refine hx_blk (npc := 309) (L' := [(0, .inr (.inl 86)), (2, .inl x2)]) (st' := [.inl 1]) (m' := (gx_u (gx_u (gx_u (gx_u m 107 (s1).toNat (gx_w (s2 - 97))) 86 5 (gx_w ((m 86 5) + 1))) 108 (m 86 32).toNat 0) 86 32 (gx_w ((m 86 32) + 1)))) [((298, .aload_n 0, 1, 0, 0, 0, 0), (0, 0, 0)), ((299, .aload_n 0, 1, 0, 0, 0, 0), (0, 0, 0)), ((300, .getfield 254, 3, 10, 32, 5145, 0), (0, 86, 0)), ((303, .iconst 1, 1, 0, 0, 0, 0), (0, 0, 0)), ((304, .iadd, 1, 0, 0, 0, 0), (0, 0, 0)), ((305, .putfield 254, 3, 10, 32, 5145, 0), (0, 86, 0)), ((308, .iconst 1, 1, 0, 0, 0, 0), (0, 0, 0))] (by decide +kernel) rfl ?_
        exact hx_reti (by decide +kernel) (h2 c1 c2 c3)
      · have c3 : x2 = 93 := by have h : ¬ (x2 ≠ 93) := c3; omega
        refine hx_blk (npc := 277) (L' := [(0, .inr (.inl 86)), (2, .inl x2)]) (st' := [.inl 4, .inr (.inl 86)]) (m' := (gx_u (gx_u (gx_u m 107 (s1).toNat (gx_w (s2 - 97))) 86 5 (gx_w ((m 86 5) + 1))) 108 (m 86 32).toNat 0)) [((275, .aload_n 0, 1, 0, 0, 0, 0), (0, 0, 0)), ((276, .iconst 4, 1, 0, 0, 0, 0), (0, 0, 0))] (by decide +kernel) rfl ?_
        exact hx_call (E := (277, .invokevirtual 257, 3, 193, 0, 6144, 0)) (M' := yp_m193) [.inr (.inl 86), .inl 4] [] rfl (by decide +kernel) rfl ⟨rfl, rfl⟩ rfl rfl (hx_mono (h3 c1 c2 c3) (fun r m' h' => hx_pick [0] h'))
  · have c1 : ((gx_u m 107 (s1).toNat (gx_w (s2 - 97))) 107 (m 86 32).toNat) = (m 105 (m 86 32).toNat) := by have h : ¬ (((gx_u m 107 (s1).toNat (gx_w (s2 - 97))) 107 (m 86 32).toNat) ≠ (m 105 (m 86 32).toNat)) := c1; omega
    refine hx_blk (npc := 239) (L' := [(0, .inr (.inl 86)), (2, .inl x2)]) (st' := [.inl (m 86 5), .inl 6, .inr (.inl 86)]) (m' := (gx_u m 107 (s1).toNat (gx_w (s2 - 97)))) [((232, .aload_n 0, 1, 0, 0, 0, 0), (0, 0, 0)), ((233, .bipush 6, 2, 0, 0, 0, 0), (0, 0, 0)), ((235, .aload_n 0, 1, 0, 0, 0, 0), (0, 0, 0)), ((236, .getfield 132, 3, 10, 5, 5118, 0), (0, 86, 0))] (by decide +kernel) rfl ?_
    exact hx_call (E := (239, .invokevirtual 145, 3, 172, 0, 6061, 0)) (M' := yp_m172) [.inr (.inl 86), .inl 6, .inl (m 86 5)] [] rfl (by decide +kernel) rfl ⟨rfl, rfl⟩ rfl rfl (hx_mono (h4 c1) (fun r m' h' => hx_pick [] h'))

/-- readsAct from 242 on -/
theorem hr192_242 {xs : List Int32} {n : Nat} {Q : hQ} {m : gx_M} {s0 : Int}
    (h1 : Q (some (.inl s0)) m) : hxn xs (n + 1) yp_m192 242 [] [.inl s0] m Q := by
  exact hx_reti (by decide +kernel) h1

/-- readsAct from 280 on -/
theorem hr192_280 {xs : List Int32} {n : Nat} {Q : hQ} {m : gx_M} {s0 : Int}
    (h1 : (s0 ≠ 0) → Q (some (.inl 1)) (gx_u (gx_u m 108 (m 86 32).toNat (m 86 8)) 86 32 (gx_w ((m 86 32) + 1))))
    (h2 : (s0 = 0) → Q (some (.inl 0)) m) : hxn xs (n + 1) yp_m192 280 [(0, .inr (.inl 86))] [.inl s0] m Q := by
  refine hx_ifs .ne 285 (by decide +kernel) (fun c1 => ?_) (fun c1 => ?_)
  · have c1 : s0 ≠ 0 := c1
    refine hx_blk (npc := 309) (L' := [(0, .inr (.inl 86))]) (st' := [.inl 1]) (m' := (gx_u (gx_u m 108 (m 86 32).toNat (m 86 8)) 86 32 (gx_w ((m 86 32) + 1)))) [((285, .aload_n 0, 1, 0, 0, 0, 0), (0, 0, 0)), ((286, .getfield 74, 3, 10, 31, 5144, 0), (1, 86, 108)), ((289, .aload_n 0, 1, 0, 0, 0, 0), (0, 0, 0)), ((290, .getfield 254, 3, 10, 32, 5145, 0), (0, 86, 0)), ((293, .aload_n 0, 1, 0, 0, 0, 0), (0, 0, 0)), ((294, .getfield 148, 3, 10, 8, 5121, 0), (0, 86, 0)), ((297, .iastore, 1, 0, 0, 0, 0), (0, 108, 0)), ((298, .aload_n 0, 1, 0, 0, 0, 0), (0, 0, 0)), ((299, .aload_n 0, 1, 0, 0, 0, 0), (0, 0, 0)), ((300, .getfield 254, 3, 10, 32, 5145, 0), (0, 86, 0)), ((303, .iconst 1, 1, 0, 0, 0, 0), (0, 0, 0)), ((304, .iadd, 1, 0, 0, 0, 0), (0, 0, 0)), ((305, .putfield 254, 3, 10, 32, 5145, 0), (0, 86, 0)), ((308, .iconst 1, 1, 0, 0, 0, 0), (0, 0, 0))] (by decide +kernel) rfl ?_
    exact hx_reti (by decide +kernel) (h1 c1)
  · have c1 : s0 = 0 := by have h : ¬ (s0 ≠ 0) := c1; omega
    refine hx_blk (npc := 284) (L' := [(0, .inr (.inl 86))]) (st' := [.inl 0]) (m' := m) [((283, .iconst 0, 1, 0, 0, 0, 0), (0, 0, 0))] (by decide +kernel) rfl ?_
    exact hx_reti (by decide +kernel) (h2 c1)

/-- readsActs from 0 on -/
theorem hr191_0 {xs : List Int32} {n : Nat} {Q : hQ} {m : gx_M} {x1 : Int}
    (h1 : hxn xs n yp_m192 0 [(0, .inr (.inl 86))] [] (gx_u (gx_u (gx_u m 86 5 0) 86 6 x1) 86 32 0) (fun r m' => hxn xs n yp_m191 19 [(0, .inr (.inl 86))] (hrs r ++ []) m' Q)) : hxn xs (n + 1) yp_m191 0 [(0, .inr (.inl 86)), (1, .inl x1)] [] m Q := by
  refine hx_blks (npc := 16) (L' := [(0, .inr (.inl 86)), (1, .inl x1)]) (st' := [.inr (.inl 86)]) (m' := (gx_u (gx_u (gx_u m 86 5 0) 86 6 x1) 86 32 0)) ((0, .aload_n 0, 1, 0, 0, 0, 0), (0, 0, 0)) [((1, .iconst 0, 1, 0, 0, 0, 0), (0, 0, 0)), ((2, .putfield 132, 3, 10, 5, 5118, 0), (0, 86, 0)), ((5, .aload_n 0, 1, 0, 0, 0, 0), (0, 0, 0)), ((6, .iload_n 1, 1, 0, 0, 0, 0), (0, 0, 0)), ((7, .putfield 135, 3, 10, 6, 5119, 0), (0, 86, 0)), ((10, .aload_n 0, 1, 0, 0, 0, 0), (0, 0, 0)), ((11, .iconst 0, 1, 0, 0, 0, 0), (0, 0, 0)), ((12, .putfield 254, 3, 10, 32, 5145, 0), (0, 86, 0)), ((15, .aload_n 0, 1, 0, 0, 0, 0), (0, 0, 0))] (by decide +kernel) rfl ?_
  exact hx_call (E := (16, .invokevirtual 263, 3, 192, 0, 6140, 0)) (M' := yp_m192) [.inr (.inl 86)] [] rfl (by decide +kernel) rfl ⟨rfl, rfl⟩ rfl rfl (hx_mono h1 (fun r m' h' => hx_pick [0] h'))

/-- readsActs from 19 on -/
theorem hr191_19 {xs : List Int32} {n : Nat} {Q : hQ} {m : gx_M} {s0 : Int}
    (h1 : hxn xs n yp_m191 20 [(0, .inr (.inl 86)), (2, .inl s0)] [] m Q) : hxn xs (n + 1) yp_m191 19 [(0, .inr (.inl 86))] [.inl s0] m Q := by
  refine hx_blks (npc := 20) (L' := [(0, .inr (.inl 86)), (2, .inl s0)]) (st' := []) (m' := m) ((19, .istore_n 2, 1, 0, 0, 0, 0), (0, 0, 0)) [] (by decide +kernel) rfl ?_
  exact hx_pick [0, 2] h1

/-- readsActs from 20 on -/
theorem hr191_20 {xs : List Int32} {n : Nat} {Q : hQ} {m : gx_M} {x2 : Int}
    (h1 : (x2 = 0) → Q (some (.inl x2)) (gx_u m 86 4 0))
    (h2 : (x2 ≠ 0) → ((m 86 6) ≤ (m 86 5)) → Q (some (.inl x2)) (gx_u m 86 4 0))
    (h3 : (x2 ≠ 0) → ((m 86 5) < (m 86 6)) → hxn xs n yp_m189 0 [(0, .inr (.inl 86)), (1, .inl 59)] [] m (fun r m' => hxn xs n yp_m191 41 [(0, .inr (.inl 86))] (hrs r ++ []) m' Q)) : hxn xs (n + 1) yp_m191 20 [(0, .inr (.inl 86)), (2, .inl x2)] [] m Q := by
  refine hx_blks (npc := 21) (L' := [(0, .inr (.inl 86)), (2, .inl x2)]) (st' := [.inl x2]) (m' := m) ((20, .iload_n 2, 1, 0, 0, 0, 0), (0, 0, 0)) [] (by decide +kernel) rfl ?_
  refine hx_if .eq 60 (by decide +kernel) (fun c1 => ?_) (fun c1 => ?_)
  · have c1 : x2 = 0 := c1
    refine hx_blk (npc := 66) (L' := [(0, .inr (.inl 86)), (2, .inl x2)]) (st' := [.inl x2]) (m' := (gx_u m 86 4 0)) [((60, .aload_n 0, 1, 0, 0, 0, 0), (0, 0, 0)), ((61, .iconst 0, 1, 0, 0, 0, 0), (0, 0, 0)), ((62, .putfield 124, 3, 10, 4, 5117, 0), (0, 86, 0)), ((65, .iload_n 2, 1, 0, 0, 0, 0), (0, 0, 0))] (by decide +kernel) rfl ?_
    exact hx_reti (by decide +kernel) (h1 c1)
  · have c1 : x2 ≠ 0 := c1
    refine hx_blk (npc := 32) (L' := [(0, .inr (.inl 86)), (2, .inl x2)]) (st' := [.inl (m 86 6), .inl (m 86 5)]) (m' := m) [((24, .aload_n 0, 1, 0, 0, 0, 0), (0, 0, 0)), ((25, .getfield 132, 3, 10, 5, 5118, 0), (0, 86, 0)), ((28, .aload_n 0, 1, 0, 0, 0, 0), (0, 0, 0)), ((29, .getfield 135, 3, 10, 6, 5119, 0), (0, 86, 0))] (by decide +kernel) rfl ?_
    refine hx_cmp .ge 60 (by decide +kernel) (fun c2 => ?_) (fun c2 => ?_)
    · have c2 : (m 86 6) ≤ (m 86 5) := c2
      refine hx_blk (npc := 66) (L' := [(0, .inr (.inl 86)), (2, .inl x2)]) (st' := [.inl x2]) (m' := (gx_u m 86 4 0)) [((60, .aload_n 0, 1, 0, 0, 0, 0), (0, 0, 0)), ((61, .iconst 0, 1, 0, 0, 0, 0), (0, 0, 0)), ((62, .putfield 124, 3, 10, 4, 5117, 0), (0, 86, 0)), ((65, .iload_n 2, 1, 0, 0, 0, 0), (0, 0, 0))] (by decide +kernel) rfl ?_
      exact hx_reti (by decide +kernel) (h2 c1 c2)
    · have c2 : (m 86 5) < (m 86 6) := by have h : ¬ ((m 86 6) ≤ (m 86 5)) := c2; omega
      refine hx_blk (npc := 38) (L' := [(0, .inr (.inl 86)), (2, .inl x2)]) (st' := [.inl 59, .inr (.inl 86)]) (m' := m) [((35, .aload_n 0, 1, 0, 0, 0, 0), (0, 0, 0)), ((36, .bipush 59, 2, 0, 0, 0, 0), (0, 0, 0))] (by decide +kernel) rfl ?_
      exact hx_call (E := (38, .invokevirtual 222, 3, 189, 0, 6128, 0)) (M' := yp_m189) [.inr (.inl 86), .inl 59] [] rfl (by decide +kernel) rfl ⟨rfl, rfl⟩ rfl rfl (hx_mono (h3 c1 c2) (fun r m' h' => hx_pick [0] h'))

/-- readsActs from 41 on -/
theorem hr191_41 {xs : List Int32} {n : Nat} {Q : hQ} {m : gx_M} {s0 : Int}
    (h1 : (s0 = 0) → hxn xs n yp_m191 20 [(0, .inr (.inl 86)), (2, .inl 0)] [] m Q)
    (h2 : (s0 ≠ 0) → hxn xs n yp_m192 0 [(0, .inr (.inl 86))] [] m (fun r m' => hxn xs n yp_m191 48 [(0, .inr (.inl 86))] (hrs r ++ []) m' Q)) : hxn xs (n + 1) yp_m191 41 [(0, .inr (.inl 86))] [.inl s0] m Q := by
  refine hx_ifs .eq 55 (by decide +kernel) (fun c1 => ?_) (fun c1 => ?_)
  · have c1 : s0 = 0 := c1
    refine hx_blk (npc := 20) (L' := [(0, .inr (.inl 86)), (2, .inl 0)]) (st' := []) (m' := m) [((55, .iconst 0, 1, 0, 0, 0, 0), (0, 0, 0)), ((56, .istore_n 2, 1, 0, 0, 0, 0), (0, 0, 0)), ((57, .goto (-37), 3, 0, 0, 0, 0), (0, 0, 0))] (by decide +kernel) rfl ?_
    exact hx_pick [0, 2] (h1 c1)
  · have c1 : s0 ≠ 0 := c1
    refine hx_blk (npc := 45) (L' := [(0, .inr (.inl 86))]) (st' := [.inr (.inl 86)]) (m' := m) [((44, .aload_n 0, 1, 0, 0, 0, 0), (0, 0, 0))] (by decide +kernel) rfl ?_
    exact hx_call (E := (45, .invokevirtual 263, 3, 192, 0, 6140, 0)) (M' := yp_m192) [.inr (.inl 86)] [] rfl (by decide +kernel) rfl ⟨rfl, rfl⟩ rfl rfl (hx_mono (h2 c1) (fun r m' h' => hx_pick [0] h'))

/-- readsActs from 48 on -/
theorem hr191_48 {xs : List Int32} {n : Nat} {Q : hQ} {m : gx_M} {s0 : Int}
    (h1 : (s0 = 0) → hxn xs n yp_m191 20 [(0, .inr (.inl 86)), (2, .inl 0)] [] m Q)
    (h2 : (s0 ≠ 0) → hxn xs n yp_m191 20 [(0, .inr (.inl 86)), (2, .inl 1)] [] m Q) : hxn xs (n + 1) yp_m191 48 [(0, .inr (.inl 86))] [.inl s0] m Q := by
  refine hx_ifs .eq 55 (by decide +kernel) (fun c1 => ?_) (fun c1 => ?_)
  · have c1 : s0 = 0 := c1
    refine hx_blk (npc := 20) (L' := [(0, .inr (.inl 86)), (2, .inl 0)]) (st' := []) (m' := m) [((55, .iconst 0, 1, 0, 0, 0, 0), (0, 0, 0)), ((56, .istore_n 2, 1, 0, 0, 0, 0), (0, 0, 0)), ((57, .goto (-37), 3, 0, 0, 0, 0), (0, 0, 0))] (by decide +kernel) rfl ?_
    exact hx_pick [0, 2] (h1 c1)
  · have c1 : s0 ≠ 0 := c1
    refine hx_blk (npc := 20) (L' := [(0, .inr (.inl 86)), (2, .inl 1)]) (st' := []) (m' := m) [((51, .iconst 1, 1, 0, 0, 0, 0), (0, 0, 0)), ((52, .goto 4, 3, 0, 0, 0, 0), (0, 0, 0)), ((56, .istore_n 2, 1, 0, 0, 0, 0), (0, 0, 0)), ((57, .goto (-37), 3, 0, 0, 0, 0), (0, 0, 0))] (by decide +kernel) rfl ?_
    exact hx_pick [0, 2] (h2 c1)

/-- deals from 0 on -/
theorem hr190_0 {xs : List Int32} {n : Nat} {Q : hQ} {m : gx_M} {x1 : Int}
    (h1 : (1 ≤ x1 ∧ x1 ≤ 160) → (x1 ≤ (m 86 4)) → hxn xs n yp_m191 0 [(0, .inr (.inl 86)), (1, .inl x1)] [] m (fun r m' => hxn xs n yp_m190 26 [(0, .inr (.inl 86))] (hrs r ++ []) m' Q))
    (h2 : (1 ≤ x1 ∧ x1 ≤ 160) → ((m 86 4) < x1) → Q (some (.inl (-1))) m)
    (h3 : (¬ (1 ≤ x1 ∧ x1 ≤ 160)) → Q (some (.inl (-1))) m) : hxn xs (n + 1) yp_m190 0 [(0, .inr (.inl 86)), (1, .inl x1)] [] m Q := by
  refine hx_blks (npc := 5) (L' := [(0, .inr (.inl 86)), (1, .inl x1)]) (st' := [.inl 160, .inl 1, .inl x1]) (m' := m) ((0, .iload_n 1, 1, 0, 0, 0, 0), (0, 0, 0)) [((1, .iconst 1, 1, 0, 0, 0, 0), (0, 0, 0)), ((2, .sipush 160, 3, 0, 0, 0, 0), (0, 0, 0))] (by decide +kernel) rfl ?_
  refine hx_call (E := (5, .invokestatic 108, 3, 162, 0, 6023, 0)) (M' := yp_m162) [.inl x1, .inl 1, .inl 160] [] rfl (by decide +kernel) rfl ⟨rfl, rfl⟩ rfl rfl (hs162 (fun c1 => ?_) (fun c1 => ?_))
  · have c1 : 1 ≤ x1 ∧ x1 ≤ 160 := c1
    show hxn xs n yp_m190 8 [(0, .inr (.inl 86)), (1, .inl x1)] [.inl 1] m Q
    refine hx_if .eq 19 (by decide +kernel) (fun c2 => ?_) (fun c2 => ?_)
    · have c2 : (1 : Int) = 0 := c2
      exfalso; omega
    · have c2 : (1 : Int) ≠ 0 := c2
      refine hx_blk (npc := 16) (L' := [(0, .inr (.inl 86)), (1, .inl x1)]) (st' := [.inl (m 86 4), .inl x1]) (m' := m) [((11, .iload_n 1, 1, 0, 0, 0, 0), (0, 0, 0)), ((12, .aload_n 0, 1, 0, 0, 0, 0), (0, 0, 0)), ((13, .getfield 124, 3, 10, 4, 5117, 0), (0, 86, 0))] (by decide +kernel) rfl ?_
      refine hx_cmp .le 21 (by decide +kernel) (fun c2 => ?_) (fun c2 => ?_)
      · have c2 : x1 ≤ (m 86 4) := c2
        refine hx_blk (npc := 23) (L' := [(0, .inr (.inl 86)), (1, .inl x1)]) (st' := [.inl x1, .inr (.inl 86)]) (m' := m) [((21, .aload_n 0, 1, 0, 0, 0, 0), (0, 0, 0)), ((22, .iload_n 1, 1, 0, 0, 0, 0), (0, 0, 0))] (by decide +kernel) rfl ?_
        exact hx_call (E := (23, .invokevirtual 284, 3, 191, 0, 6136, 0)) (M' := yp_m191) [.inr (.inl 86), .inl x1] [] rfl (by decide +kernel) rfl ⟨rfl, rfl⟩ rfl rfl (hx_mono (h1 c1 c2) (fun r m' h' => hx_pick [0] h'))
      · have c2 : (m 86 4) < x1 := by have h : ¬ (x1 ≤ (m 86 4)) := c2; omega
        refine hx_blk (npc := 20) (L' := [(0, .inr (.inl 86)), (1, .inl x1)]) (st' := [.inl (-1)]) (m' := m) [((19, .iconst (-1), 1, 0, 0, 0, 0), (0, 0, 0))] (by decide +kernel) rfl ?_
        exact hx_reti (by decide +kernel) (h2 c1 c2)
  · have c1 : ¬ (1 ≤ x1 ∧ x1 ≤ 160) := c1
    show hxn xs n yp_m190 8 [(0, .inr (.inl 86)), (1, .inl x1)] [.inl 0] m Q
    refine hx_if .eq 19 (by decide +kernel) (fun c2 => ?_) (fun c2 => ?_)
    · have c2 : (0 : Int) = 0 := c2
      refine hx_blk (npc := 20) (L' := [(0, .inr (.inl 86)), (1, .inl x1)]) (st' := [.inl (-1)]) (m' := m) [((19, .iconst (-1), 1, 0, 0, 0, 0), (0, 0, 0))] (by decide +kernel) rfl ?_
      exact hx_reti (by decide +kernel) (h3 c1)
    · have c2 : (0 : Int) ≠ 0 := c2
      exfalso; omega

/-- deals from 26 on -/
theorem hr190_26 {xs : List Int32} {n : Nat} {Q : hQ} {m : gx_M} {s0 : Int}
    (h1 : (s0 ≠ 0) → hxn xs n yp_m190 38 [(0, .inr (.inl 86)), (2, .inl 0), (3, .inl 0)] [] m Q)
    (h2 : (s0 = 0) → Q (some (.inl (m 86 7))) m) : hxn xs (n + 1) yp_m190 26 [(0, .inr (.inl 86))] [.inl s0] m Q := by
  refine hx_ifs .ne 34 (by decide +kernel) (fun c1 => ?_) (fun c1 => ?_)
  · have c1 : s0 ≠ 0 := c1
    refine hx_blk (npc := 38) (L' := [(0, .inr (.inl 86)), (2, .inl 0), (3, .inl 0)]) (st' := []) (m' := m) [((34, .iconst 0, 1, 0, 0, 0, 0), (0, 0, 0)), ((35, .istore_n 2, 1, 0, 0, 0, 0), (0, 0, 0)), ((36, .iconst 0, 1, 0, 0, 0, 0), (0, 0, 0)), ((37, .istore_n 3, 1, 0, 0, 0, 0), (0, 0, 0))] (by decide +kernel) rfl ?_
    exact hx_pick [0, 2, 3] (h1 c1)
  · have c1 : s0 = 0 := by have h : ¬ (s0 ≠ 0) := c1; omega
    refine hx_blk (npc := 33) (L' := [(0, .inr (.inl 86))]) (st' := [.inl (m 86 7)]) (m' := m) [((29, .aload_n 0, 1, 0, 0, 0, 0), (0, 0, 0)), ((30, .getfield 142, 3, 10, 7, 5120, 0), (0, 86, 0))] (by decide +kernel) rfl ?_
    exact hx_reti (by decide +kernel) (h2 c1)

/-- deals from 38 on -/
theorem hr190_38 {xs : List Int32} {n : Nat} {Q : hQ} {m : gx_M} {x2 x3 : Int}
    (h1 : ((m 86 32) ≤ x3) → Q (some (.inl x2)) m)
    (h2 : (x3 < (m 86 32)) → hxn xs n yp_m195 0 [(0, .inr (.inl 86)), (1, .inl x3)] [] m (fun r m' => hxn xs n yp_m190 52 [(0, .inr (.inl 86)), (3, .inl x3)] (hrs r ++ [.inl x2]) m' Q)) : hxn xs (n + 1) yp_m190 38 [(0, .inr (.inl 86)), (2, .inl x2), (3, .inl x3)] [] m Q := by
  refine hx_blks (npc := 43) (L' := [(0, .inr (.inl 86)), (2, .inl x2), (3, .inl x3)]) (st' := [.inl (m 86 32), .inl x3]) (m' := m) ((38, .iload_n 3, 1, 0, 0, 0, 0), (0, 0, 0)) [((39, .aload_n 0, 1, 0, 0, 0, 0), (0, 0, 0)), ((40, .getfield 254, 3, 10, 32, 5145, 0), (0, 86, 0))] (by decide +kernel) rfl ?_
  refine hx_cmp .ge 68 (by decide +kernel) (fun c1 => ?_) (fun c1 => ?_)
  · have c1 : (m 86 32) ≤ x3 := c1
    refine hx_blk (npc := 69) (L' := [(0, .inr (.inl 86)), (2, .inl x2), (3, .inl x3)]) (st' := [.inl x2]) (m' := m) [((68, .iload_n 2, 1, 0, 0, 0, 0), (0, 0, 0))] (by decide +kernel) rfl ?_
    exact hx_reti (by decide +kernel) (h1 c1)
  · have c1 : x3 < (m 86 32) := by have h : ¬ ((m 86 32) ≤ x3) := c1; omega
    refine hx_blk (npc := 49) (L' := [(0, .inr (.inl 86)), (2, .inl x2), (3, .inl x3)]) (st' := [.inl x3, .inr (.inl 86), .inl x2]) (m' := m) [((46, .iload_n 2, 1, 0, 0, 0, 0), (0, 0, 0)), ((47, .aload_n 0, 1, 0, 0, 0, 0), (0, 0, 0)), ((48, .iload_n 3, 1, 0, 0, 0, 0), (0, 0, 0))] (by decide +kernel) rfl ?_
    exact hx_call (E := (49, .invokevirtual 287, 3, 195, 0, 6152, 0)) (M' := yp_m195) [.inr (.inl 86), .inl x3] [.inl x2] rfl (by decide +kernel) rfl ⟨rfl, rfl⟩ rfl rfl (hx_mono (h2 c1) (fun r m' h' => hx_pick [0, 3] h'))

/-- deals from 52 on -/
theorem hr190_52 {xs : List Int32} {n : Nat} {Q : hQ} {m : gx_M} {x3 s0 s1 : Int}
    (h1 : (s1 = 0) → hxn xs n yp_m190 38 [(0, .inr (.inl 86)), (2, .inl (gx_w (s0 + 0))), (3, .inl (gx_w (x3 + 1)))] [] m Q)
    (h2 : (s1 ≠ 0) → hxn xs n yp_m190 38 [(0, .inr (.inl 86)), (2, .inl (gx_w (s0 + 1))), (3, .inl (gx_w (x3 + 1)))] [] m Q) : hxn xs (n + 1) yp_m190 52 [(0, .inr (.inl 86)), (3, .inl x3)] [.inl s1, .inl s0] m Q := by
  refine hx_ifs .eq 59 (by decide +kernel) (fun c1 => ?_) (fun c1 => ?_)
  · have c1 : s1 = 0 := c1
    refine hx_blk (npc := 38) (L' := [(0, .inr (.inl 86)), (3, .inl (gx_w (x3 + 1))), (2, .inl (gx_w (s0 + 0)))]) (st' := []) (m' := m) [((59, .iconst 0, 1, 0, 0, 0, 0), (0, 0, 0)), ((60, .iadd, 1, 0, 0, 0, 0), (0, 0, 0)), ((61, .istore_n 2, 1, 0, 0, 0, 0), (0, 0, 0)), ((62, .iinc 3 1, 3, 0, 0, 0, 0), (0, 0, 0)), ((65, .goto (-27), 3, 0, 0, 0, 0), (0, 0, 0))] (by decide +kernel) rfl ?_
    exact hx_pick [0, 2, 3] (h1 c1)
  · have c1 : s1 ≠ 0 := c1
    refine hx_blk (npc := 38) (L' := [(0, .inr (.inl 86)), (3, .inl (gx_w (x3 + 1))), (2, .inl (gx_w (s0 + 1)))]) (st' := []) (m' := m) [((55, .iconst 1, 1, 0, 0, 0, 0), (0, 0, 0)), ((56, .goto 4, 3, 0, 0, 0, 0), (0, 0, 0)), ((60, .iadd, 1, 0, 0, 0, 0), (0, 0, 0)), ((61, .istore_n 2, 1, 0, 0, 0, 0), (0, 0, 0)), ((62, .iinc 3 1, 3, 0, 0, 0, 0), (0, 0, 0)), ((65, .goto (-27), 3, 0, 0, 0, 0), (0, 0, 0))] (by decide +kernel) rfl ?_
    exact hx_pick [0, 2, 3] (h2 c1)

/-- min from 0 on -/
theorem hr199_0 {xs : List Int32} {n : Nat} {Q : hQ} {m : gx_M} {x0 x1 : Int}
    (h1 : (x1 ≤ x0) → Q (some (.inl x1)) m)
    (h2 : (x0 < x1) → Q (some (.inl x0)) m) : hxn xs (n + 1) yp_m199 0 [(0, .inl x0), (1, .inl x1)] [] m Q := by
  refine hx_blks (npc := 2) (L' := [(0, .inl x0), (1, .inl x1)]) (st' := [.inl x1, .inl x0]) (m' := m) ((0, .iload_n 0, 1, 0, 0, 0, 0), (0, 0, 0)) [((1, .iload_n 1, 1, 0, 0, 0, 0), (0, 0, 0))] (by decide +kernel) rfl ?_
  refine hx_cmp .ge 9 (by decide +kernel) (fun c1 => ?_) (fun c1 => ?_)
  · have c1 : x1 ≤ x0 := c1
    refine hx_blk (npc := 10) (L' := [(0, .inl x0), (1, .inl x1)]) (st' := [.inl x1]) (m' := m) [((9, .iload_n 1, 1, 0, 0, 0, 0), (0, 0, 0))] (by decide +kernel) rfl ?_
    exact hx_reti (by decide +kernel) (h1 c1)
  · have c1 : x0 < x1 := by have h : ¬ (x1 ≤ x0) := c1; omega
    refine hx_blk (npc := 10) (L' := [(0, .inl x0), (1, .inl x1)]) (st' := [.inl x0]) (m' := m) [((5, .iload_n 0, 1, 0, 0, 0, 0), (0, 0, 0)), ((6, .goto 4, 3, 0, 0, 0, 0), (0, 0, 0))] (by decide +kernel) rfl ?_
    exact hx_reti (by decide +kernel) (h2 c1)

/-- paid from 0 on -/
theorem hr198_0 {xs : List Int32} {n : Nat} {Q : hQ} {m : gx_M} {x1 x2 : Int}
    (h1 : hxn xs n yp_m199 0 [(0, .inl 99999), (1, .inl (gx_w ((m 87 (gx_w (1120 + x1)).toNat) + x2)))] [] m (fun r m' => hxn xs n yp_m198 17 [] (hrs r ++ []) m' Q)) : hxn xs (n + 1) yp_m198 0 [(0, .inr (.inl 86)), (1, .inl x1), (2, .inl x2)] [] m Q := by
  refine hx_blks (npc := 14) (L' := [(0, .inr (.inl 86)), (1, .inl x1), (2, .inl x2)]) (st' := [.inl (gx_w ((m 87 (gx_w (1120 + x1)).toNat) + x2)), .inl 99999]) (m' := m) ((0, .ldc 112, 2, 0, 0, 6026, 99999), (0, 0, 0)) [((2, .aload_n 0, 1, 0, 0, 0, 0), (0, 0, 0)), ((3, .getfield 7, 3, 10, 0, 5113, 0), (1, 86, 87)), ((6, .sipush 1120, 3, 0, 0, 0, 0), (0, 0, 0)), ((9, .iload_n 1, 1, 0, 0, 0, 0), (0, 0, 0)), ((10, .iadd, 1, 0, 0, 0, 0), (0, 0, 0)), ((11, .iaload, 1, 0, 0, 0, 0), (0, 87, 0)), ((12, .iload_n 2, 1, 0, 0, 0, 0), (0, 0, 0)), ((13, .iadd, 1, 0, 0, 0, 0), (0, 0, 0))] (by decide +kernel) rfl ?_
  exact hx_call (E := (14, .invokestatic 120, 3, 199, 0, 6168, 0)) (M' := yp_m199) [.inl 99999, .inl (gx_w ((m 87 (gx_w (1120 + x1)).toNat) + x2))] [] rfl (by decide +kernel) rfl ⟨rfl, rfl⟩ rfl rfl (hx_mono h1 (fun r m' h' => hx_pick [] h'))

/-- paid from 17 on -/
theorem hr198_17 {xs : List Int32} {n : Nat} {Q : hQ} {m : gx_M} {s0 : Int}
    (h1 : Q (some (.inl s0)) m) : hxn xs (n + 1) yp_m198 17 [] [.inl s0] m Q := by
  exact hx_reti (by decide +kernel) h1

/-- isPawned from 0 on -/
theorem hr200_0 {xs : List Int32} {n : Nat} {Q : hQ} {m : gx_M} {x1 : Int}
    (h1 : ((m 87 (gx_w (280 + x1)).toNat) < 0) → Q (some (.inl 0)) m)
    (h2 : (0 ≤ (m 87 (gx_w (280 + x1)).toNat)) → Q (some (.inl 1)) m) : hxn xs (n + 1) yp_m200 0 [(0, .inr (.inl 86)), (1, .inl x1)] [] m Q := by
  refine hx_blks (npc := 10) (L' := [(0, .inr (.inl 86)), (1, .inl x1)]) (st' := [.inl (m 87 (gx_w (280 + x1)).toNat)]) (m' := m) ((0, .aload_n 0, 1, 0, 0, 0, 0), (0, 0, 0)) [((1, .getfield 7, 3, 10, 0, 5113, 0), (1, 86, 87)), ((4, .sipush 280, 3, 0, 0, 0, 0), (0, 0, 0)), ((7, .iload_n 1, 1, 0, 0, 0, 0), (0, 0, 0)), ((8, .iadd, 1, 0, 0, 0, 0), (0, 0, 0)), ((9, .iaload, 1, 0, 0, 0, 0), (0, 87, 0))] (by decide +kernel) rfl ?_
  refine hx_if .lt 17 (by decide +kernel) (fun c1 => ?_) (fun c1 => ?_)
  · have c1 : (m 87 (gx_w (280 + x1)).toNat) < 0 := c1
    refine hx_blk (npc := 18) (L' := [(0, .inr (.inl 86)), (1, .inl x1)]) (st' := [.inl 0]) (m' := m) [((17, .iconst 0, 1, 0, 0, 0, 0), (0, 0, 0))] (by decide +kernel) rfl ?_
    exact hx_reti (by decide +kernel) (h1 c1)
  · have c1 : 0 ≤ (m 87 (gx_w (280 + x1)).toNat) := by have h : ¬ ((m 87 (gx_w (280 + x1)).toNat) < 0) := c1; omega
    refine hx_blk (npc := 18) (L' := [(0, .inr (.inl 86)), (1, .inl x1)]) (st' := [.inl 1]) (m' := m) [((13, .iconst 1, 1, 0, 0, 0, 0), (0, 0, 0)), ((14, .goto 4, 3, 0, 0, 0, 0), (0, 0, 0))] (by decide +kernel) rfl ?_
    exact hx_reti (by decide +kernel) (h2 c1)

/-- fetches from 0 on -/
theorem hr197_0 {xs : List Int32} {n : Nat} {Q : hQ} {m : gx_M} {x1 x2 x3 : Int}
    (h1 : ((m 87 (gx_w (280 + x1)).toNat) ≠ x3) → Q (some (.inl 0)) m)
    (h2 : ((m 87 (gx_w (280 + x1)).toNat) = x3) → ((m 87 (gx_w (360 + x1)).toNat) ≤ (m 87 (gx_w (1120 + x2)).toNat)) → hxn xs n yp_m198 0 [(0, .inr (.inl 86)), (1, .inl x3), (2, .inl ((gx_u m 87 (gx_w (1120 + x2)).toNat (gx_w ((m 87 (gx_w (1120 + x2)).toNat) - (m 87 (gx_w (360 + x1)).toNat)))) 87 (gx_w (360 + x1)).toNat))] [] (gx_u m 87 (gx_w (1120 + x2)).toNat (gx_w ((m 87 (gx_w (1120 + x2)).toNat) - (m 87 (gx_w (360 + x1)).toNat)))) (fun r m' => hxn xs n yp_m197 94 [(0, .inr (.inl 86)), (1, .inl x1)] (hrs r ++ [.inl (gx_w (1120 + x3)), .inr (.inl 87)]) m' Q))
    (h3 : ((m 87 (gx_w (280 + x1)).toNat) = x3) → ((m 87 (gx_w (1120 + x2)).toNat) < (m 87 (gx_w (360 + x1)).toNat)) → Q (some (.inl 0)) m) : hxn xs (n + 1) yp_m197 0 [(0, .inr (.inl 86)), (1, .inl x1), (2, .inl x2), (3, .inl x3)] [] m Q := by
  refine hx_blks (npc := 11) (L' := [(0, .inr (.inl 86)), (1, .inl x1), (2, .inl x2), (3, .inl x3)]) (st' := [.inl x3, .inl (m 87 (gx_w (280 + x1)).toNat)]) (m' := m) ((0, .aload_n 0, 1, 0, 0, 0, 0), (0, 0, 0)) [((1, .getfield 7, 3, 10, 0, 5113, 0), (1, 86, 87)), ((4, .sipush 280, 3, 0, 0, 0, 0), (0, 0, 0)), ((7, .iload_n 1, 1, 0, 0, 0, 0), (0, 0, 0)), ((8, .iadd, 1, 0, 0, 0, 0), (0, 0, 0)), ((9, .iaload, 1, 0, 0, 0, 0), (0, 87, 0)), ((10, .iload_n 3, 1, 0, 0, 0, 0), (0, 0, 0))] (by decide +kernel) rfl ?_
  refine hx_cmp .ne 37 (by decide +kernel) (fun c1 => ?_) (fun c1 => ?_)
  · have c1 : (m 87 (gx_w (280 + x1)).toNat) ≠ x3 := c1
    refine hx_blk (npc := 38) (L' := [(0, .inr (.inl 86)), (1, .inl x1), (2, .inl x2), (3, .inl x3)]) (st' := [.inl 0]) (m' := m) [((37, .iconst 0, 1, 0, 0, 0, 0), (0, 0, 0))] (by decide +kernel) rfl ?_
    exact hx_reti (by decide +kernel) (h1 c1)
  · have c1 : (m 87 (gx_w (280 + x1)).toNat) = x3 := by have h : ¬ ((m 87 (gx_w (280 + x1)).toNat) ≠ x3) := c1; omega
    refine hx_blk (npc := 34) (L' := [(0, .inr (.inl 86)), (1, .inl x1), (2, .inl x2), (3, .inl x3)]) (st' := [.inl (m 87 (gx_w (360 + x1)).toNat), .inl (m 87 (gx_w (1120 + x2)).toNat)]) (m' := m) [((14, .aload_n 0, 1, 0, 0, 0, 0), (0, 0, 0)), ((15, .getfield 7, 3, 10, 0, 5113, 0), (1, 86, 87)), ((18, .sipush 1120, 3, 0, 0, 0, 0), (0, 0, 0)), ((21, .iload_n 2, 1, 0, 0, 0, 0), (0, 0, 0)), ((22, .iadd, 1, 0, 0, 0, 0), (0, 0, 0)), ((23, .iaload, 1, 0, 0, 0, 0), (0, 87, 0)), ((24, .aload_n 0, 1, 0, 0, 0, 0), (0, 0, 0)), ((25, .getfield 7, 3, 10, 0, 5113, 0), (1, 86, 87)), ((28, .sipush 360, 3, 0, 0, 0, 0), (0, 0, 0)), ((31, .iload_n 1, 1, 0, 0, 0, 0), (0, 0, 0)), ((32, .iadd, 1, 0, 0, 0, 0), (0, 0, 0)), ((33, .iaload, 1, 0, 0, 0, 0), (0, 87, 0))] (by decide +kernel) rfl ?_
    refine hx_cmp .ge 39 (by decide +kernel) (fun c2 => ?_) (fun c2 => ?_)
    · have c2 : (m 87 (gx_w (360 + x1)).toNat) ≤ (m 87 (gx_w (1120 + x2)).toNat) := c2
      refine hx_blk (npc := 91) (L' := [(0, .inr (.inl 86)), (1, .inl x1), (2, .inl x2), (3, .inl x3)]) (st' := [.inl ((gx_u m 87 (gx_w (1120 + x2)).toNat (gx_w ((m 87 (gx_w (1120 + x2)).toNat) - (m 87 (gx_w (360 + x1)).toNat)))) 87 (gx_w (360 + x1)).toNat), .inl x3, .inr (.inl 86), .inl (gx_w (1120 + x3)), .inr (.inl 87)]) (m' := (gx_u m 87 (gx_w (1120 + x2)).toNat (gx_w ((m 87 (gx_w (1120 + x2)).toNat) - (m 87 (gx_w (360 + x1)).toNat))))) [((39, .aload_n 0, 1, 0, 0, 0, 0), (0, 0, 0)), ((40, .getfield 7, 3, 10, 0, 5113, 0), (1, 86, 87)), ((43, .sipush 1120, 3, 0, 0, 0, 0), (0, 0, 0)), ((46, .iload_n 2, 1, 0, 0, 0, 0), (0, 0, 0)), ((47, .iadd, 1, 0, 0, 0, 0), (0, 0, 0)), ((48, .aload_n 0, 1, 0, 0, 0, 0), (0, 0, 0)), ((49, .getfield 7, 3, 10, 0, 5113, 0), (1, 86, 87)), ((52, .sipush 1120, 3, 0, 0, 0, 0), (0, 0, 0)), ((55, .iload_n 2, 1, 0, 0, 0, 0), (0, 0, 0)), ((56, .iadd, 1, 0, 0, 0, 0), (0, 0, 0)), ((57, .iaload, 1, 0, 0, 0, 0), (0, 87, 0)), ((58, .aload_n 0, 1, 0, 0, 0, 0), (0, 0, 0)), ((59, .getfield 7, 3, 10, 0, 5113, 0), (1, 86, 87)), ((62, .sipush 360, 3, 0, 0, 0, 0), (0, 0, 0)), ((65, .iload_n 1, 1, 0, 0, 0, 0), (0, 0, 0)), ((66, .iadd, 1, 0, 0, 0, 0), (0, 0, 0)), ((67, .iaload, 1, 0, 0, 0, 0), (0, 87, 0)), ((68, .isub, 1, 0, 0, 0, 0), (0, 0, 0)), ((69, .iastore, 1, 0, 0, 0, 0), (0, 87, 0)), ((70, .aload_n 0, 1, 0, 0, 0, 0), (0, 0, 0)), ((71, .getfield 7, 3, 10, 0, 5113, 0), (1, 86, 87)), ((74, .sipush 1120, 3, 0, 0, 0, 0), (0, 0, 0)), ((77, .iload_n 3, 1, 0, 0, 0, 0), (0, 0, 0)), ((78, .iadd, 1, 0, 0, 0, 0), (0, 0, 0)), ((79, .aload_n 0, 1, 0, 0, 0, 0), (0, 0, 0)), ((80, .iload_n 3, 1, 0, 0, 0, 0), (0, 0, 0)), ((81, .aload_n 0, 1, 0, 0, 0, 0), (0, 0, 0)), ((82, .getfield 7, 3, 10, 0, 5113, 0), (1, 86, 87)), ((85, .sipush 360, 3, 0, 0, 0, 0), (0, 0, 0)), ((88, .iload_n 1, 1, 0, 0, 0, 0), (0, 0, 0)), ((89, .iadd, 1, 0, 0, 0, 0), (0, 0, 0)), ((90, .iaload, 1, 0, 0, 0, 0), (0, 87, 0))] (by decide +kernel) rfl ?_
      exact hx_call (E := (91, .invokevirtual 266, 3, 198, 0, 6164, 0)) (M' := yp_m198) [.inr (.inl 86), .inl x3, .inl ((gx_u m 87 (gx_w (1120 + x2)).toNat (gx_w ((m 87 (gx_w (1120 + x2)).toNat) - (m 87 (gx_w (360 + x1)).toNat)))) 87 (gx_w (360 + x1)).toNat)] [.inl (gx_w (1120 + x3)), .inr (.inl 87)] rfl (by decide +kernel) rfl ⟨rfl, rfl⟩ rfl rfl (hx_mono (h2 c1 c2) (fun r m' h' => hx_pick [0, 1] h'))
    · have c2 : (m 87 (gx_w (1120 + x2)).toNat) < (m 87 (gx_w (360 + x1)).toNat) := by have h : ¬ ((m 87 (gx_w (360 + x1)).toNat) ≤ (m 87 (gx_w (1120 + x2)).toNat)) := c2; omega
      refine hx_blk (npc := 38) (L' := [(0, .inr (.inl 86)), (1, .inl x1), (2, .inl x2), (3, .inl x3)]) (st' := [.inl 0]) (m' := m) [((37, .iconst 0, 1, 0, 0, 0, 0), (0, 0, 0))] (by decide +kernel) rfl ?_
      exact hx_reti (by decide +kernel) (h3 c1 c2)

/-- fetches from 94 on -/
theorem hr197_94 {xs : List Int32} {n : Nat} {Q : hQ} {m : gx_M} {x1 s1 s2 : Int}
    (h1 : Q (some (.inl 1)) (gx_u (gx_u (gx_u (gx_u m 87 (s1).toNat s2) 87 (gx_w (280 + x1)).toNat (-2)) 87 (gx_w (320 + x1)).toNat 0) 87 (gx_w (360 + x1)).toNat 0)) : hxn xs (n + 1) yp_m197 94 [(0, .inr (.inl 86)), (1, .inl x1)] [.inl s2, .inl s1, .inr (.inl 87)] m Q := by
  refine hx_blks (npc := 130) (L' := [(0, .inr (.inl 86)), (1, .inl x1)]) (st' := [.inl 1]) (m' := (gx_u (gx_u (gx_u (gx_u m 87 (s1).toNat s2) 87 (gx_w (280 + x1)).toNat (-2)) 87 (gx_w (320 + x1)).toNat 0) 87 (gx_w (360 + x1)).toNat 0)) ((94, .iastore, 1, 0, 0, 0, 0), (0, 87, 0)) [((95, .aload_n 0, 1, 0, 0, 0, 0), (0, 0, 0)), ((96, .getfield 7, 3, 10, 0, 5113, 0), (1, 86, 87)), ((99, .sipush 280, 3, 0, 0, 0, 0), (0, 0, 0)), ((102, .iload_n 1, 1, 0, 0, 0, 0), (0, 0, 0)), ((103, .iadd, 1, 0, 0, 0, 0), (0, 0, 0)), ((104, .bipush (-2), 2, 0, 0, 0, 0), (0, 0, 0)), ((106, .iastore, 1, 0, 0, 0, 0), (0, 87, 0)), ((107, .aload_n 0, 1, 0, 0, 0, 0), (0, 0, 0)), ((108, .getfield 7, 3, 10, 0, 5113, 0), (1, 86, 87)), ((111, .sipush 320, 3, 0, 0, 0, 0), (0, 0, 0)), ((114, .iload_n 1, 1, 0, 0, 0, 0), (0, 0, 0)), ((115, .iadd, 1, 0, 0, 0, 0), (0, 0, 0)), ((116, .iconst 0, 1, 0, 0, 0, 0), (0, 0, 0)), ((117, .iastore, 1, 0, 0, 0, 0), (0, 87, 0)), ((118, .aload_n 0, 1, 0, 0, 0, 0), (0, 0, 0)), ((119, .getfield 7, 3, 10, 0, 5113, 0), (1, 86, 87)), ((122, .sipush 360, 3, 0, 0, 0, 0), (0, 0, 0)), ((125, .iload_n 1, 1, 0, 0, 0, 0), (0, 0, 0)), ((126, .iadd, 1, 0, 0, 0, 0), (0, 0, 0)), ((127, .iconst 0, 1, 0, 0, 0, 0), (0, 0, 0)), ((128, .iastore, 1, 0, 0, 0, 0), (0, 87, 0)), ((129, .iconst 1, 1, 0, 0, 0, 0), (0, 0, 0))] (by decide +kernel) rfl ?_
  exact hx_reti (by decide +kernel) h1

/-- goesTo from 0 on -/
theorem hr210_0 {xs : List Int32} {n : Nat} {Q : hQ} {m : gx_M} {x1 x2 : Int}
    (h1 : (((gx_u (gx_u (gx_u (gx_u m 87 (gx_w (240 + x1)).toNat x2) 87 (gx_w (280 + x1)).toNat (-2)) 87 (gx_w (320 + x1)).toNat 0) 87 (gx_w (360 + x1)).toNat 0) 87 (gx_w (400 + x1)).toNat) ≠ 16) → Q none (gx_u (gx_u (gx_u (gx_u (gx_u (gx_u m 87 (gx_w (240 + x1)).toNat x2) 87 (gx_w (280 + x1)).toNat (-2)) 87 (gx_w (320 + x1)).toNat 0) 87 (gx_w (360 + x1)).toNat 0) 87 (gx_w ((gx_w (480 + (gx_w (16 * x1)))) + ((gx_u (gx_u (gx_u (gx_u m 87 (gx_w (240 + x1)).toNat x2) 87 (gx_w (280 + x1)).toNat (-2)) 87 (gx_w (320 + x1)).toNat 0) 87 (gx_w (360 + x1)).toNat 0) 87 (gx_w (400 + x1)).toNat))).toNat x2) 87 (gx_w (400 + x1)).toNat (gx_w (((gx_u (gx_u (gx_u (gx_u (gx_u m 87 (gx_w (240 + x1)).toNat x2) 87 (gx_w (280 + x1)).toNat (-2)) 87 (gx_w (320 + x1)).toNat 0) 87 (gx_w (360 + x1)).toNat 0) 87 (gx_w ((gx_w (480 + (gx_w (16 * x1)))) + ((gx_u (gx_u (gx_u (gx_u m 87 (gx_w (240 + x1)).toNat x2) 87 (gx_w (280 + x1)).toNat (-2)) 87 (gx_w (320 + x1)).toNat 0) 87 (gx_w (360 + x1)).toNat 0) 87 (gx_w (400 + x1)).toNat))).toNat x2) 87 (gx_w (400 + x1)).toNat) + 1))))
    (h2 : (((gx_u (gx_u (gx_u (gx_u m 87 (gx_w (240 + x1)).toNat x2) 87 (gx_w (280 + x1)).toNat (-2)) 87 (gx_w (320 + x1)).toNat 0) 87 (gx_w (360 + x1)).toNat 0) 87 (gx_w (400 + x1)).toNat) = 16) → Q none (gx_u (gx_u (gx_u (gx_u m 87 (gx_w (240 + x1)).toNat x2) 87 (gx_w (280 + x1)).toNat (-2)) 87 (gx_w (320 + x1)).toNat 0) 87 (gx_w (360 + x1)).toNat 0)) : hxn xs (n + 1) yp_m210 0 [(0, .inr (.inl 86)), (1, .inl x1), (2, .inl x2)] [] m Q := by
  refine hx_blks (npc := 57) (L' := [(0, .inr (.inl 86)), (1, .inl x1), (2, .inl x2)]) (st' := [.inl 16, .inl ((gx_u (gx_u (gx_u (gx_u m 87 (gx_w (240 + x1)).toNat x2) 87 (gx_w (280 + x1)).toNat (-2)) 87 (gx_w (320 + x1)).toNat 0) 87 (gx_w (360 + x1)).toNat 0) 87 (gx_w (400 + x1)).toNat)]) (m' := (gx_u (gx_u (gx_u (gx_u m 87 (gx_w (240 + x1)).toNat x2) 87 (gx_w (280 + x1)).toNat (-2)) 87 (gx_w (320 + x1)).toNat 0) 87 (gx_w (360 + x1)).toNat 0)) ((0, .aload_n 0, 1, 0, 0, 0, 0), (0, 0, 0)) [((1, .getfield 7, 3, 10, 0, 5113, 0), (1, 86, 87)), ((4, .sipush 240, 3, 0, 0, 0, 0), (0, 0, 0)), ((7, .iload_n 1, 1, 0, 0, 0, 0), (0, 0, 0)), ((8, .iadd, 1, 0, 0, 0, 0), (0, 0, 0)), ((9, .iload_n 2, 1, 0, 0, 0, 0), (0, 0, 0)), ((10, .iastore, 1, 0, 0, 0, 0), (0, 87, 0)), ((11, .aload_n 0, 1, 0, 0, 0, 0), (0, 0, 0)), ((12, .getfield 7, 3, 10, 0, 5113, 0), (1, 86, 87)), ((15, .sipush 280, 3, 0, 0, 0, 0), (0, 0, 0)), ((18, .iload_n 1, 1, 0, 0, 0, 0), (0, 0, 0)), ((19, .iadd, 1, 0, 0, 0, 0), (0, 0, 0)), ((20, .bipush (-2), 2, 0, 0, 0, 0), (0, 0, 0)), ((22, .iastore, 1, 0, 0, 0, 0), (0, 87, 0)), ((23, .aload_n 0, 1, 0, 0, 0, 0), (0, 0, 0)), ((24, .getfield 7, 3, 10, 0, 5113, 0), (1, 86, 87)), ((27, .sipush 320, 3, 0, 0, 0, 0), (0, 0, 0)), ((30, .iload_n 1, 1, 0, 0, 0, 0), (0, 0, 0)), ((31, .iadd, 1, 0, 0, 0, 0), (0, 0, 0)), ((32, .iconst 0, 1, 0, 0, 0, 0), (0, 0, 0)), ((33, .iastore, 1, 0, 0, 0, 0), (0, 87, 0)), ((34, .aload_n 0, 1, 0, 0, 0, 0), (0, 0, 0)), ((35, .getfield 7, 3, 10, 0, 5113, 0), (1, 86, 87)), ((38, .sipush 360, 3, 0, 0, 0, 0), (0, 0, 0)), ((41, .iload_n 1, 1, 0, 0, 0, 0), (0, 0, 0)), ((42, .iadd, 1, 0, 0, 0, 0), (0, 0, 0)), ((43, .iconst 0, 1, 0, 0, 0, 0), (0, 0, 0)), ((44, .iastore, 1, 0, 0, 0, 0), (0, 87, 0)), ((45, .aload_n 0, 1, 0, 0, 0, 0), (0, 0, 0)), ((46, .getfield 7, 3, 10, 0, 5113, 0), (1, 86, 87)), ((49, .sipush 400, 3, 0, 0, 0, 0), (0, 0, 0)), ((52, .iload_n 1, 1, 0, 0, 0, 0), (0, 0, 0)), ((53, .iadd, 1, 0, 0, 0, 0), (0, 0, 0)), ((54, .iaload, 1, 0, 0, 0, 0), (0, 87, 0)), ((55, .bipush 16, 2, 0, 0, 0, 0), (0, 0, 0))] (by decide +kernel) rfl ?_
  refine hx_cmp .ne 61 (by decide +kernel) (fun c1 => ?_) (fun c1 => ?_)
  · have c1 : ((gx_u (gx_u (gx_u (gx_u m 87 (gx_w (240 + x1)).toNat x2) 87 (gx_w (280 + x1)).toNat (-2)) 87 (gx_w (320 + x1)).toNat 0) 87 (gx_w (360 + x1)).toNat 0) 87 (gx_w (400 + x1)).toNat) ≠ 16 := c1
    refine hx_blk (npc := 108) (L' := [(0, .inr (.inl 86)), (1, .inl x1), (2, .inl x2)]) (st' := []) (m' := (gx_u (gx_u (gx_u (gx_u (gx_u (gx_u m 87 (gx_w (240 + x1)).toNat x2) 87 (gx_w (280 + x1)).toNat (-2)) 87 (gx_w (320 + x1)).toNat 0) 87 (gx_w (360 + x1)).toNat 0) 87 (gx_w ((gx_w (480 + (gx_w (16 * x1)))) + ((gx_u (gx_u (gx_u (gx_u m 87 (gx_w (240 + x1)).toNat x2) 87 (gx_w (280 + x1)).toNat (-2)) 87 (gx_w (320 + x1)).toNat 0) 87 (gx_w (360 + x1)).toNat 0) 87 (gx_w (400 + x1)).toNat))).toNat x2) 87 (gx_w (400 + x1)).toNat (gx_w (((gx_u (gx_u (gx_u (gx_u (gx_u m 87 (gx_w (240 + x1)).toNat x2) 87 (gx_w (280 + x1)).toNat (-2)) 87 (gx_w (320 + x1)).toNat 0) 87 (gx_w (360 + x1)).toNat 0) 87 (gx_w ((gx_w (480 + (gx_w (16 * x1)))) + ((gx_u (gx_u (gx_u (gx_u m 87 (gx_w (240 + x1)).toNat x2) 87 (gx_w (280 + x1)).toNat (-2)) 87 (gx_w (320 + x1)).toNat 0) 87 (gx_w (360 + x1)).toNat 0) 87 (gx_w (400 + x1)).toNat))).toNat x2) 87 (gx_w (400 + x1)).toNat) + 1)))) [((61, .aload_n 0, 1, 0, 0, 0, 0), (0, 0, 0)), ((62, .getfield 7, 3, 10, 0, 5113, 0), (1, 86, 87)), ((65, .sipush 480, 3, 0, 0, 0, 0), (0, 0, 0)), ((68, .bipush 16, 2, 0, 0, 0, 0), (0, 0, 0)), ((70, .iload_n 1, 1, 0, 0, 0, 0), (0, 0, 0)), ((71, .imul, 1, 0, 0, 0, 0), (0, 0, 0)), ((72, .iadd, 1, 0, 0, 0, 0), (0, 0, 0)), ((73, .aload_n 0, 1, 0, 0, 0, 0), (0, 0, 0)), ((74, .getfield 7, 3, 10, 0, 5113, 0), (1, 86, 87)), ((77, .sipush 400, 3, 0, 0, 0, 0), (0, 0, 0)), ((80, .iload_n 1, 1, 0, 0, 0, 0), (0, 0, 0)), ((81, .iadd, 1, 0, 0, 0, 0), (0, 0, 0)), ((82, .iaload, 1, 0, 0, 0, 0), (0, 87, 0)), ((83, .iadd, 1, 0, 0, 0, 0), (0, 0, 0)), ((84, .iload_n 2, 1, 0, 0, 0, 0), (0, 0, 0)), ((85, .iastore, 1, 0, 0, 0, 0), (0, 87, 0)), ((86, .aload_n 0, 1, 0, 0, 0, 0), (0, 0, 0)), ((87, .getfield 7, 3, 10, 0, 5113, 0), (1, 86, 87)), ((90, .sipush 400, 3, 0, 0, 0, 0), (0, 0, 0)), ((93, .iload_n 1, 1, 0, 0, 0, 0), (0, 0, 0)), ((94, .iadd, 1, 0, 0, 0, 0), (0, 0, 0)), ((95, .aload_n 0, 1, 0, 0, 0, 0), (0, 0, 0)), ((96, .getfield 7, 3, 10, 0, 5113, 0), (1, 86, 87)), ((99, .sipush 400, 3, 0, 0, 0, 0), (0, 0, 0)), ((102, .iload_n 1, 1, 0, 0, 0, 0), (0, 0, 0)), ((103, .iadd, 1, 0, 0, 0, 0), (0, 0, 0)), ((104, .iaload, 1, 0, 0, 0, 0), (0, 87, 0)), ((105, .iconst 1, 1, 0, 0, 0, 0), (0, 0, 0)), ((106, .iadd, 1, 0, 0, 0, 0), (0, 0, 0)), ((107, .iastore, 1, 0, 0, 0, 0), (0, 87, 0))] (by decide +kernel) rfl ?_
    exact hx_ret0 (by decide +kernel) (h1 c1)
  · have c1 : ((gx_u (gx_u (gx_u (gx_u m 87 (gx_w (240 + x1)).toNat x2) 87 (gx_w (280 + x1)).toNat (-2)) 87 (gx_w (320 + x1)).toNat 0) 87 (gx_w (360 + x1)).toNat 0) 87 (gx_w (400 + x1)).toNat) = 16 := by have h : ¬ (((gx_u (gx_u (gx_u (gx_u m 87 (gx_w (240 + x1)).toNat x2) 87 (gx_w (280 + x1)).toNat (-2)) 87 (gx_w (320 + x1)).toNat 0) 87 (gx_w (360 + x1)).toNat 0) 87 (gx_w (400 + x1)).toNat) ≠ 16) := c1; omega
    exact hx_ret0 (by decide +kernel) (h2 c1)

/-- does from 0 on -/
theorem hr195_0 {xs : List Int32} {n : Nat} {Q : hQ} {m : gx_M} {x1 : Int}
    (h1 : (aYr (m 87) (m 104 (x1).toNat)) → (aPers (m 87) (m 105 (x1).toNat)) → (aPers (m 87) (m 107 (x1).toNat)) → ((m 87 (gx_w (240 + (m 104 (x1).toNat))).toNat) = (m 105 (x1).toNat)) → ((m 106 (x1).toNat) ≠ 91) → hxn xs n yp_m200 0 [(0, .inr (.inl 86)), (1, .inl (m 104 (x1).toNat))] [] m (fun r m' => hxn xs n yp_m195 96 [(0, .inr (.inl 86)), (1, .inl x1), (2, .inl (m 104 (x1).toNat)), (3, .inl (m 105 (x1).toNat)), (4, .inl (m 107 (x1).toNat)), (5, .inl (m 108 (x1).toNat))] (hrs r ++ []) m' Q))
    (h2 : (aYr (m 87) (m 104 (x1).toNat)) → (aPers (m 87) (m 105 (x1).toNat)) → (aPers (m 87) (m 107 (x1).toNat)) → ((m 87 (gx_w (240 + (m 104 (x1).toNat))).toNat) = (m 105 (x1).toNat)) → ((m 106 (x1).toNat) = 91) → hxn xs n yp_m197 0 [(0, .inr (.inl 86)), (1, .inl (m 104 (x1).toNat)), (2, .inl (m 105 (x1).toNat)), (3, .inl (m 107 (x1).toNat))] [] m (fun r m' => hxn xs n yp_m195 90 [] (hrs r ++ []) m' Q))
    (h3 : (aYr (m 87) (m 104 (x1).toNat)) → (aPers (m 87) (m 105 (x1).toNat)) → (aPers (m 87) (m 107 (x1).toNat)) → ((m 87 (gx_w (240 + (m 104 (x1).toNat))).toNat) ≠ (m 105 (x1).toNat)) → Q (some (.inl 0)) m)
    (h4 : (aYr (m 87) (m 104 (x1).toNat)) → (aPers (m 87) (m 105 (x1).toNat)) → (¬ (aPers (m 87) (m 107 (x1).toNat))) → Q (some (.inl 0)) m)
    (h5 : (aYr (m 87) (m 104 (x1).toNat)) → (¬ (aPers (m 87) (m 105 (x1).toNat))) → Q (some (.inl 0)) m)
    (h6 : (¬ (aYr (m 87) (m 104 (x1).toNat))) → Q (some (.inl 0)) m) : hxn xs (n + 1) yp_m195 0 [(0, .inr (.inl 86)), (1, .inl x1)] [] m Q := by
  refine hx_blks (npc := 32) (L' := [(0, .inr (.inl 86)), (1, .inl x1), (2, .inl (m 104 (x1).toNat)), (3, .inl (m 105 (x1).toNat)), (4, .inl (m 107 (x1).toNat)), (5, .inl (m 108 (x1).toNat))]) (st' := [.inl (m 104 (x1).toNat), .inr (.inl 86)]) (m' := m) ((0, .aload_n 0, 1, 0, 0, 0, 0), (0, 0, 0)) [((1, .getfield 62, 3, 10, 27, 5140, 0), (1, 86, 104)), ((4, .iload_n 1, 1, 0, 0, 0, 0), (0, 0, 0)), ((5, .iaload, 1, 0, 0, 0, 0), (0, 104, 0)), ((6, .istore_n 2, 1, 0, 0, 0, 0), (0, 0, 0)), ((7, .aload_n 0, 1, 0, 0, 0, 0), (0, 0, 0)), ((8, .getfield 65, 3, 10, 28, 5141, 0), (1, 86, 105)), ((11, .iload_n 1, 1, 0, 0, 0, 0), (0, 0, 0)), ((12, .iaload, 1, 0, 0, 0, 0), (0, 105, 0)), ((13, .istore_n 3, 1, 0, 0, 0, 0), (0, 0, 0)), ((14, .aload_n 0, 1, 0, 0, 0, 0), (0, 0, 0)), ((15, .getfield 71, 3, 10, 30, 5143, 0), (1, 86, 107)), ((18, .iload_n 1, 1, 0, 0, 0, 0), (0, 0, 0)), ((19, .iaload, 1, 0, 0, 0, 0), (0, 107, 0)), ((20, .istore 4, 2, 0, 0, 0, 0), (0, 0, 0)), ((22, .aload_n 0, 1, 0, 0, 0, 0), (0, 0, 0)), ((23, .getfield 74, 3, 10, 31, 5144, 0), (1, 86, 108)), ((26, .iload_n 1, 1, 0, 0, 0, 0), (0, 0, 0)), ((27, .iaload, 1, 0, 0, 0, 0), (0, 108, 0)), ((28, .istore 5, 2, 0, 0, 0, 0), (0, 0, 0)), ((30, .aload_n 0, 1, 0, 0, 0, 0), (0, 0, 0)), ((31, .iload_n 2, 1, 0, 0, 0, 0), (0, 0, 0))] (by decide +kernel) rfl ?_
  refine hx_call (E := (32, .invokevirtual 269, 3, 196, 0, 6156, 0)) (M' := yp_m196) [.inr (.inl 86), .inl (m 104 (x1).toNat)] [] rfl (by decide +kernel) rfl ⟨rfl, rfl⟩ rfl rfl (hs196 (fun c1 => ?_) (fun c1 => ?_))
  · have c1 : aYr (m 87) (m 104 (x1).toNat) := c1
    show hxn xs n yp_m195 35 [(0, .inr (.inl 86)), (1, .inl x1), (2, .inl (m 104 (x1).toNat)), (3, .inl (m 105 (x1).toNat)), (4, .inl (m 107 (x1).toNat)), (5, .inl (m 108 (x1).toNat))] [.inl 1] m Q
    refine hx_if .eq 69 (by decide +kernel) (fun c2 => ?_) (fun c2 => ?_)
    · have c2 : (1 : Int) = 0 := c2
      exfalso; omega
    · have c2 : (1 : Int) ≠ 0 := c2
      refine hx_blk (npc := 40) (L' := [(0, .inr (.inl 86)), (1, .inl x1), (2, .inl (m 104 (x1).toNat)), (3, .inl (m 105 (x1).toNat)), (4, .inl (m 107 (x1).toNat)), (5, .inl (m 108 (x1).toNat))]) (st' := [.inl (m 105 (x1).toNat), .inr (.inl 86)]) (m' := m) [((38, .aload_n 0, 1, 0, 0, 0, 0), (0, 0, 0)), ((39, .iload_n 3, 1, 0, 0, 0, 0), (0, 0, 0))] (by decide +kernel) rfl ?_
      refine hx_call (E := (40, .invokevirtual 113, 3, 164, 0, 6031, 0)) (M' := yp_m164) [.inr (.inl 86), .inl (m 105 (x1).toNat)] [] rfl (by decide +kernel) rfl ⟨rfl, rfl⟩ rfl rfl (hs164 (fun c2 => ?_) (fun c2 => ?_))
      · have c2 : aPers (m 87) (m 105 (x1).toNat) := c2
        show hxn xs n yp_m195 43 [(0, .inr (.inl 86)), (1, .inl x1), (2, .inl (m 104 (x1).toNat)), (3, .inl (m 105 (x1).toNat)), (4, .inl (m 107 (x1).toNat)), (5, .inl (m 108 (x1).toNat))] [.inl 1] m Q
        refine hx_if .eq 69 (by decide +kernel) (fun c3 => ?_) (fun c3 => ?_)
        · have c3 : (1 : Int) = 0 := c3
          exfalso; omega
        · have c3 : (1 : Int) ≠ 0 := c3
          refine hx_blk (npc := 49) (L' := [(0, .inr (.inl 86)), (1, .inl x1), (2, .inl (m 104 (x1).toNat)), (3, .inl (m 105 (x1).toNat)), (4, .inl (m 107 (x1).toNat)), (5, .inl (m 108 (x1).toNat))]) (st' := [.inl (m 107 (x1).toNat), .inr (.inl 86)]) (m' := m) [((46, .aload_n 0, 1, 0, 0, 0, 0), (0, 0, 0)), ((47, .iload 4, 2, 0, 0, 0, 0), (0, 0, 0))] (by decide +kernel) rfl ?_
          refine hx_call (E := (49, .invokevirtual 113, 3, 164, 0, 6031, 0)) (M' := yp_m164) [.inr (.inl 86), .inl (m 107 (x1).toNat)] [] rfl (by decide +kernel) rfl ⟨rfl, rfl⟩ rfl rfl (hs164 (fun c3 => ?_) (fun c3 => ?_))
          · have c3 : aPers (m 87) (m 107 (x1).toNat) := c3
            show hxn xs n yp_m195 52 [(0, .inr (.inl 86)), (1, .inl x1), (2, .inl (m 104 (x1).toNat)), (3, .inl (m 105 (x1).toNat)), (4, .inl (m 107 (x1).toNat)), (5, .inl (m 108 (x1).toNat))] [.inl 1] m Q
            refine hx_if .eq 69 (by decide +kernel) (fun c4 => ?_) (fun c4 => ?_)
            · have c4 : (1 : Int) = 0 := c4
              exfalso; omega
            · have c4 : (1 : Int) ≠ 0 := c4
              refine hx_blk (npc := 66) (L' := [(0, .inr (.inl 86)), (1, .inl x1), (2, .inl (m 104 (x1).toNat)), (3, .inl (m 105 (x1).toNat)), (4, .inl (m 107 (x1).toNat)), (5, .inl (m 108 (x1).toNat))]) (st' := [.inl (m 105 (x1).toNat), .inl (m 87 (gx_w (240 + (m 104 (x1).toNat))).toNat)]) (m' := m) [((55, .aload_n 0, 1, 0, 0, 0, 0), (0, 0, 0)), ((56, .getfield 7, 3, 10, 0, 5113, 0), (1, 86, 87)), ((59, .sipush 240, 3, 0, 0, 0, 0), (0, 0, 0)), ((62, .iload_n 2, 1, 0, 0, 0, 0), (0, 0, 0)), ((63, .iadd, 1, 0, 0, 0, 0), (0, 0, 0)), ((64, .iaload, 1, 0, 0, 0, 0), (0, 87, 0)), ((65, .iload_n 3, 1, 0, 0, 0, 0), (0, 0, 0))] (by decide +kernel) rfl ?_
              refine hx_cmp .eq 71 (by decide +kernel) (fun c4 => ?_) (fun c4 => ?_)
              · have c4 : (m 87 (gx_w (240 + (m 104 (x1).toNat))).toNat) = (m 105 (x1).toNat) := c4
                refine hx_blk (npc := 79) (L' := [(0, .inr (.inl 86)), (1, .inl x1), (2, .inl (m 104 (x1).toNat)), (3, .inl (m 105 (x1).toNat)), (4, .inl (m 107 (x1).toNat)), (5, .inl (m 108 (x1).toNat))]) (st' := [.inl 91, .inl (m 106 (x1).toNat)]) (m' := m) [((71, .aload_n 0, 1, 0, 0, 0, 0), (0, 0, 0)), ((72, .getfield 68, 3, 10, 29, 5142, 0), (1, 86, 106)), ((75, .iload_n 1, 1, 0, 0, 0, 0), (0, 0, 0)), ((76, .iaload, 1, 0, 0, 0, 0), (0, 106, 0)), ((77, .bipush 91, 2, 0, 0, 0, 0), (0, 0, 0))] (by decide +kernel) rfl ?_
                refine hx_cmp .ne 91 (by decide +kernel) (fun c5 => ?_) (fun c5 => ?_)
                · have c5 : (m 106 (x1).toNat) ≠ 91 := c5
                  refine hx_blk (npc := 93) (L' := [(0, .inr (.inl 86)), (1, .inl x1), (2, .inl (m 104 (x1).toNat)), (3, .inl (m 105 (x1).toNat)), (4, .inl (m 107 (x1).toNat)), (5, .inl (m 108 (x1).toNat))]) (st' := [.inl (m 104 (x1).toNat), .inr (.inl 86)]) (m' := m) [((91, .aload_n 0, 1, 0, 0, 0, 0), (0, 0, 0)), ((92, .iload_n 2, 1, 0, 0, 0, 0), (0, 0, 0))] (by decide +kernel) rfl ?_
                  exact hx_call (E := (93, .invokevirtual 275, 3, 200, 0, 6171, 0)) (M' := yp_m200) [.inr (.inl 86), .inl (m 104 (x1).toNat)] [] rfl (by decide +kernel) rfl ⟨rfl, rfl⟩ rfl rfl (hx_mono (h1 c1 c2 c3 c4 c5) (fun r m' h' => hx_pick [0, 1, 2, 3, 4, 5] h'))
                · have c5 : (m 106 (x1).toNat) = 91 := by have h : ¬ ((m 106 (x1).toNat) ≠ 91) := c5; omega
                  refine hx_blk (npc := 87) (L' := [(0, .inr (.inl 86)), (1, .inl x1), (2, .inl (m 104 (x1).toNat)), (3, .inl (m 105 (x1).toNat)), (4, .inl (m 107 (x1).toNat)), (5, .inl (m 108 (x1).toNat))]) (st' := [.inl (m 107 (x1).toNat), .inl (m 105 (x1).toNat), .inl (m 104 (x1).toNat), .inr (.inl 86)]) (m' := m) [((82, .aload_n 0, 1, 0, 0, 0, 0), (0, 0, 0)), ((83, .iload_n 2, 1, 0, 0, 0, 0), (0, 0, 0)), ((84, .iload_n 3, 1, 0, 0, 0, 0), (0, 0, 0)), ((85, .iload 4, 2, 0, 0, 0, 0), (0, 0, 0))] (by decide +kernel) rfl ?_
                  exact hx_call (E := (87, .invokevirtual 272, 3, 197, 0, 6160, 0)) (M' := yp_m197) [.inr (.inl 86), .inl (m 104 (x1).toNat), .inl (m 105 (x1).toNat), .inl (m 107 (x1).toNat)] [] rfl (by decide +kernel) rfl ⟨rfl, rfl⟩ rfl rfl (hx_mono (h2 c1 c2 c3 c4 c5) (fun r m' h' => hx_pick [] h'))
              · have c4 : (m 87 (gx_w (240 + (m 104 (x1).toNat))).toNat) ≠ (m 105 (x1).toNat) := c4
                refine hx_blk (npc := 70) (L' := [(0, .inr (.inl 86)), (1, .inl x1), (2, .inl (m 104 (x1).toNat)), (3, .inl (m 105 (x1).toNat)), (4, .inl (m 107 (x1).toNat)), (5, .inl (m 108 (x1).toNat))]) (st' := [.inl 0]) (m' := m) [((69, .iconst 0, 1, 0, 0, 0, 0), (0, 0, 0))] (by decide +kernel) rfl ?_
                exact hx_reti (by decide +kernel) (h3 c1 c2 c3 c4)
          · have c3 : ¬ (aPers (m 87) (m 107 (x1).toNat)) := c3
            show hxn xs n yp_m195 52 [(0, .inr (.inl 86)), (1, .inl x1), (2, .inl (m 104 (x1).toNat)), (3, .inl (m 105 (x1).toNat)), (4, .inl (m 107 (x1).toNat)), (5, .inl (m 108 (x1).toNat))] [.inl 0] m Q
            refine hx_if .eq 69 (by decide +kernel) (fun c4 => ?_) (fun c4 => ?_)
            · have c4 : (0 : Int) = 0 := c4
              refine hx_blk (npc := 70) (L' := [(0, .inr (.inl 86)), (1, .inl x1), (2, .inl (m 104 (x1).toNat)), (3, .inl (m 105 (x1).toNat)), (4, .inl (m 107 (x1).toNat)), (5, .inl (m 108 (x1).toNat))]) (st' := [.inl 0]) (m' := m) [((69, .iconst 0, 1, 0, 0, 0, 0), (0, 0, 0))] (by decide +kernel) rfl ?_
              exact hx_reti (by decide +kernel) (h4 c1 c2 c3)
            · have c4 : (0 : Int) ≠ 0 := c4
              exfalso; omega
      · have c2 : ¬ (aPers (m 87) (m 105 (x1).toNat)) := c2
        show hxn xs n yp_m195 43 [(0, .inr (.inl 86)), (1, .inl x1), (2, .inl (m 104 (x1).toNat)), (3, .inl (m 105 (x1).toNat)), (4, .inl (m 107 (x1).toNat)), (5, .inl (m 108 (x1).toNat))] [.inl 0] m Q
        refine hx_if .eq 69 (by decide +kernel) (fun c3 => ?_) (fun c3 => ?_)
        · have c3 : (0 : Int) = 0 := c3
          refine hx_blk (npc := 70) (L' := [(0, .inr (.inl 86)), (1, .inl x1), (2, .inl (m 104 (x1).toNat)), (3, .inl (m 105 (x1).toNat)), (4, .inl (m 107 (x1).toNat)), (5, .inl (m 108 (x1).toNat))]) (st' := [.inl 0]) (m' := m) [((69, .iconst 0, 1, 0, 0, 0, 0), (0, 0, 0))] (by decide +kernel) rfl ?_
          exact hx_reti (by decide +kernel) (h5 c1 c2)
        · have c3 : (0 : Int) ≠ 0 := c3
          exfalso; omega
  · have c1 : ¬ (aYr (m 87) (m 104 (x1).toNat)) := c1
    show hxn xs n yp_m195 35 [(0, .inr (.inl 86)), (1, .inl x1), (2, .inl (m 104 (x1).toNat)), (3, .inl (m 105 (x1).toNat)), (4, .inl (m 107 (x1).toNat)), (5, .inl (m 108 (x1).toNat))] [.inl 0] m Q
    refine hx_if .eq 69 (by decide +kernel) (fun c2 => ?_) (fun c2 => ?_)
    · have c2 : (0 : Int) = 0 := c2
      refine hx_blk (npc := 70) (L' := [(0, .inr (.inl 86)), (1, .inl x1), (2, .inl (m 104 (x1).toNat)), (3, .inl (m 105 (x1).toNat)), (4, .inl (m 107 (x1).toNat)), (5, .inl (m 108 (x1).toNat))]) (st' := [.inl 0]) (m' := m) [((69, .iconst 0, 1, 0, 0, 0, 0), (0, 0, 0))] (by decide +kernel) rfl ?_
      exact hx_reti (by decide +kernel) (h6 c1)
    · have c2 : (0 : Int) ≠ 0 := c2
      exfalso; omega

/-- does from 90 on -/
theorem hr195_90 {xs : List Int32} {n : Nat} {Q : hQ} {m : gx_M} {s0 : Int}
    (h1 : Q (some (.inl s0)) m) : hxn xs (n + 1) yp_m195 90 [] [.inl s0] m Q := by
  exact hx_reti (by decide +kernel) h1

/-- does from 96 on -/
theorem hr195_96 {xs : List Int32} {n : Nat} {Q : hQ} {m : gx_M} {x1 x2 x3 x4 x5 s0 : Int}
    (h1 : (s0 ≠ 0) → Q (some (.inl 0)) m)
    (h2 : (s0 = 0) → hxn xs n yp_m201 0 [(0, .inr (.inl 86)), (1, .inl x2), (2, .inl x4), (3, .inl x5)] [] m (fun r m' => hxn xs n yp_m195 108 [(0, .inr (.inl 86)), (1, .inl x1), (2, .inl x2), (3, .inl x3), (4, .inl x4), (5, .inl x5)] (hrs r ++ []) m' Q)) : hxn xs (n + 1) yp_m195 96 [(0, .inr (.inl 86)), (1, .inl x1), (2, .inl x2), (3, .inl x3), (4, .inl x4), (5, .inl x5)] [.inl s0] m Q := by
  refine hx_ifs .ne 127 (by decide +kernel) (fun c1 => ?_) (fun c1 => ?_)
  · have c1 : s0 ≠ 0 := c1
    refine hx_blk (npc := 128) (L' := [(0, .inr (.inl 86)), (1, .inl x1), (2, .inl x2), (3, .inl x3), (4, .inl x4), (5, .inl x5)]) (st' := [.inl 0]) (m' := m) [((127, .iconst 0, 1, 0, 0, 0, 0), (0, 0, 0))] (by decide +kernel) rfl ?_
    exact hx_reti (by decide +kernel) (h1 c1)
  · have c1 : s0 = 0 := by have h : ¬ (s0 ≠ 0) := c1; omega
    refine hx_blk (npc := 105) (L' := [(0, .inr (.inl 86)), (1, .inl x1), (2, .inl x2), (3, .inl x3), (4, .inl x4), (5, .inl x5)]) (st' := [.inl x5, .inl x4, .inl x2, .inr (.inl 86)]) (m' := m) [((99, .aload_n 0, 1, 0, 0, 0, 0), (0, 0, 0)), ((100, .iload_n 2, 1, 0, 0, 0, 0), (0, 0, 0)), ((101, .iload 4, 2, 0, 0, 0, 0), (0, 0, 0)), ((103, .iload 5, 2, 0, 0, 0, 0), (0, 0, 0))] (by decide +kernel) rfl ?_
    exact hx_call (E := (105, .invokevirtual 278, 3, 201, 0, 6175, 0)) (M' := yp_m201) [.inr (.inl 86), .inl x2, .inl x4, .inl x5] [] rfl (by decide +kernel) rfl ⟨rfl, rfl⟩ rfl rfl (hx_mono (h2 c1) (fun r m' h' => hx_pick [0, 1, 2, 3, 4, 5] h'))

/-- does from 108 on -/
theorem hr195_108 {xs : List Int32} {n : Nat} {Q : hQ} {m : gx_M} {x1 x2 x3 x4 x5 s0 : Int}
    (h1 : (s0 ≠ 0) → Q (some (.inl 0)) m)
    (h2 : (s0 = 0) → (x5 ≤ (m 87 (gx_w (1120 + x4)).toNat)) → hxn xs n yp_m198 0 [(0, .inr (.inl 86)), (1, .inl x3), (2, .inl x5)] [] (gx_u m 87 (gx_w (1120 + x4)).toNat (gx_w ((m 87 (gx_w (1120 + x4)).toNat) - x5))) (fun r m' => hxn xs n yp_m195 170 [(0, .inr (.inl 86)), (1, .inl x1), (2, .inl x2), (4, .inl x4), (5, .inl x5)] (hrs r ++ [.inl (gx_w (1120 + x3)), .inr (.inl 87)]) m' Q))
    (h3 : (s0 = 0) → ((m 87 (gx_w (1120 + x4)).toNat) < x5) → Q (some (.inl 0)) m) : hxn xs (n + 1) yp_m195 108 [(0, .inr (.inl 86)), (1, .inl x1), (2, .inl x2), (3, .inl x3), (4, .inl x4), (5, .inl x5)] [.inl s0] m Q := by
  refine hx_ifs .ne 127 (by decide +kernel) (fun c1 => ?_) (fun c1 => ?_)
  · have c1 : s0 ≠ 0 := c1
    refine hx_blk (npc := 128) (L' := [(0, .inr (.inl 86)), (1, .inl x1), (2, .inl x2), (3, .inl x3), (4, .inl x4), (5, .inl x5)]) (st' := [.inl 0]) (m' := m) [((127, .iconst 0, 1, 0, 0, 0, 0), (0, 0, 0))] (by decide +kernel) rfl ?_
    exact hx_reti (by decide +kernel) (h1 c1)
  · have c1 : s0 = 0 := by have h : ¬ (s0 ≠ 0) := c1; omega
    refine hx_blk (npc := 124) (L' := [(0, .inr (.inl 86)), (1, .inl x1), (2, .inl x2), (3, .inl x3), (4, .inl x4), (5, .inl x5)]) (st' := [.inl x5, .inl (m 87 (gx_w (1120 + x4)).toNat)]) (m' := m) [((111, .aload_n 0, 1, 0, 0, 0, 0), (0, 0, 0)), ((112, .getfield 7, 3, 10, 0, 5113, 0), (1, 86, 87)), ((115, .sipush 1120, 3, 0, 0, 0, 0), (0, 0, 0)), ((118, .iload 4, 2, 0, 0, 0, 0), (0, 0, 0)), ((120, .iadd, 1, 0, 0, 0, 0), (0, 0, 0)), ((121, .iaload, 1, 0, 0, 0, 0), (0, 87, 0)), ((122, .iload 5, 2, 0, 0, 0, 0), (0, 0, 0))] (by decide +kernel) rfl ?_
    refine hx_cmp .ge 129 (by decide +kernel) (fun c2 => ?_) (fun c2 => ?_)
    · have c2 : x5 ≤ (m 87 (gx_w (1120 + x4)).toNat) := c2
      refine hx_blk (npc := 167) (L' := [(0, .inr (.inl 86)), (1, .inl x1), (2, .inl x2), (3, .inl x3), (4, .inl x4), (5, .inl x5)]) (st' := [.inl x5, .inl x3, .inr (.inl 86), .inl (gx_w (1120 + x3)), .inr (.inl 87)]) (m' := (gx_u m 87 (gx_w (1120 + x4)).toNat (gx_w ((m 87 (gx_w (1120 + x4)).toNat) - x5)))) [((129, .aload_n 0, 1, 0, 0, 0, 0), (0, 0, 0)), ((130, .getfield 7, 3, 10, 0, 5113, 0), (1, 86, 87)), ((133, .sipush 1120, 3, 0, 0, 0, 0), (0, 0, 0)), ((136, .iload 4, 2, 0, 0, 0, 0), (0, 0, 0)), ((138, .iadd, 1, 0, 0, 0, 0), (0, 0, 0)), ((139, .aload_n 0, 1, 0, 0, 0, 0), (0, 0, 0)), ((140, .getfield 7, 3, 10, 0, 5113, 0), (1, 86, 87)), ((143, .sipush 1120, 3, 0, 0, 0, 0), (0, 0, 0)), ((146, .iload 4, 2, 0, 0, 0, 0), (0, 0, 0)), ((148, .iadd, 1, 0, 0, 0, 0), (0, 0, 0)), ((149, .iaload, 1, 0, 0, 0, 0), (0, 87, 0)), ((150, .iload 5, 2, 0, 0, 0, 0), (0, 0, 0)), ((152, .isub, 1, 0, 0, 0, 0), (0, 0, 0)), ((153, .iastore, 1, 0, 0, 0, 0), (0, 87, 0)), ((154, .aload_n 0, 1, 0, 0, 0, 0), (0, 0, 0)), ((155, .getfield 7, 3, 10, 0, 5113, 0), (1, 86, 87)), ((158, .sipush 1120, 3, 0, 0, 0, 0), (0, 0, 0)), ((161, .iload_n 3, 1, 0, 0, 0, 0), (0, 0, 0)), ((162, .iadd, 1, 0, 0, 0, 0), (0, 0, 0)), ((163, .aload_n 0, 1, 0, 0, 0, 0), (0, 0, 0)), ((164, .iload_n 3, 1, 0, 0, 0, 0), (0, 0, 0)), ((165, .iload 5, 2, 0, 0, 0, 0), (0, 0, 0))] (by decide +kernel) rfl ?_
      exact hx_call (E := (167, .invokevirtual 266, 3, 198, 0, 6164, 0)) (M' := yp_m198) [.inr (.inl 86), .inl x3, .inl x5] [.inl (gx_w (1120 + x3)), .inr (.inl 87)] rfl (by decide +kernel) rfl ⟨rfl, rfl⟩ rfl rfl (hx_mono (h2 c1 c2) (fun r m' h' => hx_pick [0, 1, 2, 4, 5] h'))
    · have c2 : (m 87 (gx_w (1120 + x4)).toNat) < x5 := by have h : ¬ (x5 ≤ (m 87 (gx_w (1120 + x4)).toNat)) := c2; omega
      refine hx_blk (npc := 128) (L' := [(0, .inr (.inl 86)), (1, .inl x1), (2, .inl x2), (3, .inl x3), (4, .inl x4), (5, .inl x5)]) (st' := [.inl 0]) (m' := m) [((127, .iconst 0, 1, 0, 0, 0, 0), (0, 0, 0))] (by decide +kernel) rfl ?_
      exact hx_reti (by decide +kernel) (h3 c1 c2)

/-- does from 170 on -/
theorem hr195_170 {xs : List Int32} {n : Nat} {Q : hQ} {m : gx_M} {x1 x2 x4 x5 s1 s2 : Int}
    (h1 : ((m 106 (x1).toNat) = 93) → Q (some (.inl 1)) (gx_u (gx_u (gx_u (gx_u m 87 (s1).toNat s2) 87 (gx_w (280 + x2)).toNat x4) 87 (gx_w (320 + x2)).toNat x5) 87 (gx_w (360 + x2)).toNat x5))
    (h2 : ((m 106 (x1).toNat) ≠ 93) → hxn xs n yp_m210 0 [(0, .inr (.inl 86)), (1, .inl x2), (2, .inl x4)] [] (gx_u m 87 (s1).toNat s2) (fun r m' => hxn xs n yp_m195 189 [] (hrs r ++ []) m' Q)) : hxn xs (n + 1) yp_m195 170 [(0, .inr (.inl 86)), (1, .inl x1), (2, .inl x2), (4, .inl x4), (5, .inl x5)] [.inl s2, .inl s1, .inr (.inl 87)] m Q := by
  refine hx_blks (npc := 179) (L' := [(0, .inr (.inl 86)), (1, .inl x1), (2, .inl x2), (4, .inl x4), (5, .inl x5)]) (st' := [.inl 93, .inl (m 106 (x1).toNat)]) (m' := (gx_u m 87 (s1).toNat s2)) ((170, .iastore, 1, 0, 0, 0, 0), (0, 87, 0)) [((171, .aload_n 0, 1, 0, 0, 0, 0), (0, 0, 0)), ((172, .getfield 68, 3, 10, 29, 5142, 0), (1, 86, 106)), ((175, .iload_n 1, 1, 0, 0, 0, 0), (0, 0, 0)), ((176, .iaload, 1, 0, 0, 0, 0), (0, 106, 0)), ((177, .bipush 93, 2, 0, 0, 0, 0), (0, 0, 0))] (by decide +kernel) rfl ?_
  refine hx_cmp .eq 191 (by decide +kernel) (fun c1 => ?_) (fun c1 => ?_)
  · have c1 : (m 106 (x1).toNat) = 93 := c1
    refine hx_blk (npc := 228) (L' := [(0, .inr (.inl 86)), (1, .inl x1), (2, .inl x2), (4, .inl x4), (5, .inl x5)]) (st' := [.inl 1]) (m' := (gx_u (gx_u (gx_u (gx_u m 87 (s1).toNat s2) 87 (gx_w (280 + x2)).toNat x4) 87 (gx_w (320 + x2)).toNat x5) 87 (gx_w (360 + x2)).toNat x5)) [((191, .aload_n 0, 1, 0, 0, 0, 0), (0, 0, 0)), ((192, .getfield 7, 3, 10, 0, 5113, 0), (1, 86, 87)), ((195, .sipush 280, 3, 0, 0, 0, 0), (0, 0, 0)), ((198, .iload_n 2, 1, 0, 0, 0, 0), (0, 0, 0)), ((199, .iadd, 1, 0, 0, 0, 0), (0, 0, 0)), ((200, .iload 4, 2, 0, 0, 0, 0), (0, 0, 0)), ((202, .iastore, 1, 0, 0, 0, 0), (0, 87, 0)), ((203, .aload_n 0, 1, 0, 0, 0, 0), (0, 0, 0)), ((204, .getfield 7, 3, 10, 0, 5113, 0), (1, 86, 87)), ((207, .sipush 320, 3, 0, 0, 0, 0), (0, 0, 0)), ((210, .iload_n 2, 1, 0, 0, 0, 0), (0, 0, 0)), ((211, .iadd, 1, 0, 0, 0, 0), (0, 0, 0)), ((212, .iload 5, 2, 0, 0, 0, 0), (0, 0, 0)), ((214, .iastore, 1, 0, 0, 0, 0), (0, 87, 0)), ((215, .aload_n 0, 1, 0, 0, 0, 0), (0, 0, 0)), ((216, .getfield 7, 3, 10, 0, 5113, 0), (1, 86, 87)), ((219, .sipush 360, 3, 0, 0, 0, 0), (0, 0, 0)), ((222, .iload_n 2, 1, 0, 0, 0, 0), (0, 0, 0)), ((223, .iadd, 1, 0, 0, 0, 0), (0, 0, 0)), ((224, .iload 5, 2, 0, 0, 0, 0), (0, 0, 0)), ((226, .iastore, 1, 0, 0, 0, 0), (0, 87, 0)), ((227, .iconst 1, 1, 0, 0, 0, 0), (0, 0, 0))] (by decide +kernel) rfl ?_
    exact hx_reti (by decide +kernel) (h1 c1)
  · have c1 : (m 106 (x1).toNat) ≠ 93 := c1
    refine hx_blk (npc := 186) (L' := [(0, .inr (.inl 86)), (1, .inl x1), (2, .inl x2), (4, .inl x4), (5, .inl x5)]) (st' := [.inl x4, .inl x2, .inr (.inl 86)]) (m' := (gx_u m 87 (s1).toNat s2)) [((182, .aload_n 0, 1, 0, 0, 0, 0), (0, 0, 0)), ((183, .iload_n 2, 1, 0, 0, 0, 0), (0, 0, 0)), ((184, .iload 4, 2, 0, 0, 0, 0), (0, 0, 0))] (by decide +kernel) rfl ?_
    exact hx_call (E := (186, .invokevirtual 281, 3, 210, 0, 6209, 0)) (M' := yp_m210) [.inr (.inl 86), .inl x2, .inl x4] [] rfl (by decide +kernel) rfl ⟨rfl, rfl⟩ rfl rfl (hx_mono (h2 c1) (fun r m' h' => hx_pick [] h'))

/-- does from 189 on -/
theorem hr195_189 {xs : List Int32} {n : Nat} {Q : hQ} {m : gx_M}
    (h1 : Q (some (.inl 1)) m) : hxn xs (n + 1) yp_m195 189 [] [] m Q := by
  refine hx_blks (npc := 190) (L' := []) (st' := [.inl 1]) (m' := m) ((189, .iconst 1, 1, 0, 0, 0, 0), (0, 0, 0)) [] (by decide +kernel) rfl ?_
  exact hx_reti (by decide +kernel) h1
end
