section
/-! what stands when nothing of the state is written -/
theorem hPR_of {m m' : gx_M} (h : ∀ c k, ((c = 0 ∧ 12 ≤ k ∧ k < 14) ∨ (5 ≤ c ∧ c ≤ 30) ∨ (c = 44 ∧ k = 7) ∨ (45 ≤ c ∧ c ≤ 50) ∨ (c = 86 ∧ (k = 13 ∨ k = 44 ∨ k = 47)) ∨ (c = 87 ∧ k < 1131) ∨ (c = 89 ∧ k < 1131) ∨ (97 ≤ c ∧ c ≤ 101)) → m' c k = m c k) : hAg hPR m m' := by
  intro q hq k h1 h2
  refine h q.1 k ?_
  simp only [hPR, hPL, List.cons_append, List.nil_append, List.mem_cons, List.not_mem_nil, or_false] at hq
  rcases hq with rfl | rfl | rfl | rfl | rfl | rfl | rfl | rfl | rfl | rfl | rfl | rfl | rfl | rfl | rfl | rfl | rfl | rfl | rfl | rfl | rfl | rfl | rfl | rfl | rfl | rfl | rfl | rfl | rfl | rfl | rfl | rfl | rfl | rfl | rfl | rfl | rfl | rfl | rfl | rfl | rfl | rfl | rfl | rfl <;> (dsimp only at h1 h2 ⊢; omega)
theorem cLf_R {m m' : gx_M} (h : cLf m m') : hAg hPR m m' := hPR_of (fun c k hc => h c k (by omega) (by omega))
theorem rLf_R {m m' : gx_M} (h : rLf m m') : hAg hPR m m' := hPR_of (fun c k hc => congrFun (h c (by omega) (by omega)) k)
end
section
/-! count, check: roads -/
/-- allCoins from 0 on -/
theorem hr138_0 {xs : List Int32} {n : Nat} {Q : hQ} {m : gx_M}
    (h1 : hxn xs n yp_m138 4 [(0, .inr (.inl 5)), (1, .inl 0), (2, .inl 0)] [] m Q) : hxn xs (n + 1) yp_m138 0 [(0, .inr (.inl 5))] [] m Q := by
  refine hx_blks (npc := 4) (L' := [(0, .inr (.inl 5)), (1, .inl 0), (2, .inl 0)]) (st' := []) (m' := m) ((0, .iconst 0, 1, 0, 0, 0, 0), (0, 0, 0)) [((1, .istore_n 1, 1, 0, 0, 0, 0), (0, 0, 0)), ((2, .iconst 0, 1, 0, 0, 0, 0), (0, 0, 0)), ((3, .istore_n 2, 1, 0, 0, 0, 0), (0, 0, 0))] (by decide +kernel) rfl ?_
  exact hx_pick [0, 1, 2] h1

/-- allCoins from 4 on -/
theorem hr138_4 {xs : List Int32} {n : Nat} {Q : hQ} {m : gx_M} {x1 x2 : Int}
    (h1 : (8 ≤ x2) → Q (some (.inl x1)) m)
    (h2 : (x2 < 8) → hxn xs n yp_m62 0 [(0, .inr (.inl 5)), (1, .inl x2)] [] m (fun r m' => hxn xs n yp_m138 16 [(0, .inr (.inl 5)), (2, .inl x2)] (hrs r ++ [.inl x1]) m' Q)) : hxn xs (n + 1) yp_m138 4 [(0, .inr (.inl 5)), (1, .inl x1), (2, .inl x2)] [] m Q := by
  refine hx_blks (npc := 7) (L' := [(0, .inr (.inl 5)), (1, .inl x1), (2, .inl x2)]) (st' := [.inl 8, .inl x2]) (m' := m) ((4, .iload_n 2, 1, 0, 0, 0, 0), (0, 0, 0)) [((5, .bipush 8, 2, 0, 0, 0, 0), (0, 0, 0))] (by decide +kernel) rfl ?_
  refine hx_cmp .ge 24 (by decide +kernel) (fun c1 => ?_) (fun c1 => ?_)
  · have c1 : 8 ≤ x2 := c1
    refine hx_blk (npc := 25) (L' := [(0, .inr (.inl 5)), (1, .inl x1), (2, .inl x2)]) (st' := [.inl x1]) (m' := m) [((24, .iload_n 1, 1, 0, 0, 0, 0), (0, 0, 0))] (by decide +kernel) rfl ?_
    exact hx_reti (by decide +kernel) (h1 c1)
  · have c1 : x2 < 8 := by have h : ¬ (8 ≤ x2) := c1; omega
    refine hx_blk (npc := 13) (L' := [(0, .inr (.inl 5)), (1, .inl x1), (2, .inl x2)]) (st' := [.inl x2, .inr (.inl 5), .inl x1]) (m' := m) [((10, .iload_n 1, 1, 0, 0, 0, 0), (0, 0, 0)), ((11, .aload_n 0, 1, 0, 0, 0, 0), (0, 0, 0)), ((12, .iload_n 2, 1, 0, 0, 0, 0), (0, 0, 0))] (by decide +kernel) rfl ?_
    exact hx_call (E := (13, .invokevirtual 102, 3, 62, 0, 5017, 0)) (M' := yp_m62) [.inr (.inl 5), .inl x2] [.inl x1] rfl (by decide +kernel) rfl ⟨rfl, rfl⟩ rfl rfl (hx_mono (h2 c1) (fun r m' h' => hx_pick [0, 2] h'))

/-- allCoins from 16 on -/
theorem hr138_16 {xs : List Int32} {n : Nat} {Q : hQ} {m : gx_M} {x2 s0 s1 : Int}
    (h1 : hxn xs n yp_m138 4 [(0, .inr (.inl 5)), (1, .inl (gx_w (s0 + s1))), (2, .inl (gx_w (x2 + 1)))] [] m Q) : hxn xs (n + 1) yp_m138 16 [(0, .inr (.inl 5)), (2, .inl x2)] [.inl s1, .inl s0] m Q := by
  refine hx_blks (npc := 4) (L' := [(0, .inr (.inl 5)), (2, .inl (gx_w (x2 + 1))), (1, .inl (gx_w (s0 + s1)))]) (st' := []) (m' := m) ((16, .iadd, 1, 0, 0, 0, 0), (0, 0, 0)) [((17, .istore_n 1, 1, 0, 0, 0, 0), (0, 0, 0)), ((18, .iinc 2 1, 3, 0, 0, 0, 0), (0, 0, 0)), ((21, .goto (-17), 3, 0, 0, 0, 0), (0, 0, 0))] (by decide +kernel) rfl ?_
  exact hx_pick [0, 1, 2] h1

/-- pawns from 0 on -/
theorem hr159_0 {xs : List Int32} {n : Nat} {Q : hQ} {m : gx_M}
    (h1 : hxn xs n yp_m159 4 [(0, .inr (.inl 5)), (1, .inl 0), (2, .inl 0)] [] m Q) : hxn xs (n + 1) yp_m159 0 [(0, .inr (.inl 5))] [] m Q := by
  refine hx_blks (npc := 4) (L' := [(0, .inr (.inl 5)), (1, .inl 0), (2, .inl 0)]) (st' := []) (m' := m) ((0, .iconst 0, 1, 0, 0, 0, 0), (0, 0, 0)) [((1, .istore_n 1, 1, 0, 0, 0, 0), (0, 0, 0)), ((2, .iconst 0, 1, 0, 0, 0, 0), (0, 0, 0)), ((3, .istore_n 2, 1, 0, 0, 0, 0), (0, 0, 0))] (by decide +kernel) rfl ?_
  exact hx_pick [0, 1, 2] h1

/-- pawns from 4 on -/
theorem hr159_4 {xs : List Int32} {n : Nat} {Q : hQ} {m : gx_M} {x1 x2 : Int}
    (h1 : (40 ≤ x2) → Q (some (.inl x1)) m)
    (h2 : (x2 < 40) → (cPwd 5 13 m x2) → hxn xs n yp_m159 4 [(0, .inr (.inl 5)), (1, .inl (gx_w (x1 + 1))), (2, .inl (gx_w (x2 + 1)))] [] m Q)
    (h3 : (x2 < 40) → (¬ (cPwd 5 13 m x2)) → hxn xs n yp_m159 4 [(0, .inr (.inl 5)), (1, .inl x1), (2, .inl (gx_w (x2 + 1)))] [] m Q) : hxn xs (n + 1) yp_m159 4 [(0, .inr (.inl 5)), (1, .inl x1), (2, .inl x2)] [] m Q := by
  refine hx_blks (npc := 7) (L' := [(0, .inr (.inl 5)), (1, .inl x1), (2, .inl x2)]) (st' := [.inl 40, .inl x2]) (m' := m) ((4, .iload_n 2, 1, 0, 0, 0, 0), (0, 0, 0)) [((5, .bipush 40, 2, 0, 0, 0, 0), (0, 0, 0))] (by decide +kernel) rfl ?_
  refine hx_cmp .ge 27 (by decide +kernel) (fun c1 => ?_) (fun c1 => ?_)
  · have c1 : 40 ≤ x2 := c1
    refine hx_blk (npc := 28) (L' := [(0, .inr (.inl 5)), (1, .inl x1), (2, .inl x2)]) (st' := [.inl x1]) (m' := m) [((27, .iload_n 1, 1, 0, 0, 0, 0), (0, 0, 0))] (by decide +kernel) rfl ?_
    exact hx_reti (by decide +kernel) (h1 c1)
  · have c1 : x2 < 40 := by have h : ¬ (40 ≤ x2) := c1; omega
    refine hx_blk (npc := 12) (L' := [(0, .inr (.inl 5)), (1, .inl x1), (2, .inl x2)]) (st' := [.inl x2, .inr (.inl 5)]) (m' := m) [((10, .aload_n 0, 1, 0, 0, 0, 0), (0, 0, 0)), ((11, .iload_n 2, 1, 0, 0, 0, 0), (0, 0, 0))] (by decide +kernel) rfl ?_
    refine hx_call (E := (12, .invokevirtual 106, 3, 79, 0, 3230, 0)) (M' := yp_m79) [.inr (.inl 5), .inl x2] [] rfl (by decide +kernel) rfl ⟨rfl, rfl⟩ rfl rfl (hs79_5 (fun c2 => ?_) (fun c2 => ?_))
    · have c2 : cPwd 5 13 m x2 := c2
      show hxn xs n yp_m159 15 [(0, .inr (.inl 5)), (1, .inl x1), (2, .inl x2)] [.inl 1] m Q
      refine hx_if .eq 21 (by decide +kernel) (fun c3 => ?_) (fun c3 => ?_)
      · have c3 : (1 : Int) = 0 := c3
        exfalso; omega
      · have c3 : (1 : Int) ≠ 0 := c3
        refine hx_blk (npc := 4) (L' := [(0, .inr (.inl 5)), (1, .inl (gx_w (x1 + 1))), (2, .inl (gx_w (x2 + 1)))]) (st' := []) (m' := m) [((18, .iinc 1 1, 3, 0, 0, 0, 0), (0, 0, 0)), ((21, .iinc 2 1, 3, 0, 0, 0, 0), (0, 0, 0)), ((24, .goto (-20), 3, 0, 0, 0, 0), (0, 0, 0))] (by decide +kernel) rfl ?_
        exact hx_pick [0, 1, 2] (h2 c1 c2)
    · have c2 : ¬ (cPwd 5 13 m x2) := c2
      show hxn xs n yp_m159 15 [(0, .inr (.inl 5)), (1, .inl x1), (2, .inl x2)] [.inl 0] m Q
      refine hx_if .eq 21 (by decide +kernel) (fun c3 => ?_) (fun c3 => ?_)
      · have c3 : (0 : Int) = 0 := c3
        refine hx_blk (npc := 4) (L' := [(0, .inr (.inl 5)), (1, .inl x1), (2, .inl (gx_w (x2 + 1)))]) (st' := []) (m' := m) [((21, .iinc 2 1, 3, 0, 0, 0, 0), (0, 0, 0)), ((24, .goto (-20), 3, 0, 0, 0, 0), (0, 0, 0))] (by decide +kernel) rfl ?_
        exact hx_pick [0, 1, 2] (h3 c1 c2)
      · have c3 : (0 : Int) ≠ 0 := c3
        exfalso; omega

/-- count from 0 on -/
theorem hr158_0 {xs : List Int32} {n : Nat} {Q : hQ} {m : gx_M} {x1 : Int}
    (h1 : (x1 = 0) → Q (some (.inl (m 5 0))) m)
    (h2 : (x1 ≠ 0) → (x1 = 1) → hxn xs n yp_m61 0 [(0, .inr (.inr (m 5 1)))] [] m (fun r m' => hxn xs n yp_m158 70 [] (hrs r ++ []) m' Q))
    (h3 : (x1 ≠ 0) → (x1 ≠ 1) → (x1 = 2) → Q (some (.inl (m 44 7))) m)
    (h4 : (x1 ≠ 0) → (x1 ≠ 1) → (x1 ≠ 2) → (x1 = 3) → Q (some (.inl (m 1 1))) m)
    (h5 : (x1 ≠ 0) → (x1 ≠ 1) → (x1 ≠ 2) → (x1 ≠ 3) → (x1 = 4) → Q (some (.inl (m 5 4))) m)
    (h6 : (x1 ≠ 0) → (x1 ≠ 1) → (x1 ≠ 2) → (x1 ≠ 3) → (x1 ≠ 4) → (x1 = 5) → Q (some (.inl (m 5 3))) m)
    (h7 : (x1 ≠ 0) → (x1 ≠ 1) → (x1 ≠ 2) → (x1 ≠ 3) → (x1 ≠ 4) → (x1 ≠ 5) → (x1 = 6) → hxn xs n yp_m159 0 [(0, .inr (.inl 5))] [] m (fun r m' => hxn xs n yp_m158 110 [] (hrs r ++ []) m' Q))
    (h8 : (x1 ≠ 0) → (x1 ≠ 1) → (x1 ≠ 2) → (x1 ≠ 3) → (x1 ≠ 4) → (x1 ≠ 5) → (x1 ≠ 6) → (x1 = 7) → hxn xs n yp_m138 0 [(0, .inr (.inl 5))] [] m (fun r m' => hxn xs n yp_m158 118 [] (hrs r ++ []) m' Q))
    (h9 : (x1 ≠ 0) → (x1 ≠ 1) → (x1 ≠ 2) → (x1 ≠ 3) → (x1 ≠ 4) → (x1 ≠ 5) → (x1 ≠ 6) → (x1 ≠ 7) → (x1 = 8) → Q (some (.inl (m 0 13))) m)
    (h10 : (x1 ≠ 0) → (x1 ≠ 1) → (x1 ≠ 2) → (x1 ≠ 3) → (x1 ≠ 4) → (x1 ≠ 5) → (x1 ≠ 6) → (x1 ≠ 7) → (x1 ≠ 8) → Q (some (.inl (-1))) m) : hxn xs (n + 1) yp_m158 0 [(0, .inr (.inl 0)), (1, .inl x1)] [] m Q := by
  refine hx_blks (npc := 1) (L' := [(0, .inr (.inl 0)), (1, .inl x1)]) (st' := [.inl x1]) (m' := m) ((0, .iload_n 1, 1, 0, 0, 0, 0), (0, 0, 0)) [] (by decide +kernel) rfl ?_
  refine hx_tsw 124 [(0, 52), (1, 60), (2, 71), (3, 79), (4, 87), (5, 95), (6, 103), (7, 111), (8, 119)] (by decide +kernel) ?_
  refine hsw_c (fun c1 => ?_) (fun c1 => ?_)
  · have c1 : x1 = 0 := c1
    refine hx_blk (npc := 59) (L' := [(0, .inr (.inl 0)), (1, .inl x1)]) (st' := [.inl (m 5 0)]) (m' := m) [((52, .aload_n 0, 1, 0, 0, 0, 0), (0, 0, 0)), ((53, .getfield 26, 3, 9, 2, 2121, 0), (1, 0, 5)), ((56, .getfield 86, 3, 2, 0, 1077, 0), (0, 5, 0))] (by decide +kernel) rfl ?_
    exact hx_reti (by decide +kernel) (h1 c1)
  refine hsw_c (fun c2 => ?_) (fun c2 => ?_)
  · have c2 : x1 = 1 := c2
    refine hx_blk (npc := 67) (L' := [(0, .inr (.inl 0)), (1, .inl x1)]) (st' := [.inr (.inr (m 5 1))]) (m' := m) [((60, .aload_n 0, 1, 0, 0, 0, 0), (0, 0, 0)), ((61, .getfield 26, 3, 9, 2, 2121, 0), (1, 0, 5)), ((64, .getfield 337, 3, 2, 1, 1079, 0), (2, 5, 0))] (by decide +kernel) rfl ?_
    exact hx_call (E := (67, .invokestatic 185, 3, 61, 0, 3216, 0)) (M' := yp_m61) [.inr (.inr (m 5 1))] [] rfl (by decide +kernel) rfl ⟨rfl, rfl⟩ rfl rfl (hx_mono (h2 c1 c2) (fun r m' h' => hx_pick [] h'))
  refine hsw_c (fun c3 => ?_) (fun c3 => ?_)
  · have c3 : x1 = 2 := c3
    refine hx_blk (npc := 78) (L' := [(0, .inr (.inl 0)), (1, .inl x1)]) (st' := [.inl (m 44 7)]) (m' := m) [((71, .aload_n 0, 1, 0, 0, 0, 0), (0, 0, 0)), ((72, .getfield 39, 3, 9, 5, 2124, 0), (1, 0, 44)), ((75, .getfield 146, 3, 3, 7, 1188, 0), (0, 44, 0))] (by decide +kernel) rfl ?_
    exact hx_reti (by decide +kernel) (h3 c1 c2 c3)
  refine hsw_c (fun c4 => ?_) (fun c4 => ?_)
  · have c4 : x1 = 3 := c4
    refine hx_blk (npc := 86) (L' := [(0, .inr (.inl 0)), (1, .inl x1)]) (st' := [.inl (m 1 1)]) (m' := m) [((79, .aload_n 0, 1, 0, 0, 0, 0), (0, 0, 0)), ((80, .getfield 10, 3, 9, 0, 2119, 0), (1, 0, 1)), ((83, .getfield 117, 3, 0, 1, 1035, 0), (0, 1, 0))] (by decide +kernel) rfl ?_
    exact hx_reti (by decide +kernel) (h4 c1 c2 c3 c4)
  refine hsw_c (fun c5 => ?_) (fun c5 => ?_)
  · have c5 : x1 = 4 := c5
    refine hx_blk (npc := 94) (L' := [(0, .inr (.inl 0)), (1, .inl x1)]) (st' := [.inl (m 5 4)]) (m' := m) [((87, .aload_n 0, 1, 0, 0, 0, 0), (0, 0, 0)), ((88, .getfield 26, 3, 9, 2, 2121, 0), (1, 0, 5)), ((91, .getfield 330, 3, 2, 4, 1088, 0), (0, 5, 0))] (by decide +kernel) rfl ?_
    exact hx_reti (by decide +kernel) (h5 c1 c2 c3 c4 c5)
  refine hsw_c (fun c6 => ?_) (fun c6 => ?_)
  · have c6 : x1 = 5 := c6
    refine hx_blk (npc := 102) (L' := [(0, .inr (.inl 0)), (1, .inl x1)]) (st' := [.inl (m 5 3)]) (m' := m) [((95, .aload_n 0, 1, 0, 0, 0, 0), (0, 0, 0)), ((96, .getfield 26, 3, 9, 2, 2121, 0), (1, 0, 5)), ((99, .getfield 344, 3, 2, 3, 1085, 0), (0, 5, 0))] (by decide +kernel) rfl ?_
    exact hx_reti (by decide +kernel) (h6 c1 c2 c3 c4 c5 c6)
  refine hsw_c (fun c7 => ?_) (fun c7 => ?_)
  · have c7 : x1 = 6 := c7
    refine hx_blk (npc := 107) (L' := [(0, .inr (.inl 0)), (1, .inl x1)]) (st' := [.inr (.inl 5)]) (m' := m) [((103, .aload_n 0, 1, 0, 0, 0, 0), (0, 0, 0)), ((104, .getfield 26, 3, 9, 2, 2121, 0), (1, 0, 5))] (by decide +kernel) rfl ?_
    exact hx_call (E := (107, .invokevirtual 347, 3, 159, 0, 5103, 0)) (M' := yp_m159) [.inr (.inl 5)] [] rfl (by decide +kernel) rfl ⟨rfl, rfl⟩ rfl rfl (hx_mono (h7 c1 c2 c3 c4 c5 c6 c7) (fun r m' h' => hx_pick [] h'))
  refine hsw_c (fun c8 => ?_) (fun c8 => ?_)
  · have c8 : x1 = 7 := c8
    refine hx_blk (npc := 115) (L' := [(0, .inr (.inl 0)), (1, .inl x1)]) (st' := [.inr (.inl 5)]) (m' := m) [((111, .aload_n 0, 1, 0, 0, 0, 0), (0, 0, 0)), ((112, .getfield 26, 3, 9, 2, 2121, 0), (1, 0, 5))] (by decide +kernel) rfl ?_
    exact hx_call (E := (115, .invokevirtual 302, 3, 138, 0, 5013, 0)) (M' := yp_m138) [.inr (.inl 5)] [] rfl (by decide +kernel) rfl ⟨rfl, rfl⟩ rfl rfl (hx_mono (h8 c1 c2 c3 c4 c5 c6 c7 c8) (fun r m' h' => hx_pick [] h'))
  refine hsw_c (fun c9 => ?_) (fun c9 => ?_)
  · have c9 : x1 = 8 := c9
    refine hx_blk (npc := 123) (L' := [(0, .inr (.inl 0)), (1, .inl x1)]) (st' := [.inl (m 0 13)]) (m' := m) [((119, .aload_n 0, 1, 0, 0, 0, 0), (0, 0, 0)), ((120, .getfield 299, 3, 9, 13, 2132, 0), (0, 0, 0))] (by decide +kernel) rfl ?_
    exact hx_reti (by decide +kernel) (h9 c1 c2 c3 c4 c5 c6 c7 c8 c9)
  refine hsw_n ?_
  refine hx_blk (npc := 125) (L' := [(0, .inr (.inl 0)), (1, .inl x1)]) (st' := [.inl (-1)]) (m' := m) [((124, .iconst (-1), 1, 0, 0, 0, 0), (0, 0, 0))] (by decide +kernel) rfl ?_
  exact hx_reti (by decide +kernel) (h10 c1 c2 c3 c4 c5 c6 c7 c8 c9)

/-- count from 70 on -/
theorem hr158_70 {xs : List Int32} {n : Nat} {Q : hQ} {m : gx_M} {s0 : Int}
    (h1 : Q (some (.inl s0)) m) : hxn xs (n + 1) yp_m158 70 [] [.inl s0] m Q := by
  exact hx_reti (by decide +kernel) h1

/-- count from 110 on -/
theorem hr158_110 {xs : List Int32} {n : Nat} {Q : hQ} {m : gx_M} {s0 : Int}
    (h1 : Q (some (.inl s0)) m) : hxn xs (n + 1) yp_m158 110 [] [.inl s0] m Q := by
  exact hx_reti (by decide +kernel) h1

/-- count from 118 on -/
theorem hr158_118 {xs : List Int32} {n : Nat} {Q : hQ} {m : gx_M} {s0 : Int}
    (h1 : Q (some (.inl s0)) m) : hxn xs (n + 1) yp_m158 118 [] [.inl s0] m Q := by
  exact hx_reti (by decide +kernel) h1

/-- number from 0 on -/
theorem hr157_0 {xs : List Int32} {n : Nat} {Q : hQ} {m : gx_M} {x1 : Int}
    (h1 : hxn xs n yp_m25 0 [(0, .inr (.inl 3)), (1, .inl (gx_w (4 * x1)))] [] m (fun r m' => hxn xs n yp_m157 9 [(0, .inr (.inl 3)), (2, .inl (gx_w (4 * x1)))] (hrs r ++ []) m' Q)) : hxn xs (n + 1) yp_m157 0 [(0, .inr (.inl 3)), (1, .inl x1)] [] m Q := by
  refine hx_blks (npc := 6) (L' := [(0, .inr (.inl 3)), (1, .inl x1), (2, .inl (gx_w (4 * x1)))]) (st' := [.inl (gx_w (4 * x1)), .inr (.inl 3)]) (m' := m) ((0, .iconst 4, 1, 0, 0, 0, 0), (0, 0, 0)) [((1, .iload_n 1, 1, 0, 0, 0, 0), (0, 0, 0)), ((2, .imul, 1, 0, 0, 0, 0), (0, 0, 0)), ((3, .istore_n 2, 1, 0, 0, 0, 0), (0, 0, 0)), ((4, .aload_n 0, 1, 0, 0, 0, 0), (0, 0, 0)), ((5, .iload_n 2, 1, 0, 0, 0, 0), (0, 0, 0))] (by decide +kernel) rfl ?_
  exact hx_call (E := (6, .invokevirtual 45, 3, 25, 0, 2229, 0)) (M' := yp_m25) [.inr (.inl 3), .inl (gx_w (4 * x1))] [] rfl (by decide +kernel) rfl ⟨rfl, rfl⟩ rfl rfl (hx_mono h1 (fun r m' h' => hx_pick [0, 2] h'))

/-- number from 9 on -/
theorem hr157_9 {xs : List Int32} {n : Nat} {Q : hQ} {m : gx_M} {x2 s0 : Int}
    (h1 : hxn xs n yp_m25 0 [(0, .inr (.inl 3)), (1, .inl (gx_w (x2 + 1)))] [] m (fun r m' => hxn xs n yp_m157 19 [(0, .inr (.inl 3)), (2, .inl x2)] (hrs r ++ [.inl (gx_shl s0 24)]) m' Q)) : hxn xs (n + 1) yp_m157 9 [(0, .inr (.inl 3)), (2, .inl x2)] [.inl s0] m Q := by
  refine hx_blks (npc := 16) (L' := [(0, .inr (.inl 3)), (2, .inl x2)]) (st' := [.inl (gx_w (x2 + 1)), .inr (.inl 3), .inl (gx_shl s0 24)]) (m' := m) ((9, .bipush 24, 2, 0, 0, 0, 0), (0, 0, 0)) [((11, .ishl, 1, 0, 0, 0, 0), (0, 0, 0)), ((12, .aload_n 0, 1, 0, 0, 0, 0), (0, 0, 0)), ((13, .iload_n 2, 1, 0, 0, 0, 0), (0, 0, 0)), ((14, .iconst 1, 1, 0, 0, 0, 0), (0, 0, 0)), ((15, .iadd, 1, 0, 0, 0, 0), (0, 0, 0))] (by decide +kernel) rfl ?_
  exact hx_call (E := (16, .invokevirtual 45, 3, 25, 0, 2229, 0)) (M' := yp_m25) [.inr (.inl 3), .inl (gx_w (x2 + 1))] [.inl (gx_shl s0 24)] rfl (by decide +kernel) rfl ⟨rfl, rfl⟩ rfl rfl (hx_mono h1 (fun r m' h' => hx_pick [0, 2] h'))

/-- number from 19 on -/
theorem hr157_19 {xs : List Int32} {n : Nat} {Q : hQ} {m : gx_M} {x2 s0 s1 : Int}
    (h1 : hxn xs n yp_m25 0 [(0, .inr (.inl 3)), (1, .inl (gx_w (x2 + 2)))] [] m (fun r m' => hxn xs n yp_m157 30 [(0, .inr (.inl 3)), (2, .inl x2)] (hrs r ++ [.inl (gx_or s0 (gx_shl s1 16))]) m' Q)) : hxn xs (n + 1) yp_m157 19 [(0, .inr (.inl 3)), (2, .inl x2)] [.inl s1, .inl s0] m Q := by
  refine hx_blks (npc := 27) (L' := [(0, .inr (.inl 3)), (2, .inl x2)]) (st' := [.inl (gx_w (x2 + 2)), .inr (.inl 3), .inl (gx_or s0 (gx_shl s1 16))]) (m' := m) ((19, .bipush 16, 2, 0, 0, 0, 0), (0, 0, 0)) [((21, .ishl, 1, 0, 0, 0, 0), (0, 0, 0)), ((22, .ior, 1, 0, 0, 0, 0), (0, 0, 0)), ((23, .aload_n 0, 1, 0, 0, 0, 0), (0, 0, 0)), ((24, .iload_n 2, 1, 0, 0, 0, 0), (0, 0, 0)), ((25, .iconst 2, 1, 0, 0, 0, 0), (0, 0, 0)), ((26, .iadd, 1, 0, 0, 0, 0), (0, 0, 0))] (by decide +kernel) rfl ?_
  exact hx_call (E := (27, .invokevirtual 45, 3, 25, 0, 2229, 0)) (M' := yp_m25) [.inr (.inl 3), .inl (gx_w (x2 + 2))] [.inl (gx_or s0 (gx_shl s1 16))] rfl (by decide +kernel) rfl ⟨rfl, rfl⟩ rfl rfl (hx_mono h1 (fun r m' h' => hx_pick [0, 2] h'))

/-- number from 30 on -/
theorem hr157_30 {xs : List Int32} {n : Nat} {Q : hQ} {m : gx_M} {x2 s0 s1 : Int}
    (h1 : hxn xs n yp_m25 0 [(0, .inr (.inl 3)), (1, .inl (gx_w (x2 + 3)))] [] m (fun r m' => hxn xs n yp_m157 41 [] (hrs r ++ [.inl (gx_or s0 (gx_shl s1 8))]) m' Q)) : hxn xs (n + 1) yp_m157 30 [(0, .inr (.inl 3)), (2, .inl x2)] [.inl s1, .inl s0] m Q := by
  refine hx_blks (npc := 38) (L' := [(0, .inr (.inl 3)), (2, .inl x2)]) (st' := [.inl (gx_w (x2 + 3)), .inr (.inl 3), .inl (gx_or s0 (gx_shl s1 8))]) (m' := m) ((30, .bipush 8, 2, 0, 0, 0, 0), (0, 0, 0)) [((32, .ishl, 1, 0, 0, 0, 0), (0, 0, 0)), ((33, .ior, 1, 0, 0, 0, 0), (0, 0, 0)), ((34, .aload_n 0, 1, 0, 0, 0, 0), (0, 0, 0)), ((35, .iload_n 2, 1, 0, 0, 0, 0), (0, 0, 0)), ((36, .iconst 3, 1, 0, 0, 0, 0), (0, 0, 0)), ((37, .iadd, 1, 0, 0, 0, 0), (0, 0, 0))] (by decide +kernel) rfl ?_
  exact hx_call (E := (38, .invokevirtual 45, 3, 25, 0, 2229, 0)) (M' := yp_m25) [.inr (.inl 3), .inl (gx_w (x2 + 3))] [.inl (gx_or s0 (gx_shl s1 8))] rfl (by decide +kernel) rfl ⟨rfl, rfl⟩ rfl rfl (hx_mono h1 (fun r m' h' => hx_pick [] h'))

/-- number from 41 on -/
theorem hr157_41 {xs : List Int32} {n : Nat} {Q : hQ} {m : gx_M} {s0 s1 : Int}
    (h1 : Q (some (.inl (gx_or s0 s1))) m) : hxn xs (n + 1) yp_m157 41 [] [.inl s1, .inl s0] m Q := by
  refine hx_blks (npc := 42) (L' := []) (st' := [.inl (gx_or s0 s1)]) (m' := m) ((41, .ior, 1, 0, 0, 0, 0), (0, 0, 0)) [] (by decide +kernel) rfl ?_
  exact hx_reti (by decide +kernel) h1

/-- check from 0 on -/
theorem hr156_0 {xs : List Int32} {n : Nat} {Q : hQ} {m : gx_M} {x1 : Int}
    (h1 : (x1 < 0) → Q (some (.inl (-2))) m)
    (h2 : (0 ≤ x1) → (40 < x1) → Q (some (.inl (-2))) m)
    (h3 : (0 ≤ x1) → (x1 ≤ 40) → ((4 * x1) ≤ (m 1 1)) → hxn xs n yp_m24 0 [(0, .inr (.inl 3)), (1, .inr (.inl 1)), (2, .inl (4 * x1))] [] m (fun r m' => hxn xs n yp_m156 40 [(0, .inr (.inl 0)), (1, .inl x1)] (hrs r ++ []) m' Q))
    (h4 : (0 ≤ x1) → (x1 ≤ 40) → ((m 1 1) < (4 * x1)) → Q (some (.inl (-2))) m) : hxn xs (n + 1) yp_m156 0 [(0, .inr (.inl 0)), (1, .inl x1)] [] m Q := by
  refine hx_blks (npc := 1) (L' := [(0, .inr (.inl 0)), (1, .inl x1)]) (st' := [.inl x1]) (m' := m) ((0, .iload_n 1, 1, 0, 0, 0, 0), (0, 0, 0)) [] (by decide +kernel) rfl ?_
  refine hx_if .lt 23 (by decide +kernel) (fun c1 => ?_) (fun c1 => ?_)
  · have c1 : x1 < 0 := c1
    refine hx_blk (npc := 25) (L' := [(0, .inr (.inl 0)), (1, .inl x1)]) (st' := [.inl (-2)]) (m' := m) [((23, .bipush (-2), 2, 0, 0, 0, 0), (0, 0, 0))] (by decide +kernel) rfl ?_
    exact hx_reti (by decide +kernel) (h1 c1)
  · have c1 : 0 ≤ x1 := by have h : ¬ (x1 < 0) := c1; omega
    refine hx_blk (npc := 7) (L' := [(0, .inr (.inl 0)), (1, .inl x1)]) (st' := [.inl 40, .inl x1]) (m' := m) [((4, .iload_n 1, 1, 0, 0, 0, 0), (0, 0, 0)), ((5, .bipush 40, 2, 0, 0, 0, 0), (0, 0, 0))] (by decide +kernel) rfl ?_
    refine hx_cmp .gt 23 (by decide +kernel) (fun c2 => ?_) (fun c2 => ?_)
    · have c2 : 40 < x1 := c2
      refine hx_blk (npc := 25) (L' := [(0, .inr (.inl 0)), (1, .inl x1)]) (st' := [.inl (-2)]) (m' := m) [((23, .bipush (-2), 2, 0, 0, 0, 0), (0, 0, 0))] (by decide +kernel) rfl ?_
      exact hx_reti (by decide +kernel) (h2 c1 c2)
    · have c2 : x1 ≤ 40 := by have h : ¬ (40 < x1) := c2; omega
      have e1 : gx_w (4 * x1) = 4 * x1 := gx_w_id (by omega) (by omega)
      refine hx_blk (npc := 20) (L' := [(0, .inr (.inl 0)), (1, .inl x1)]) (st' := [.inl (m 1 1), .inl (gx_w (4 * x1))]) (m' := m) [((10, .iconst 4, 1, 0, 0, 0, 0), (0, 0, 0)), ((11, .iload_n 1, 1, 0, 0, 0, 0), (0, 0, 0)), ((12, .imul, 1, 0, 0, 0, 0), (0, 0, 0)), ((13, .aload_n 0, 1, 0, 0, 0, 0), (0, 0, 0)), ((14, .getfield 10, 3, 9, 0, 2119, 0), (1, 0, 1)), ((17, .getfield 117, 3, 0, 1, 1035, 0), (0, 1, 0))] (by decide +kernel) rfl ?_
      rw [e1]
      refine hx_cmp .le 26 (by decide +kernel) (fun c3 => ?_) (fun c3 => ?_)
      · have c3 : (4 * x1) ≤ (m 1 1) := c3
        have e2 : gx_w (4 * x1) = 4 * x1 := gx_w_id (by omega) (by omega)
        refine hx_blk (npc := 37) (L' := [(0, .inr (.inl 0)), (1, .inl x1)]) (st' := [.inl (gx_w (4 * x1)), .inr (.inl 1), .inr (.inl 3)]) (m' := m) [((26, .aload_n 0, 1, 0, 0, 0, 0), (0, 0, 0)), ((27, .getfield 19, 3, 9, 1, 2120, 0), (1, 0, 3)), ((30, .aload_n 0, 1, 0, 0, 0, 0), (0, 0, 0)), ((31, .getfield 10, 3, 9, 0, 2119, 0), (1, 0, 1)), ((34, .iconst 4, 1, 0, 0, 0, 0), (0, 0, 0)), ((35, .iload_n 1, 1, 0, 0, 0, 0), (0, 0, 0)), ((36, .imul, 1, 0, 0, 0, 0), (0, 0, 0))] (by decide +kernel) rfl ?_
        rw [e2]
        exact hx_call (E := (37, .invokevirtual 128, 3, 24, 0, 2216, 0)) (M' := yp_m24) [.inr (.inl 3), .inr (.inl 1), .inl (4 * x1)] [] rfl (by decide +kernel) rfl ⟨rfl, rfl⟩ rfl rfl (hx_mono (h3 c1 c2 c3) (fun r m' h' => hx_pick [0, 1] h'))
      · have c3 : (m 1 1) < (4 * x1) := by have h : ¬ ((4 * x1) ≤ (m 1 1)) := c3; omega
        refine hx_blk (npc := 25) (L' := [(0, .inr (.inl 0)), (1, .inl x1)]) (st' := [.inl (-2)]) (m' := m) [((23, .bipush (-2), 2, 0, 0, 0, 0), (0, 0, 0))] (by decide +kernel) rfl ?_
        exact hx_reti (by decide +kernel) (h4 c1 c2 c3)

/-- check from 40 on -/
theorem hr156_40 {xs : List Int32} {n : Nat} {Q : hQ} {m : gx_M} {x1 : Int}
    (h1 : hxn xs n yp_m156 42 [(0, .inr (.inl 0)), (1, .inl x1), (2, .inl 0)] [] m Q) : hxn xs (n + 1) yp_m156 40 [(0, .inr (.inl 0)), (1, .inl x1)] [] m Q := by
  refine hx_blks (npc := 42) (L' := [(0, .inr (.inl 0)), (1, .inl x1), (2, .inl 0)]) (st' := []) (m' := m) ((40, .iconst 0, 1, 0, 0, 0, 0), (0, 0, 0)) [((41, .istore_n 2, 1, 0, 0, 0, 0), (0, 0, 0))] (by decide +kernel) rfl ?_
  exact hx_pick [0, 1, 2] h1

/-- check from 42 on -/
theorem hr156_42 {xs : List Int32} {n : Nat} {Q : hQ} {m : gx_M} {x1 x2 : Int}
    (h1 : (x1 ≤ x2) → Q (some (.inl (-1))) m)
    (h2 : (x2 < x1) → (cYear 5 m x2) → hxn xs n yp_m157 0 [(0, .inr (.inl 3)), (1, .inl x2)] [] m (fun r m' => hxn xs n yp_m156 80 [(0, .inr (.inl 0)), (1, .inl x1), (2, .inl x2), (3, .inl (m 12 (x2).toNat))] (hrs r ++ []) m' Q))
    (h3 : (x2 < x1) → (¬ (cYear 5 m x2)) → hxn xs n yp_m157 0 [(0, .inr (.inl 3)), (1, .inl x2)] [] m (fun r m' => hxn xs n yp_m156 80 [(0, .inr (.inl 0)), (1, .inl x1), (2, .inl x2), (3, .inl 0)] (hrs r ++ []) m' Q)) : hxn xs (n + 1) yp_m156 42 [(0, .inr (.inl 0)), (1, .inl x1), (2, .inl x2)] [] m Q := by
  refine hx_blks (npc := 44) (L' := [(0, .inr (.inl 0)), (1, .inl x1), (2, .inl x2)]) (st' := [.inl x1, .inl x2]) (m' := m) ((42, .iload_n 2, 1, 0, 0, 0, 0), (0, 0, 0)) [((43, .iload_n 1, 1, 0, 0, 0, 0), (0, 0, 0))] (by decide +kernel) rfl ?_
  refine hx_cmp .ge 92 (by decide +kernel) (fun c1 => ?_) (fun c1 => ?_)
  · have c1 : x1 ≤ x2 := c1
    refine hx_blk (npc := 93) (L' := [(0, .inr (.inl 0)), (1, .inl x1), (2, .inl x2)]) (st' := [.inl (-1)]) (m' := m) [((92, .iconst (-1), 1, 0, 0, 0, 0), (0, 0, 0))] (by decide +kernel) rfl ?_
    exact hx_reti (by decide +kernel) (h1 c1)
  · have c1 : x2 < x1 := by have h : ¬ (x1 ≤ x2) := c1; omega
    refine hx_blk (npc := 52) (L' := [(0, .inr (.inl 0)), (1, .inl x1), (2, .inl x2)]) (st' := [.inl x2, .inr (.inl 5)]) (m' := m) [((47, .aload_n 0, 1, 0, 0, 0, 0), (0, 0, 0)), ((48, .getfield 26, 3, 9, 2, 2121, 0), (1, 0, 5)), ((51, .iload_n 2, 1, 0, 0, 0, 0), (0, 0, 0))] (by decide +kernel) rfl ?_
    refine hx_call (E := (52, .invokevirtual 156, 3, 17, 0, 3202, 0)) (M' := yp_m17) [.inr (.inl 5), .inl x2] [] rfl (by decide +kernel) rfl ⟨rfl, rfl⟩ rfl rfl (hs17_5 (fun c2 => ?_) (fun c2 => ?_))
    · have c2 : cYear 5 m x2 := c2
      show hxn xs n yp_m156 55 [(0, .inr (.inl 0)), (1, .inl x1), (2, .inl x2)] [.inl 1] m Q
      refine hx_if .eq 70 (by decide +kernel) (fun c3 => ?_) (fun c3 => ?_)
      · have c3 : (1 : Int) = 0 := c3
        exfalso; omega
      · have c3 : (1 : Int) ≠ 0 := c3
        refine hx_blk (npc := 77) (L' := [(0, .inr (.inl 0)), (1, .inl x1), (2, .inl x2), (3, .inl (m 12 (x2).toNat))]) (st' := [.inl x2, .inr (.inl 3)]) (m' := m) [((58, .aload_n 0, 1, 0, 0, 0, 0), (0, 0, 0)), ((59, .getfield 26, 3, 9, 2, 2121, 0), (1, 0, 5)), ((62, .getfield 165, 3, 2, 11, 1116, 0), (1, 5, 12)), ((65, .iload_n 2, 1, 0, 0, 0, 0), (0, 0, 0)), ((66, .iaload, 1, 0, 0, 0, 0), (0, 12, 0)), ((67, .goto 4, 3, 0, 0, 0, 0), (0, 0, 0)), ((71, .istore_n 3, 1, 0, 0, 0, 0), (0, 0, 0)), ((72, .aload_n 0, 1, 0, 0, 0, 0), (0, 0, 0)), ((73, .getfield 19, 3, 9, 1, 2120, 0), (1, 0, 3)), ((76, .iload_n 2, 1, 0, 0, 0, 0), (0, 0, 0))] (by decide +kernel) rfl ?_
        exact hx_call (E := (77, .invokevirtual 341, 3, 157, 0, 5095, 0)) (M' := yp_m157) [.inr (.inl 3), .inl x2] [] rfl (by decide +kernel) rfl ⟨rfl, rfl⟩ rfl rfl (hx_mono (h2 c1 c2) (fun r m' h' => hx_pick [0, 1, 2, 3] h'))
    · have c2 : ¬ (cYear 5 m x2) := c2
      show hxn xs n yp_m156 55 [(0, .inr (.inl 0)), (1, .inl x1), (2, .inl x2)] [.inl 0] m Q
      refine hx_if .eq 70 (by decide +kernel) (fun c3 => ?_) (fun c3 => ?_)
      · have c3 : (0 : Int) = 0 := c3
        refine hx_blk (npc := 77) (L' := [(0, .inr (.inl 0)), (1, .inl x1), (2, .inl x2), (3, .inl 0)]) (st' := [.inl x2, .inr (.inl 3)]) (m' := m) [((70, .iconst 0, 1, 0, 0, 0, 0), (0, 0, 0)), ((71, .istore_n 3, 1, 0, 0, 0, 0), (0, 0, 0)), ((72, .aload_n 0, 1, 0, 0, 0, 0), (0, 0, 0)), ((73, .getfield 19, 3, 9, 1, 2120, 0), (1, 0, 3)), ((76, .iload_n 2, 1, 0, 0, 0, 0), (0, 0, 0))] (by decide +kernel) rfl ?_
        exact hx_call (E := (77, .invokevirtual 341, 3, 157, 0, 5095, 0)) (M' := yp_m157) [.inr (.inl 3), .inl x2] [] rfl (by decide +kernel) rfl ⟨rfl, rfl⟩ rfl rfl (hx_mono (h3 c1 c2) (fun r m' h' => hx_pick [0, 1, 2, 3] h'))
      · have c3 : (0 : Int) ≠ 0 := c3
        exfalso; omega

/-- check from 80 on -/
theorem hr156_80 {xs : List Int32} {n : Nat} {Q : hQ} {m : gx_M} {x1 x2 x3 s0 : Int}
    (h1 : (s0 = x3) → hxn xs n yp_m156 42 [(0, .inr (.inl 0)), (1, .inl x1), (2, .inl (gx_w (x2 + 1)))] [] m Q)
    (h2 : (s0 ≠ x3) → Q (some (.inl x2)) m) : hxn xs (n + 1) yp_m156 80 [(0, .inr (.inl 0)), (1, .inl x1), (2, .inl x2), (3, .inl x3)] [.inl s0] m Q := by
  refine hx_blks (npc := 81) (L' := [(0, .inr (.inl 0)), (1, .inl x1), (2, .inl x2), (3, .inl x3)]) (st' := [.inl x3, .inl s0]) (m' := m) ((80, .iload_n 3, 1, 0, 0, 0, 0), (0, 0, 0)) [] (by decide +kernel) rfl ?_
  refine hx_cmp .eq 86 (by decide +kernel) (fun c1 => ?_) (fun c1 => ?_)
  · have c1 : s0 = x3 := c1
    refine hx_blk (npc := 42) (L' := [(0, .inr (.inl 0)), (1, .inl x1), (2, .inl (gx_w (x2 + 1))), (3, .inl x3)]) (st' := []) (m' := m) [((86, .iinc 2 1, 3, 0, 0, 0, 0), (0, 0, 0)), ((89, .goto (-47), 3, 0, 0, 0, 0), (0, 0, 0))] (by decide +kernel) rfl ?_
    exact hx_pick [0, 1, 2] (h1 c1)
  · have c1 : s0 ≠ x3 := c1
    refine hx_blk (npc := 85) (L' := [(0, .inr (.inl 0)), (1, .inl x1), (2, .inl x2), (3, .inl x3)]) (st' := [.inl x2]) (m' := m) [((84, .iload_n 2, 1, 0, 0, 0, 0), (0, 0, 0))] (by decide +kernel) rfl ?_
    exact hx_reti (by decide +kernel) (h2 c1)

/-- coinsAll from 0 on -/
theorem hr262_0 {xs : List Int32} {n : Nat} {Q : hQ} {m : gx_M}
    (h1 : hxn xs n yp_m262 4 [(0, .inr (.inl 86)), (1, .inl 0), (2, .inl 0)] [] m Q) : hxn xs (n + 1) yp_m262 0 [(0, .inr (.inl 86))] [] m Q := by
  refine hx_blks (npc := 4) (L' := [(0, .inr (.inl 86)), (1, .inl 0), (2, .inl 0)]) (st' := []) (m' := m) ((0, .iconst 0, 1, 0, 0, 0, 0), (0, 0, 0)) [((1, .istore_n 1, 1, 0, 0, 0, 0), (0, 0, 0)), ((2, .iconst 0, 1, 0, 0, 0, 0), (0, 0, 0)), ((3, .istore_n 2, 1, 0, 0, 0, 0), (0, 0, 0))] (by decide +kernel) rfl ?_
  exact hx_pick [0, 1, 2] h1

/-- coinsAll from 4 on -/
theorem hr262_4 {xs : List Int32} {n : Nat} {Q : hQ} {m : gx_M} {x1 x2 : Int}
    (h1 : (8 ≤ x2) → Q (some (.inl x1)) m)
    (h2 : (x2 < 8) → (aPers (m 87) x2) → hxn xs n yp_m262 4 [(0, .inr (.inl 86)), (1, .inl (gx_w (x1 + (m 87 (gx_w (1120 + x2)).toNat)))), (2, .inl (gx_w (x2 + 1)))] [] m Q)
    (h3 : (x2 < 8) → (¬ (aPers (m 87) x2)) → hxn xs n yp_m262 4 [(0, .inr (.inl 86)), (1, .inl (gx_w (x1 + 0))), (2, .inl (gx_w (x2 + 1)))] [] m Q) : hxn xs (n + 1) yp_m262 4 [(0, .inr (.inl 86)), (1, .inl x1), (2, .inl x2)] [] m Q := by
  refine hx_blks (npc := 7) (L' := [(0, .inr (.inl 86)), (1, .inl x1), (2, .inl x2)]) (st' := [.inl 8, .inl x2]) (m' := m) ((4, .iload_n 2, 1, 0, 0, 0, 0), (0, 0, 0)) [((5, .bipush 8, 2, 0, 0, 0, 0), (0, 0, 0))] (by decide +kernel) rfl ?_
  refine hx_cmp .ge 41 (by decide +kernel) (fun c1 => ?_) (fun c1 => ?_)
  · have c1 : 8 ≤ x2 := c1
    refine hx_blk (npc := 42) (L' := [(0, .inr (.inl 86)), (1, .inl x1), (2, .inl x2)]) (st' := [.inl x1]) (m' := m) [((41, .iload_n 1, 1, 0, 0, 0, 0), (0, 0, 0))] (by decide +kernel) rfl ?_
    exact hx_reti (by decide +kernel) (h1 c1)
  · have c1 : x2 < 8 := by have h : ¬ (8 ≤ x2) := c1; omega
    refine hx_blk (npc := 13) (L' := [(0, .inr (.inl 86)), (1, .inl x1), (2, .inl x2)]) (st' := [.inl x2, .inr (.inl 86), .inl x1]) (m' := m) [((10, .iload_n 1, 1, 0, 0, 0, 0), (0, 0, 0)), ((11, .aload_n 0, 1, 0, 0, 0, 0), (0, 0, 0)), ((12, .iload_n 2, 1, 0, 0, 0, 0), (0, 0, 0))] (by decide +kernel) rfl ?_
    refine hx_call (E := (13, .invokevirtual 113, 3, 164, 0, 6031, 0)) (M' := yp_m164) [.inr (.inl 86), .inl x2] [.inl x1] rfl (by decide +kernel) rfl ⟨rfl, rfl⟩ rfl rfl (hs164 (fun c2 => ?_) (fun c2 => ?_))
    · have c2 : aPers (m 87) x2 := c2
      show hxn xs n yp_m262 16 [(0, .inr (.inl 86)), (1, .inl x1), (2, .inl x2)] [.inl 1, .inl x1] m Q
      refine hx_if .eq 32 (by decide +kernel) (fun c3 => ?_) (fun c3 => ?_)
      · have c3 : (1 : Int) = 0 := c3
        exfalso; omega
      · have c3 : (1 : Int) ≠ 0 := c3
        refine hx_blk (npc := 4) (L' := [(0, .inr (.inl 86)), (1, .inl (gx_w (x1 + (m 87 (gx_w (1120 + x2)).toNat)))), (2, .inl (gx_w (x2 + 1)))]) (st' := []) (m' := m) [((19, .aload_n 0, 1, 0, 0, 0, 0), (0, 0, 0)), ((20, .getfield 7, 3, 10, 0, 5113, 0), (1, 86, 87)), ((23, .sipush 1120, 3, 0, 0, 0, 0), (0, 0, 0)), ((26, .iload_n 2, 1, 0, 0, 0, 0), (0, 0, 0)), ((27, .iadd, 1, 0, 0, 0, 0), (0, 0, 0)), ((28, .iaload, 1, 0, 0, 0, 0), (0, 87, 0)), ((29, .goto 4, 3, 0, 0, 0, 0), (0, 0, 0)), ((33, .iadd, 1, 0, 0, 0, 0), (0, 0, 0)), ((34, .istore_n 1, 1, 0, 0, 0, 0), (0, 0, 0)), ((35, .iinc 2 1, 3, 0, 0, 0, 0), (0, 0, 0)), ((38, .goto (-34), 3, 0, 0, 0, 0), (0, 0, 0))] (by decide +kernel) rfl ?_
        exact hx_pick [0, 1, 2] (h2 c1 c2)
    · have c2 : ¬ (aPers (m 87) x2) := c2
      show hxn xs n yp_m262 16 [(0, .inr (.inl 86)), (1, .inl x1), (2, .inl x2)] [.inl 0, .inl x1] m Q
      refine hx_if .eq 32 (by decide +kernel) (fun c3 => ?_) (fun c3 => ?_)
      · have c3 : (0 : Int) = 0 := c3
        refine hx_blk (npc := 4) (L' := [(0, .inr (.inl 86)), (1, .inl (gx_w (x1 + 0))), (2, .inl (gx_w (x2 + 1)))]) (st' := []) (m' := m) [((32, .iconst 0, 1, 0, 0, 0, 0), (0, 0, 0)), ((33, .iadd, 1, 0, 0, 0, 0), (0, 0, 0)), ((34, .istore_n 1, 1, 0, 0, 0, 0), (0, 0, 0)), ((35, .iinc 2 1, 3, 0, 0, 0, 0), (0, 0, 0)), ((38, .goto (-34), 3, 0, 0, 0, 0), (0, 0, 0))] (by decide +kernel) rfl ?_
        exact hx_pick [0, 1, 2] (h3 c1 c2)
      · have c3 : (0 : Int) ≠ 0 := c3
        exfalso; omega

/-- pawns from 0 on -/
theorem hr275_0 {xs : List Int32} {n : Nat} {Q : hQ} {m : gx_M}
    (h1 : hxn xs n yp_m275 4 [(0, .inr (.inl 86)), (1, .inl 0), (2, .inl 0)] [] m Q) : hxn xs (n + 1) yp_m275 0 [(0, .inr (.inl 86))] [] m Q := by
  refine hx_blks (npc := 4) (L' := [(0, .inr (.inl 86)), (1, .inl 0), (2, .inl 0)]) (st' := []) (m' := m) ((0, .iconst 0, 1, 0, 0, 0, 0), (0, 0, 0)) [((1, .istore_n 1, 1, 0, 0, 0, 0), (0, 0, 0)), ((2, .iconst 0, 1, 0, 0, 0, 0), (0, 0, 0)), ((3, .istore_n 2, 1, 0, 0, 0, 0), (0, 0, 0))] (by decide +kernel) rfl ?_
  exact hx_pick [0, 1, 2] h1

/-- pawns from 4 on -/
theorem hr275_4 {xs : List Int32} {n : Nat} {Q : hQ} {m : gx_M} {x1 x2 : Int}
    (h1 : (40 ≤ x2) → Q (some (.inl x1)) m)
    (h2 : (x2 < 40) → (aYr (m 87) x2) → (aPw (m 87) x2) → hxn xs n yp_m275 4 [(0, .inr (.inl 86)), (1, .inl (gx_w (x1 + 1))), (2, .inl (gx_w (x2 + 1)))] [] m Q)
    (h3 : (x2 < 40) → (aYr (m 87) x2) → (¬ (aPw (m 87) x2)) → hxn xs n yp_m275 4 [(0, .inr (.inl 86)), (1, .inl (gx_w (x1 + 0))), (2, .inl (gx_w (x2 + 1)))] [] m Q)
    (h4 : (x2 < 40) → (¬ (aYr (m 87) x2)) → hxn xs n yp_m275 4 [(0, .inr (.inl 86)), (1, .inl (gx_w (x1 + 0))), (2, .inl (gx_w (x2 + 1)))] [] m Q) : hxn xs (n + 1) yp_m275 4 [(0, .inr (.inl 86)), (1, .inl x1), (2, .inl x2)] [] m Q := by
  refine hx_blks (npc := 7) (L' := [(0, .inr (.inl 86)), (1, .inl x1), (2, .inl x2)]) (st' := [.inl 40, .inl x2]) (m' := m) ((4, .iload_n 2, 1, 0, 0, 0, 0), (0, 0, 0)) [((5, .bipush 40, 2, 0, 0, 0, 0), (0, 0, 0))] (by decide +kernel) rfl ?_
  refine hx_cmp .ge 40 (by decide +kernel) (fun c1 => ?_) (fun c1 => ?_)
  · have c1 : 40 ≤ x2 := c1
    refine hx_blk (npc := 41) (L' := [(0, .inr (.inl 86)), (1, .inl x1), (2, .inl x2)]) (st' := [.inl x1]) (m' := m) [((40, .iload_n 1, 1, 0, 0, 0, 0), (0, 0, 0))] (by decide +kernel) rfl ?_
    exact hx_reti (by decide +kernel) (h1 c1)
  · have c1 : x2 < 40 := by have h : ¬ (40 ≤ x2) := c1; omega
    refine hx_blk (npc := 13) (L' := [(0, .inr (.inl 86)), (1, .inl x1), (2, .inl x2)]) (st' := [.inl x2, .inr (.inl 86), .inl x1]) (m' := m) [((10, .iload_n 1, 1, 0, 0, 0, 0), (0, 0, 0)), ((11, .aload_n 0, 1, 0, 0, 0, 0), (0, 0, 0)), ((12, .iload_n 2, 1, 0, 0, 0, 0), (0, 0, 0))] (by decide +kernel) rfl ?_
    refine hx_call (E := (13, .invokevirtual 269, 3, 196, 0, 6156, 0)) (M' := yp_m196) [.inr (.inl 86), .inl x2] [.inl x1] rfl (by decide +kernel) rfl ⟨rfl, rfl⟩ rfl rfl (hs196 (fun c2 => ?_) (fun c2 => ?_))
    · have c2 : aYr (m 87) x2 := c2
      show hxn xs n yp_m275 16 [(0, .inr (.inl 86)), (1, .inl x1), (2, .inl x2)] [.inl 1, .inl x1] m Q
      refine hx_if .eq 31 (by decide +kernel) (fun c3 => ?_) (fun c3 => ?_)
      · have c3 : (1 : Int) = 0 := c3
        exfalso; omega
      · have c3 : (1 : Int) ≠ 0 := c3
        refine hx_blk (npc := 21) (L' := [(0, .inr (.inl 86)), (1, .inl x1), (2, .inl x2)]) (st' := [.inl x2, .inr (.inl 86), .inl x1]) (m' := m) [((19, .aload_n 0, 1, 0, 0, 0, 0), (0, 0, 0)), ((20, .iload_n 2, 1, 0, 0, 0, 0), (0, 0, 0))] (by decide +kernel) rfl ?_
        refine hx_call (E := (21, .invokevirtual 275, 3, 200, 0, 6171, 0)) (M' := yp_m200) [.inr (.inl 86), .inl x2] [.inl x1] rfl (by decide +kernel) rfl ⟨rfl, rfl⟩ rfl rfl (hs200 (fun c3 => ?_) (fun c3 => ?_))
        · have c3 : aPw (m 87) x2 := c3
          show hxn xs n yp_m275 24 [(0, .inr (.inl 86)), (1, .inl x1), (2, .inl x2)] [.inl 1, .inl x1] m Q
          refine hx_if .eq 31 (by decide +kernel) (fun c4 => ?_) (fun c4 => ?_)
          · have c4 : (1 : Int) = 0 := c4
            exfalso; omega
          · have c4 : (1 : Int) ≠ 0 := c4
            refine hx_blk (npc := 4) (L' := [(0, .inr (.inl 86)), (1, .inl (gx_w (x1 + 1))), (2, .inl (gx_w (x2 + 1)))]) (st' := []) (m' := m) [((27, .iconst 1, 1, 0, 0, 0, 0), (0, 0, 0)), ((28, .goto 4, 3, 0, 0, 0, 0), (0, 0, 0)), ((32, .iadd, 1, 0, 0, 0, 0), (0, 0, 0)), ((33, .istore_n 1, 1, 0, 0, 0, 0), (0, 0, 0)), ((34, .iinc 2 1, 3, 0, 0, 0, 0), (0, 0, 0)), ((37, .goto (-33), 3, 0, 0, 0, 0), (0, 0, 0))] (by decide +kernel) rfl ?_
            exact hx_pick [0, 1, 2] (h2 c1 c2 c3)
        · have c3 : ¬ (aPw (m 87) x2) := c3
          show hxn xs n yp_m275 24 [(0, .inr (.inl 86)), (1, .inl x1), (2, .inl x2)] [.inl 0, .inl x1] m Q
          refine hx_if .eq 31 (by decide +kernel) (fun c4 => ?_) (fun c4 => ?_)
          · have c4 : (0 : Int) = 0 := c4
            refine hx_blk (npc := 4) (L' := [(0, .inr (.inl 86)), (1, .inl (gx_w (x1 + 0))), (2, .inl (gx_w (x2 + 1)))]) (st' := []) (m' := m) [((31, .iconst 0, 1, 0, 0, 0, 0), (0, 0, 0)), ((32, .iadd, 1, 0, 0, 0, 0), (0, 0, 0)), ((33, .istore_n 1, 1, 0, 0, 0, 0), (0, 0, 0)), ((34, .iinc 2 1, 3, 0, 0, 0, 0), (0, 0, 0)), ((37, .goto (-33), 3, 0, 0, 0, 0), (0, 0, 0))] (by decide +kernel) rfl ?_
            exact hx_pick [0, 1, 2] (h3 c1 c2 c3)
          · have c4 : (0 : Int) ≠ 0 := c4
            exfalso; omega
    · have c2 : ¬ (aYr (m 87) x2) := c2
      show hxn xs n yp_m275 16 [(0, .inr (.inl 86)), (1, .inl x1), (2, .inl x2)] [.inl 0, .inl x1] m Q
      refine hx_if .eq 31 (by decide +kernel) (fun c3 => ?_) (fun c3 => ?_)
      · have c3 : (0 : Int) = 0 := c3
        refine hx_blk (npc := 4) (L' := [(0, .inr (.inl 86)), (1, .inl (gx_w (x1 + 0))), (2, .inl (gx_w (x2 + 1)))]) (st' := []) (m' := m) [((31, .iconst 0, 1, 0, 0, 0, 0), (0, 0, 0)), ((32, .iadd, 1, 0, 0, 0, 0), (0, 0, 0)), ((33, .istore_n 1, 1, 0, 0, 0, 0), (0, 0, 0)), ((34, .iinc 2 1, 3, 0, 0, 0, 0), (0, 0, 0)), ((37, .goto (-33), 3, 0, 0, 0, 0), (0, 0, 0))] (by decide +kernel) rfl ?_
        exact hx_pick [0, 1, 2] (h4 c1 c2)
      · have c3 : (0 : Int) ≠ 0 := c3
        exfalso; omega

/-- count from 0 on -/
theorem hr274_0 {xs : List Int32} {n : Nat} {Q : hQ} {m : gx_M} {x1 : Int}
    (h1 : (x1 = 0) → Q (some (.inl (m 87 1128))) m)
    (h2 : (x1 ≠ 0) → (x1 = 1) → hxn xs n yp_m270 0 [(0, .inr (.inl 86))] [] m (fun r m' => hxn xs n yp_m274 65 [] (hrs r ++ []) m' Q))
    (h3 : (x1 ≠ 0) → (x1 ≠ 1) → (x1 = 2) → Q (some (.inl (m 86 13))) m)
    (h4 : (x1 ≠ 0) → (x1 ≠ 1) → (x1 ≠ 2) → (x1 = 3) → Q (some (.inl (m 86 4))) m)
    (h5 : (x1 ≠ 0) → (x1 ≠ 1) → (x1 ≠ 2) → (x1 ≠ 3) → (x1 = 4) → Q (some (.inl (m 87 1130))) m)
    (h6 : (x1 ≠ 0) → (x1 ≠ 1) → (x1 ≠ 2) → (x1 ≠ 3) → (x1 ≠ 4) → (x1 = 5) → Q (some (.inl (m 87 1129))) m)
    (h7 : (x1 ≠ 0) → (x1 ≠ 1) → (x1 ≠ 2) → (x1 ≠ 3) → (x1 ≠ 4) → (x1 ≠ 5) → (x1 = 6) → hxn xs n yp_m275 0 [(0, .inr (.inl 86))] [] m (fun r m' => hxn xs n yp_m274 98 [] (hrs r ++ []) m' Q))
    (h8 : (x1 ≠ 0) → (x1 ≠ 1) → (x1 ≠ 2) → (x1 ≠ 3) → (x1 ≠ 4) → (x1 ≠ 5) → (x1 ≠ 6) → (x1 = 7) → hxn xs n yp_m262 0 [(0, .inr (.inl 86))] [] m (fun r m' => hxn xs n yp_m274 103 [] (hrs r ++ []) m' Q))
    (h9 : (x1 ≠ 0) → (x1 ≠ 1) → (x1 ≠ 2) → (x1 ≠ 3) → (x1 ≠ 4) → (x1 ≠ 5) → (x1 ≠ 6) → (x1 ≠ 7) → (x1 = 8) → Q (some (.inl (m 86 44))) m)
    (h10 : (x1 ≠ 0) → (x1 ≠ 1) → (x1 ≠ 2) → (x1 ≠ 3) → (x1 ≠ 4) → (x1 ≠ 5) → (x1 ≠ 6) → (x1 ≠ 7) → (x1 ≠ 8) → Q (some (.inl (-1))) m) : hxn xs (n + 1) yp_m274 0 [(0, .inr (.inl 86)), (1, .inl x1)] [] m Q := by
  refine hx_blks (npc := 1) (L' := [(0, .inr (.inl 86)), (1, .inl x1)]) (st' := [.inl x1]) (m' := m) ((0, .iload_n 1, 1, 0, 0, 0, 0), (0, 0, 0)) [] (by decide +kernel) rfl ?_
  refine hx_tsw 109 [(0, 52), (1, 61), (2, 66), (3, 71), (4, 76), (5, 85), (6, 94), (7, 99), (8, 104)] (by decide +kernel) ?_
  refine hsw_c (fun c1 => ?_) (fun c1 => ?_)
  · have c1 : x1 = 0 := c1
    refine hx_blk (npc := 60) (L' := [(0, .inr (.inl 86)), (1, .inl x1)]) (st' := [.inl (m 87 1128)]) (m' := m) [((52, .aload_n 0, 1, 0, 0, 0, 0), (0, 0, 0)), ((53, .getfield 7, 3, 10, 0, 5113, 0), (1, 86, 87)), ((56, .sipush 1128, 3, 0, 0, 0, 0), (0, 0, 0)), ((59, .iaload, 1, 0, 0, 0, 0), (0, 87, 0))] (by decide +kernel) rfl ?_
    exact hx_reti (by decide +kernel) (h1 c1)
  refine hsw_c (fun c2 => ?_) (fun c2 => ?_)
  · have c2 : x1 = 1 := c2
    refine hx_blk (npc := 62) (L' := [(0, .inr (.inl 86)), (1, .inl x1)]) (st' := [.inr (.inl 86)]) (m' := m) [((61, .aload_n 0, 1, 0, 0, 0, 0), (0, 0, 0))] (by decide +kernel) rfl ?_
    exact hx_call (E := (62, .invokevirtual 420, 3, 270, 0, 7210, 0)) (M' := yp_m270) [.inr (.inl 86)] [] rfl (by decide +kernel) rfl ⟨rfl, rfl⟩ rfl rfl (hx_mono (h2 c1 c2) (fun r m' h' => hx_pick [] h'))
  refine hsw_c (fun c3 => ?_) (fun c3 => ?_)
  · have c3 : x1 = 2 := c3
    refine hx_blk (npc := 70) (L' := [(0, .inr (.inl 86)), (1, .inl x1)]) (st' := [.inl (m 86 13)]) (m' := m) [((66, .aload_n 0, 1, 0, 0, 0, 0), (0, 0, 0)), ((67, .getfield 225, 3, 10, 13, 5126, 0), (0, 86, 0))] (by decide +kernel) rfl ?_
    exact hx_reti (by decide +kernel) (h3 c1 c2 c3)
  refine hsw_c (fun c4 => ?_) (fun c4 => ?_)
  · have c4 : x1 = 3 := c4
    refine hx_blk (npc := 75) (L' := [(0, .inr (.inl 86)), (1, .inl x1)]) (st' := [.inl (m 86 4)]) (m' := m) [((71, .aload_n 0, 1, 0, 0, 0, 0), (0, 0, 0)), ((72, .getfield 124, 3, 10, 4, 5117, 0), (0, 86, 0))] (by decide +kernel) rfl ?_
    exact hx_reti (by decide +kernel) (h4 c1 c2 c3 c4)
  refine hsw_c (fun c5 => ?_) (fun c5 => ?_)
  · have c5 : x1 = 4 := c5
    refine hx_blk (npc := 84) (L' := [(0, .inr (.inl 86)), (1, .inl x1)]) (st' := [.inl (m 87 1130)]) (m' := m) [((76, .aload_n 0, 1, 0, 0, 0, 0), (0, 0, 0)), ((77, .getfield 7, 3, 10, 0, 5113, 0), (1, 86, 87)), ((80, .sipush 1130, 3, 0, 0, 0, 0), (0, 0, 0)), ((83, .iaload, 1, 0, 0, 0, 0), (0, 87, 0))] (by decide +kernel) rfl ?_
    exact hx_reti (by decide +kernel) (h5 c1 c2 c3 c4 c5)
  refine hsw_c (fun c6 => ?_) (fun c6 => ?_)
  · have c6 : x1 = 5 := c6
    refine hx_blk (npc := 93) (L' := [(0, .inr (.inl 86)), (1, .inl x1)]) (st' := [.inl (m 87 1129)]) (m' := m) [((85, .aload_n 0, 1, 0, 0, 0, 0), (0, 0, 0)), ((86, .getfield 7, 3, 10, 0, 5113, 0), (1, 86, 87)), ((89, .sipush 1129, 3, 0, 0, 0, 0), (0, 0, 0)), ((92, .iaload, 1, 0, 0, 0, 0), (0, 87, 0))] (by decide +kernel) rfl ?_
    exact hx_reti (by decide +kernel) (h6 c1 c2 c3 c4 c5 c6)
  refine hsw_c (fun c7 => ?_) (fun c7 => ?_)
  · have c7 : x1 = 6 := c7
    refine hx_blk (npc := 95) (L' := [(0, .inr (.inl 86)), (1, .inl x1)]) (st' := [.inr (.inl 86)]) (m' := m) [((94, .aload_n 0, 1, 0, 0, 0, 0), (0, 0, 0))] (by decide +kernel) rfl ?_
    exact hx_call (E := (95, .invokevirtual 426, 3, 275, 0, 7230, 0)) (M' := yp_m275) [.inr (.inl 86)] [] rfl (by decide +kernel) rfl ⟨rfl, rfl⟩ rfl rfl (hx_mono (h7 c1 c2 c3 c4 c5 c6 c7) (fun r m' h' => hx_pick [] h'))
  refine hsw_c (fun c8 => ?_) (fun c8 => ?_)
  · have c8 : x1 = 7 := c8
    refine hx_blk (npc := 100) (L' := [(0, .inr (.inl 86)), (1, .inl x1)]) (st' := [.inr (.inl 86)]) (m' := m) [((99, .aload_n 0, 1, 0, 0, 0, 0), (0, 0, 0))] (by decide +kernel) rfl ?_
    exact hx_call (E := (100, .invokevirtual 406, 3, 262, 0, 7177, 0)) (M' := yp_m262) [.inr (.inl 86)] [] rfl (by decide +kernel) rfl ⟨rfl, rfl⟩ rfl rfl (hx_mono (h8 c1 c2 c3 c4 c5 c6 c7 c8) (fun r m' h' => hx_pick [] h'))
  refine hsw_c (fun c9 => ?_) (fun c9 => ?_)
  · have c9 : x1 = 8 := c9
    refine hx_blk (npc := 108) (L' := [(0, .inr (.inl 86)), (1, .inl x1)]) (st' := [.inl (m 86 44)]) (m' := m) [((104, .aload_n 0, 1, 0, 0, 0, 0), (0, 0, 0)), ((105, .getfield 403, 3, 10, 44, 5157, 0), (0, 86, 0))] (by decide +kernel) rfl ?_
    exact hx_reti (by decide +kernel) (h9 c1 c2 c3 c4 c5 c6 c7 c8 c9)
  refine hsw_n ?_
  refine hx_blk (npc := 110) (L' := [(0, .inr (.inl 86)), (1, .inl x1)]) (st' := [.inl (-1)]) (m' := m) [((109, .iconst (-1), 1, 0, 0, 0, 0), (0, 0, 0))] (by decide +kernel) rfl ?_
  exact hx_reti (by decide +kernel) (h10 c1 c2 c3 c4 c5 c6 c7 c8 c9)

/-- count from 65 on -/
theorem hr274_65 {xs : List Int32} {n : Nat} {Q : hQ} {m : gx_M} {s0 : Int}
    (h1 : Q (some (.inl s0)) m) : hxn xs (n + 1) yp_m274 65 [] [.inl s0] m Q := by
  exact hx_reti (by decide +kernel) h1

/-- count from 98 on -/
theorem hr274_98 {xs : List Int32} {n : Nat} {Q : hQ} {m : gx_M} {s0 : Int}
    (h1 : Q (some (.inl s0)) m) : hxn xs (n + 1) yp_m274 98 [] [.inl s0] m Q := by
  exact hx_reti (by decide +kernel) h1

/-- count from 103 on -/
theorem hr274_103 {xs : List Int32} {n : Nat} {Q : hQ} {m : gx_M} {s0 : Int}
    (h1 : Q (some (.inl s0)) m) : hxn xs (n + 1) yp_m274 103 [] [.inl s0] m Q := by
  exact hx_reti (by decide +kernel) h1

/-- tapeNumber from 0 on -/
theorem hr273_0 {xs : List Int32} {n : Nat} {Q : hQ} {m : gx_M} {x1 : Int}
    (h1 : hxn xs n yp_m273 6 [(0, .inr (.inl 86)), (1, .inl x1), (2, .inl 0), (3, .inl (gx_w (4 * x1)))] [] m Q) : hxn xs (n + 1) yp_m273 0 [(0, .inr (.inl 86)), (1, .inl x1)] [] m Q := by
  refine hx_blks (npc := 6) (L' := [(0, .inr (.inl 86)), (1, .inl x1), (2, .inl 0), (3, .inl (gx_w (4 * x1)))]) (st' := []) (m' := m) ((0, .iconst 0, 1, 0, 0, 0, 0), (0, 0, 0)) [((1, .istore_n 2, 1, 0, 0, 0, 0), (0, 0, 0)), ((2, .iconst 4, 1, 0, 0, 0, 0), (0, 0, 0)), ((3, .iload_n 1, 1, 0, 0, 0, 0), (0, 0, 0)), ((4, .imul, 1, 0, 0, 0, 0), (0, 0, 0)), ((5, .istore_n 3, 1, 0, 0, 0, 0), (0, 0, 0))] (by decide +kernel) rfl ?_
  exact hx_pick [0, 1, 2, 3] h1

/-- tapeNumber from 6 on -/
theorem hr273_6 {xs : List Int32} {n : Nat} {Q : hQ} {m : gx_M} {x1 x2 x3 : Int}
    (h1 : ((gx_w ((gx_w (4 * x1)) + 4)) ≤ x3) → Q (some (.inl x2)) m)
    (h2 : (x3 < (gx_w ((gx_w (4 * x1)) + 4))) → hxn xs n yp_m273 6 [(0, .inr (.inl 86)), (1, .inl x1), (2, .inl (gx_or (gx_shl x2 8) (gx_and (m 90 (x3).toNat) 255))), (3, .inl (gx_w (x3 + 1)))] [] m Q) : hxn xs (n + 1) yp_m273 6 [(0, .inr (.inl 86)), (1, .inl x1), (2, .inl x2), (3, .inl x3)] [] m Q := by
  refine hx_blks (npc := 12) (L' := [(0, .inr (.inl 86)), (1, .inl x1), (2, .inl x2), (3, .inl x3)]) (st' := [.inl (gx_w ((gx_w (4 * x1)) + 4)), .inl x3]) (m' := m) ((6, .iload_n 3, 1, 0, 0, 0, 0), (0, 0, 0)) [((7, .iconst 4, 1, 0, 0, 0, 0), (0, 0, 0)), ((8, .iload_n 1, 1, 0, 0, 0, 0), (0, 0, 0)), ((9, .imul, 1, 0, 0, 0, 0), (0, 0, 0)), ((10, .iconst 4, 1, 0, 0, 0, 0), (0, 0, 0)), ((11, .iadd, 1, 0, 0, 0, 0), (0, 0, 0))] (by decide +kernel) rfl ?_
  refine hx_cmp .ge 37 (by decide +kernel) (fun c1 => ?_) (fun c1 => ?_)
  · have c1 : (gx_w ((gx_w (4 * x1)) + 4)) ≤ x3 := c1
    refine hx_blk (npc := 38) (L' := [(0, .inr (.inl 86)), (1, .inl x1), (2, .inl x2), (3, .inl x3)]) (st' := [.inl x2]) (m' := m) [((37, .iload_n 2, 1, 0, 0, 0, 0), (0, 0, 0))] (by decide +kernel) rfl ?_
    exact hx_reti (by decide +kernel) (h1 c1)
  · have c1 : x3 < (gx_w ((gx_w (4 * x1)) + 4)) := by have h : ¬ ((gx_w ((gx_w (4 * x1)) + 4)) ≤ x3) := c1; omega
    have f1 := gx_and_bd (m 90 (x3).toNat) 255 (by decide)
    refine hx_blk (npc := 6) (L' := [(0, .inr (.inl 86)), (1, .inl x1), (2, .inl (gx_or (gx_shl x2 8) (gx_and (m 90 (x3).toNat) 255))), (3, .inl (gx_w (x3 + 1)))]) (st' := []) (m' := m) [((15, .iload_n 2, 1, 0, 0, 0, 0), (0, 0, 0)), ((16, .bipush 8, 2, 0, 0, 0, 0), (0, 0, 0)), ((18, .ishl, 1, 0, 0, 0, 0), (0, 0, 0)), ((19, .aload_n 0, 1, 0, 0, 0, 0), (0, 0, 0)), ((20, .getfield 19, 3, 10, 3, 5116, 0), (1, 86, 90)), ((23, .iload_n 3, 1, 0, 0, 0, 0), (0, 0, 0)), ((24, .baload, 1, 0, 0, 0, 0), (0, 90, 0)), ((25, .sipush 255, 3, 0, 0, 0, 0), (0, 0, 0)), ((28, .iand, 1, 0, 0, 0, 0), (0, 0, 0)), ((29, .ior, 1, 0, 0, 0, 0), (0, 0, 0)), ((30, .istore_n 2, 1, 0, 0, 0, 0), (0, 0, 0)), ((31, .iinc 3 1, 3, 0, 0, 0, 0), (0, 0, 0)), ((34, .goto (-28), 3, 0, 0, 0, 0), (0, 0, 0))] (by decide +kernel) rfl ?_
    exact hx_pick [0, 1, 2, 3] (h2 c1)

/-- check from 0 on -/
theorem hr272_0 {xs : List Int32} {n : Nat} {Q : hQ} {m : gx_M} {x1 : Int}
    (h1 : (0 ≤ x1 ∧ x1 ≤ 40) → (x1 ≤ (gx_w (Int.tdiv (m 86 4) 4))) → hxn xs n yp_m272 30 [(0, .inr (.inl 86)), (1, .inl x1), (2, .inl 0)] [] (gx_u m 86 4 0) Q)
    (h2 : (0 ≤ x1 ∧ x1 ≤ 40) → ((gx_w (Int.tdiv (m 86 4) 4)) < x1) → Q (some (.inl (-2))) m)
    (h3 : (¬ (0 ≤ x1 ∧ x1 ≤ 40)) → Q (some (.inl (-2))) m) : hxn xs (n + 1) yp_m272 0 [(0, .inr (.inl 86)), (1, .inl x1)] [] m Q := by
  refine hx_blks (npc := 4) (L' := [(0, .inr (.inl 86)), (1, .inl x1)]) (st' := [.inl 40, .inl 0, .inl x1]) (m' := m) ((0, .iload_n 1, 1, 0, 0, 0, 0), (0, 0, 0)) [((1, .iconst 0, 1, 0, 0, 0, 0), (0, 0, 0)), ((2, .bipush 40, 2, 0, 0, 0, 0), (0, 0, 0))] (by decide +kernel) rfl ?_
  refine hx_call (E := (4, .invokestatic 108, 3, 162, 0, 6023, 0)) (M' := yp_m162) [.inl x1, .inl 0, .inl 40] [] rfl (by decide +kernel) rfl ⟨rfl, rfl⟩ rfl rfl (hs162 (fun c1 => ?_) (fun c1 => ?_))
  · have c1 : 0 ≤ x1 ∧ x1 ≤ 40 := c1
    show hxn xs n yp_m272 7 [(0, .inr (.inl 86)), (1, .inl x1)] [.inl 1] m Q
    refine hx_if .eq 20 (by decide +kernel) (fun c2 => ?_) (fun c2 => ?_)
    · have c2 : (1 : Int) = 0 := c2
      exfalso; omega
    · have c2 : (1 : Int) ≠ 0 := c2
      refine hx_blk (npc := 17) (L' := [(0, .inr (.inl 86)), (1, .inl x1)]) (st' := [.inl (gx_w (Int.tdiv (m 86 4) 4)), .inl x1]) (m' := m) [((10, .iload_n 1, 1, 0, 0, 0, 0), (0, 0, 0)), ((11, .aload_n 0, 1, 0, 0, 0, 0), (0, 0, 0)), ((12, .getfield 124, 3, 10, 4, 5117, 0), (0, 86, 0)), ((15, .iconst 4, 1, 0, 0, 0, 0), (0, 0, 0)), ((16, .idiv, 1, 0, 0, 0, 0), (0, 0, 0))] (by decide +kernel) rfl ?_
      refine hx_cmp .le 23 (by decide +kernel) (fun c2 => ?_) (fun c2 => ?_)
      · have c2 : x1 ≤ (gx_w (Int.tdiv (m 86 4) 4)) := c2
        refine hx_blk (npc := 30) (L' := [(0, .inr (.inl 86)), (1, .inl x1), (2, .inl 0)]) (st' := []) (m' := (gx_u m 86 4 0)) [((23, .aload_n 0, 1, 0, 0, 0, 0), (0, 0, 0)), ((24, .iconst 0, 1, 0, 0, 0, 0), (0, 0, 0)), ((25, .putfield 124, 3, 10, 4, 5117, 0), (0, 86, 0)), ((28, .iconst 0, 1, 0, 0, 0, 0), (0, 0, 0)), ((29, .istore_n 2, 1, 0, 0, 0, 0), (0, 0, 0))] (by decide +kernel) rfl ?_
        exact hx_pick [0, 1, 2] (h1 c1 c2)
      · have c2 : (gx_w (Int.tdiv (m 86 4) 4)) < x1 := by have h : ¬ (x1 ≤ (gx_w (Int.tdiv (m 86 4) 4))) := c2; omega
        refine hx_blk (npc := 22) (L' := [(0, .inr (.inl 86)), (1, .inl x1)]) (st' := [.inl (-2)]) (m' := m) [((20, .bipush (-2), 2, 0, 0, 0, 0), (0, 0, 0))] (by decide +kernel) rfl ?_
        exact hx_reti (by decide +kernel) (h2 c1 c2)
  · have c1 : ¬ (0 ≤ x1 ∧ x1 ≤ 40) := c1
    show hxn xs n yp_m272 7 [(0, .inr (.inl 86)), (1, .inl x1)] [.inl 0] m Q
    refine hx_if .eq 20 (by decide +kernel) (fun c2 => ?_) (fun c2 => ?_)
    · have c2 : (0 : Int) = 0 := c2
      refine hx_blk (npc := 22) (L' := [(0, .inr (.inl 86)), (1, .inl x1)]) (st' := [.inl (-2)]) (m' := m) [((20, .bipush (-2), 2, 0, 0, 0, 0), (0, 0, 0))] (by decide +kernel) rfl ?_
      exact hx_reti (by decide +kernel) (h3 c1)
    · have c2 : (0 : Int) ≠ 0 := c2
      exfalso; omega

/-- check from 30 on -/
theorem hr272_30 {xs : List Int32} {n : Nat} {Q : hQ} {m : gx_M} {x1 x2 : Int}
    (h1 : (x1 ≤ x2) → Q (some (.inl (-1))) m)
    (h2 : (x2 < x1) → hxn xs n yp_m273 0 [(0, .inr (.inl 86)), (1, .inl x2)] [] m (fun r m' => hxn xs n yp_m272 40 [(0, .inr (.inl 86)), (1, .inl x1), (2, .inl x2)] (hrs r ++ []) m' Q)) : hxn xs (n + 1) yp_m272 30 [(0, .inr (.inl 86)), (1, .inl x1), (2, .inl x2)] [] m Q := by
  refine hx_blks (npc := 32) (L' := [(0, .inr (.inl 86)), (1, .inl x1), (2, .inl x2)]) (st' := [.inl x1, .inl x2]) (m' := m) ((30, .iload_n 2, 1, 0, 0, 0, 0), (0, 0, 0)) [((31, .iload_n 1, 1, 0, 0, 0, 0), (0, 0, 0))] (by decide +kernel) rfl ?_
  refine hx_cmp .ge 73 (by decide +kernel) (fun c1 => ?_) (fun c1 => ?_)
  · have c1 : x1 ≤ x2 := c1
    refine hx_blk (npc := 74) (L' := [(0, .inr (.inl 86)), (1, .inl x1), (2, .inl x2)]) (st' := [.inl (-1)]) (m' := m) [((73, .iconst (-1), 1, 0, 0, 0, 0), (0, 0, 0))] (by decide +kernel) rfl ?_
    exact hx_reti (by decide +kernel) (h1 c1)
  · have c1 : x2 < x1 := by have h : ¬ (x1 ≤ x2) := c1; omega
    refine hx_blk (npc := 37) (L' := [(0, .inr (.inl 86)), (1, .inl x1), (2, .inl x2)]) (st' := [.inl x2, .inr (.inl 86)]) (m' := m) [((35, .aload_n 0, 1, 0, 0, 0, 0), (0, 0, 0)), ((36, .iload_n 2, 1, 0, 0, 0, 0), (0, 0, 0))] (by decide +kernel) rfl ?_
    exact hx_call (E := (37, .invokevirtual 423, 3, 273, 0, 7222, 0)) (M' := yp_m273) [.inr (.inl 86), .inl x2] [] rfl (by decide +kernel) rfl ⟨rfl, rfl⟩ rfl rfl (hx_mono (h2 c1) (fun r m' h' => hx_pick [0, 1, 2] h'))

/-- check from 40 on -/
theorem hr272_40 {xs : List Int32} {n : Nat} {Q : hQ} {m : gx_M} {x1 x2 s0 : Int}
    (h1 : (aYr (m 87) x2) → (s0 = (m 87 (gx_w (240 + x2)).toNat)) → hxn xs n yp_m272 30 [(0, .inr (.inl 86)), (1, .inl x1), (2, .inl (gx_w (x2 + 1)))] [] m Q)
    (h2 : (aYr (m 87) x2) → (s0 ≠ (m 87 (gx_w (240 + x2)).toNat)) → Q (some (.inl x2)) m)
    (h3 : (¬ (aYr (m 87) x2)) → (s0 = 0) → hxn xs n yp_m272 30 [(0, .inr (.inl 86)), (1, .inl x1), (2, .inl (gx_w (x2 + 1)))] [] m Q)
    (h4 : (¬ (aYr (m 87) x2)) → (s0 ≠ 0) → Q (some (.inl x2)) m) : hxn xs (n + 1) yp_m272 40 [(0, .inr (.inl 86)), (1, .inl x1), (2, .inl x2)] [.inl s0] m Q := by
  refine hx_blks (npc := 42) (L' := [(0, .inr (.inl 86)), (1, .inl x1), (2, .inl x2)]) (st' := [.inl x2, .inr (.inl 86), .inl s0]) (m' := m) ((40, .aload_n 0, 1, 0, 0, 0, 0), (0, 0, 0)) [((41, .iload_n 2, 1, 0, 0, 0, 0), (0, 0, 0))] (by decide +kernel) rfl ?_
  refine hx_call (E := (42, .invokevirtual 269, 3, 196, 0, 6156, 0)) (M' := yp_m196) [.inr (.inl 86), .inl x2] [.inl s0] rfl (by decide +kernel) rfl ⟨rfl, rfl⟩ rfl rfl (hs196 (fun c1 => ?_) (fun c1 => ?_))
  · have c1 : aYr (m 87) x2 := c1
    show hxn xs n yp_m272 45 [(0, .inr (.inl 86)), (1, .inl x1), (2, .inl x2)] [.inl 1, .inl s0] m Q
    refine hx_if .eq 61 (by decide +kernel) (fun c2 => ?_) (fun c2 => ?_)
    · have c2 : (1 : Int) = 0 := c2
      exfalso; omega
    · have c2 : (1 : Int) ≠ 0 := c2
      refine hx_blk (npc := 62) (L' := [(0, .inr (.inl 86)), (1, .inl x1), (2, .inl x2)]) (st' := [.inl (m 87 (gx_w (240 + x2)).toNat), .inl s0]) (m' := m) [((48, .aload_n 0, 1, 0, 0, 0, 0), (0, 0, 0)), ((49, .getfield 7, 3, 10, 0, 5113, 0), (1, 86, 87)), ((52, .sipush 240, 3, 0, 0, 0, 0), (0, 0, 0)), ((55, .iload_n 2, 1, 0, 0, 0, 0), (0, 0, 0)), ((56, .iadd, 1, 0, 0, 0, 0), (0, 0, 0)), ((57, .iaload, 1, 0, 0, 0, 0), (0, 87, 0)), ((58, .goto 4, 3, 0, 0, 0, 0), (0, 0, 0))] (by decide +kernel) rfl ?_
      refine hx_cmp .eq 67 (by decide +kernel) (fun c2 => ?_) (fun c2 => ?_)
      · have c2 : s0 = (m 87 (gx_w (240 + x2)).toNat) := c2
        refine hx_blk (npc := 30) (L' := [(0, .inr (.inl 86)), (1, .inl x1), (2, .inl (gx_w (x2 + 1)))]) (st' := []) (m' := m) [((67, .iinc 2 1, 3, 0, 0, 0, 0), (0, 0, 0)), ((70, .goto (-40), 3, 0, 0, 0, 0), (0, 0, 0))] (by decide +kernel) rfl ?_
        exact hx_pick [0, 1, 2] (h1 c1 c2)
      · have c2 : s0 ≠ (m 87 (gx_w (240 + x2)).toNat) := c2
        refine hx_blk (npc := 66) (L' := [(0, .inr (.inl 86)), (1, .inl x1), (2, .inl x2)]) (st' := [.inl x2]) (m' := m) [((65, .iload_n 2, 1, 0, 0, 0, 0), (0, 0, 0))] (by decide +kernel) rfl ?_
        exact hx_reti (by decide +kernel) (h2 c1 c2)
  · have c1 : ¬ (aYr (m 87) x2) := c1
    show hxn xs n yp_m272 45 [(0, .inr (.inl 86)), (1, .inl x1), (2, .inl x2)] [.inl 0, .inl s0] m Q
    refine hx_if .eq 61 (by decide +kernel) (fun c2 => ?_) (fun c2 => ?_)
    · have c2 : (0 : Int) = 0 := c2
      refine hx_blk (npc := 62) (L' := [(0, .inr (.inl 86)), (1, .inl x1), (2, .inl x2)]) (st' := [.inl 0, .inl s0]) (m' := m) [((61, .iconst 0, 1, 0, 0, 0, 0), (0, 0, 0))] (by decide +kernel) rfl ?_
      refine hx_cmp .eq 67 (by decide +kernel) (fun c2 => ?_) (fun c2 => ?_)
      · have c2 : s0 = 0 := c2
        refine hx_blk (npc := 30) (L' := [(0, .inr (.inl 86)), (1, .inl x1), (2, .inl (gx_w (x2 + 1)))]) (st' := []) (m' := m) [((67, .iinc 2 1, 3, 0, 0, 0, 0), (0, 0, 0)), ((70, .goto (-40), 3, 0, 0, 0, 0), (0, 0, 0))] (by decide +kernel) rfl ?_
        exact hx_pick [0, 1, 2] (h3 c1 c2)
      · have c2 : s0 ≠ 0 := c2
        refine hx_blk (npc := 66) (L' := [(0, .inr (.inl 86)), (1, .inl x1), (2, .inl x2)]) (st' := [.inl x2]) (m' := m) [((65, .iload_n 2, 1, 0, 0, 0, 0), (0, 0, 0))] (by decide +kernel) rfl ?_
        exact hx_reti (by decide +kernel) (h4 c1 c2)
    · have c2 : (0 : Int) ≠ 0 := c2
      exfalso; omega
end
section
/-! count, check: by both -/
def aPn (s : Nat → Int) (y : Nat) : Bool := decide (s (440 + y) = 1) && decide (0 ≤ s (280 + y))
def cnS (s : Nat → Int) : Nat → Int
  | 0 => 0
  | p + 1 => cnS s p + s (1120 + p)
theorem cnS_bd {s : Nat → Int} (hs : sOK s) : ∀ k, k ≤ 8 → 0 ≤ cnS s k ∧ cnS s k ≤ 99999 * k
  | 0, _ => ⟨Int.le_refl _, Int.le_refl _⟩
  | k + 1, hk => by
    have ih := cnS_bd hs k (by omega)
    have hc := hs.coin k (by omega)
    show 0 ≤ cnS s k + s (1120 + k) ∧ cnS s k + s (1120 + k) ≤ 99999 * ((k + 1 : Nat) : Int)
    omega
def qCn (m : gx_M) (w : Int) : Int := if w = 0 then m 87 1128 else if w = 1 then ((hcnt (fun y => decide (m 87 (440 + y) = 1)) 40 : Nat) : Int) else if w = 2 then m 86 13 else if w = 3 then m 86 4 else if w = 4 then m 87 1130 else if w = 5 then m 87 1129 else if w = 6 then ((hcnt (aPn (m 87)) 40 : Nat) : Int) else if w = 7 then cnS (m 87) 8 else if w = 8 then m 86 44 else -1
section CK
variable {xs : List Int32} {n : Nat} {Q : hQ} {m : gx_M} {s : Nat → Int} {a1 : Int}
theorem c138 {b : Nat} (hs : sOK s) (h62 : ∀ {n : Nat} {Q : hQ} {p : Int}, 0 ≤ p ∧ p < 8 → Q (some (.inl (s (1120 + p.toNat)))) m → hxn xs n yp_m62 0 [(0, .inr (.inl b)), (1, .inl p)] [] m Q) (r0 : ∀ {n : Nat} {Q : hQ}, hxn xs n yp_m138 4 [(0, .inr (.inl b)), (1, .inl 0), (2, .inl 0)] [] m Q → hxn xs (n + 1) yp_m138 0 [(0, .inr (.inl b))] [] m Q) (r4 : ∀ {n : Nat} {Q : hQ} {x1 x2 : Int}, ((8 ≤ x2) → Q (some (.inl x1)) m) → ((x2 < 8) → hxn xs n yp_m62 0 [(0, .inr (.inl b)), (1, .inl x2)] [] m (fun r m' => hxn xs n yp_m138 16 [(0, .inr (.inl b)), (2, .inl x2)] (hrs r ++ [.inl x1]) m' Q)) → hxn xs (n + 1) yp_m138 4 [(0, .inr (.inl b)), (1, .inl x1), (2, .inl x2)] [] m Q) (r16 : ∀ {n : Nat} {Q : hQ} {x2 s0 s1 : Int}, hxn xs n yp_m138 4 [(0, .inr (.inl b)), (1, .inl (gx_w (s0 + s1))), (2, .inl (gx_w (x2 + 1)))] [] m Q → hxn xs (n + 1) yp_m138 16 [(0, .inr (.inl b)), (2, .inl x2)] [.inl s1, .inl s0] m Q) (h : Q (some (.inl (cnS s 8))) m) : hxn xs n yp_m138 0 [(0, .inr (.inl b))] [] m Q := by
  have hl := hloop (N := 8) (P := fun p => hxn xs n yp_m138 4 [(0, .inr (.inl b)), (1, .inl (cnS s p)), (2, .inl (p : Int))] [] m Q) (hx_dn (r4 (fun _ => h) (fun c => absurd c (by decide)))) (fun p hp ih => ?_) 0 (Nat.zero_le _)
  · exact hx_dn (r0 hl)
  · have bd := cnS_bd hs p (by omega)
    have hc := hs.coin p hp
    have ih : hxn xs n yp_m138 4 [(0, .inr (.inl b)), (1, .inl (cnS s p + s (1120 + p))), (2, .inl ((p + 1 : Nat) : Int))] [] m Q := ih
    refine hx_dn (r4 (fun c => absurd c (by omega)) (fun _ => h62 (by omega) (hx_dn (r16 ?_))))
    rw [Int.toNat_natCast, ew_u (by omega), gx_w_id (by omega) (by omega)]
    exact ih
theorem c138_5 (hs : sOK s) (hB : sBk 5 s m) (h : Q (some (.inl (cnS s 8))) m) : hxn xs n yp_m138 0 [(0, .inr (.inl 5))] [] m Q := c138 hs (fun hp h => hs62 hs hB hp h) hr138_0 hr138_4 hr138_16 h
theorem c159 (hs : sOK s) (hB : sBk 5 s m) (h : Q (some (.inl ((hcnt (aPn s) 40 : Nat) : Int))) m) : hxn xs n yp_m159 0 [(0, .inr (.inl 5))] [] m Q := by
  have hl := hloop (N := 40) (P := fun y => hxn xs n yp_m159 4 [(0, .inr (.inl 5)), (1, .inl ((hcnt (aPn s) y : Nat) : Int)), (2, .inl (y : Int))] [] m Q) (hx_dn (hr159_4 (fun _ => h) (fun c => absurd c (by decide)) (fun c => absurd c (by decide)))) (fun y hy ih => ?_) 0 (Nat.zero_le _)
  · exact hx_dn (hr159_0 hl)
  · have hle := hcnt_le (aPn s) y
    have iff := cPw5_iff hs hB hy
    refine hx_dn (hr159_4 (fun c => absurd c (by omega)) (fun _ c => ?_) (fun _ c => ?_))
    · have hf : aPn s y = true := by
        unfold aPn
        rw [decide_eq_true (iff.mp c).1, decide_eq_true (iff.mp c).2]
        rfl
      rw [hcnt_t hf] at ih
      rw [ew_u (by omega), gx_w_id (by omega) (by omega)]
      exact ih
    · have hf : aPn s y = false := by
        unfold aPn
        rw [Bool.eq_false_iff]
        intro q
        rw [Bool.and_eq_true, decide_eq_true_eq, decide_eq_true_eq] at q
        exact c (iff.mpr q)
      rw [hcnt_f0 hf] at ih
      rw [ew_u (by omega)]
      exact ih
theorem r262 (hs : sOK (m 87)) (h : Q (some (.inl (cnS (m 87) 8))) m) : hxn xs n yp_m262 0 [(0, .inr (.inl 86))] [] m Q := by
  have hl := hloop (N := 8) (P := fun p => hxn xs n yp_m262 4 [(0, .inr (.inl 86)), (1, .inl (cnS (m 87) p)), (2, .inl (p : Int))] [] m Q) (hx_dn (hr262_4 (fun _ => h) (fun c => absurd c (by decide)) (fun c => absurd c (by decide)))) (fun p hp ih => ?_) 0 (Nat.zero_le _)
  · exact hx_dn (hr262_0 hl)
  · have bd := cnS_bd hs p (by omega)
    have hc := hs.2.2.1 p hp
    have ih : hxn xs n yp_m262 4 [(0, .inr (.inl 86)), (1, .inl (cnS (m 87) p + m 87 (1120 + p))), (2, .inl ((p + 1 : Nat) : Int))] [] m Q := ih
    have e2 : (gx_w (1120 + (p : Int))).toNat = 1120 + p := by
      rw [gx_w_id (by omega) (by omega)]
      omega
    refine hx_dn (hr262_4 (fun c => absurd c (by omega)) (fun _ c => ?_) (fun _ c => ?_))
    · rw [e2, ew_u (by omega), gx_w_id (by omega) (by omega)]
      exact ih
    · have z : m 87 (1120 + p) = 0 := hc.2 (by
        rcases hb01 (m 87 1128) (p : Int) with e | e
        · exact e
        · exact absurd ⟨by omega, by omega, e⟩ c)
      rw [z] at ih
      rw [ew_u (by omega), gx_w_id (by omega) (by omega)]
      exact ih
theorem r275 (h : Q (some (.inl ((hcnt (aPn (m 87)) 40 : Nat) : Int))) m) : hxn xs n yp_m275 0 [(0, .inr (.inl 86))] [] m Q := by
  have hl := hloop (N := 40) (P := fun y => hxn xs n yp_m275 4 [(0, .inr (.inl 86)), (1, .inl ((hcnt (aPn (m 87)) y : Nat) : Int)), (2, .inl (y : Int))] [] m Q) (hx_dn (hr275_4 (fun _ => h) (fun c => absurd c (by decide)) (fun c => absurd c (by decide)) (fun c => absurd c (by decide)))) (fun y hy ih => ?_) 0 (Nat.zero_le _)
  · exact hx_dn (hr275_0 hl)
  · have hle := hcnt_le (aPn (m 87)) y
    have ipw : aPw (m 87) (y : Int) ↔ 0 ≤ m 87 (280 + y) := by
      unfold aPw
      rw [w280 hy]
    have no : aPn (m 87) y = false → hxn xs n yp_m275 4 [(0, .inr (.inl 86)), (1, .inl (gx_w (((hcnt (aPn (m 87)) y : Nat) : Int) + 0))), (2, .inl (gx_w ((y : Int) + 1)))] [] m Q := fun hf => by
      rw [hcnt_f hf] at ih
      rw [ew_u (by omega), gx_w_id (by omega) (by omega)]
      exact ih
    refine hx_dn (hr275_4 (fun c => absurd c (by omega)) (fun _ c d => ?_) (fun _ c d => no ?_) (fun _ c => no ?_))
    · have hf : aPn (m 87) y = true := by
        unfold aPn
        rw [decide_eq_true ((aYr_iff hy).mp c), decide_eq_true (ipw.mp d)]
        rfl
      rw [hcnt_t hf] at ih
      rw [ew_u (by omega), gx_w_id (by omega) (by omega)]
      exact ih
    · unfold aPn
      rw [decide_eq_false (fun q => d (ipw.mpr q)), Bool.and_false]
    · unfold aPn
      rw [decide_eq_false (fun q => c ((aYr_iff hy).mpr q)), Bool.false_and]
theorem ww_count (hT : hTp m) (hR : hWr xs m) : hxn xs n yp_m158 0 [(0, .inr (.inl 0)), (1, .inl a1)] [] m (fun r1 m1 => hxn xs n yp_m274 0 [(0, .inr (.inl 86)), (1, .inl a1)] [] m1 (fun r2 m2 => hWr xs m2 ∧ r2 = r1)) := by
  have hR' := hR
  obtain ⟨hs, hB, -, -, ⟨W, K, CL, rc, re, -, -, hc, hr, -, -⟩, h6⟩ := hR
  have R : hxn xs n yp_m274 0 [(0, .inr (.inl 86)), (1, .inl a1)] [] m (fun r2 m2 => hWr xs m2 ∧ r2 = some (.inl (qCn m a1))) := by
    unfold qCn
    refine hx_dn (hr274_0 (fun c => ⟨hR', ?_⟩) (fun c0 c => ?_) (fun c0 c1 c => ⟨hR', ?_⟩) (fun c0 c1 c2 c => ⟨hR', ?_⟩) (fun c0 c1 c2 c3 c => ⟨hR', ?_⟩) (fun c0 c1 c2 c3 c4 c => ⟨hR', ?_⟩) (fun c0 c1 c2 c3 c4 c5 c => ?_) (fun c0 c1 c2 c3 c4 c5 c6 c => ?_) (fun c0 c1 c2 c3 c4 c5 c6 c7 c => ⟨hR', ?_⟩) (fun c0 c1 c2 c3 c4 c5 c6 c7 c8 => ⟨hR', ?_⟩))
    · rw [if_pos c]
    · refine hs270 hs.there (hx_dn (hr274_65 ⟨hR', ?_⟩))
      rw [if_neg c0, if_pos c]
    · rw [if_neg c0, if_neg c1, if_pos c]
    · rw [if_neg c0, if_neg c1, if_neg c2, if_pos c]
    · rw [if_neg c0, if_neg c1, if_neg c2, if_neg c3, if_pos c]
    · rw [if_neg c0, if_neg c1, if_neg c2, if_neg c3, if_neg c4, if_pos c]
    · refine r275 (hx_dn (hr274_98 ⟨hR', ?_⟩))
      rw [if_neg c0, if_neg c1, if_neg c2, if_neg c3, if_neg c4, if_neg c5, if_pos c]
    · refine r262 hs (hx_dn (hr274_103 ⟨hR', ?_⟩))
      rw [if_neg c0, if_neg c1, if_neg c2, if_neg c3, if_neg c4, if_neg c5, if_neg c6, if_pos c]
    · rw [if_neg c0, if_neg c1, if_neg c2, if_neg c3, if_neg c4, if_neg c5, if_neg c6, if_neg c7, if_pos c]
    · rw [if_neg c0, if_neg c1, if_neg c2, if_neg c3, if_neg c4, if_neg c5, if_neg c6, if_neg c7, if_neg c8]
  have fin : ∀ v : Int, v = qCn m a1 → hxn xs n yp_m274 0 [(0, .inr (.inl 86)), (1, .inl a1)] [] m (fun r2 m2 => hWr xs m2 ∧ r2 = some (.inl v)) := fun v e => by
    rw [e]
    exact R
  unfold qCn at fin
  refine hx_dn (hr158_0 (fun c => fin _ ?_) (fun c0 c => ?_) (fun c0 c1 c => fin _ ?_) (fun c0 c1 c2 c => fin _ ?_) (fun c0 c1 c2 c3 c => fin _ ?_) (fun c0 c1 c2 c3 c4 c => fin _ ?_) (fun c0 c1 c2 c3 c4 c5 c => ?_) (fun c0 c1 c2 c3 c4 c5 c6 c => ?_) (fun c0 c1 c2 c3 c4 c5 c6 c7 c => fin _ ?_) (fun c0 c1 c2 c3 c4 c5 c6 c7 c8 => fin _ ?_))
  · rw [if_pos c]
    exact sB5_ppl hB
  · rw [sB5_yrs hB]
    refine c61 (hx_dn (hr158_70 (fin _ ?_)))
    rw [if_neg c0, if_pos c]
  · rw [if_neg c0, if_neg c1, if_pos c, hc.1, hr.1]
  · rw [if_neg c0, if_neg c1, if_neg c2, if_pos c]
    exact hT.2.2.1
  · rw [if_neg c0, if_neg c1, if_neg c2, if_neg c3, if_pos c]
    exact sB5_lot hB
  · rw [if_neg c0, if_neg c1, if_neg c2, if_neg c3, if_neg c4, if_pos c]
    exact sB5_day hB
  · refine c159 hs hB (hx_dn (hr158_110 (fin _ ?_)))
    rw [if_neg c0, if_neg c1, if_neg c2, if_neg c3, if_neg c4, if_neg c5, if_pos c]
  · refine c138_5 hs hB (hx_dn (hr158_118 (fin _ ?_)))
    rw [if_neg c0, if_neg c1, if_neg c2, if_neg c3, if_neg c4, if_neg c5, if_neg c6, if_pos c]
  · rw [if_neg c0, if_neg c1, if_neg c2, if_neg c3, if_neg c4, if_neg c5, if_neg c6, if_neg c7, if_pos c]
    exact h6
  · rw [if_neg c0, if_neg c1, if_neg c2, if_neg c3, if_neg c4, if_neg c5, if_neg c6, if_neg c7, if_neg c8]
end CK
end
section
/-! tried: roads -/
/-- tried from 0 on -/
theorem hr137_0 {xs : List Int32} {n : Nat} {Q : hQ} {m : gx_M} {x1 x2 : Int}
    (h1 : (x1 < 1) → Q (some (.inl (-1))) m)
    (h2 : (1 ≤ x1) → (100 < x1) → Q (some (.inl (-1))) m)
    (h3 : (1 ≤ x1) → (x1 ≤ 100) → (x2 = 0) → hxn xs n yp_m71 0 [(0, .inr (.inl 31)), (1, .inr (.inl 5))] [] m (fun r m' => hxn xs n yp_m137 49 [(0, .inr (.inl 0)), (1, .inl x1), (2, .inl x2), (3, .inl (gx_w (x2 - 10)))] (hrs r ++ []) m' Q))
    (h4 : (1 ≤ x1) → (x1 ≤ 100) → (x2 ≠ 0) → (x2 = 1) → hxn xs n yp_m71 0 [(0, .inr (.inl 31)), (1, .inr (.inl 5))] [] m (fun r m' => hxn xs n yp_m137 49 [(0, .inr (.inl 0)), (1, .inl x1), (2, .inl x2), (3, .inl (gx_w (x2 - 10)))] (hrs r ++ []) m' Q))
    (h5 : (1 ≤ x1) → (x1 ≤ 100) → (x2 ≠ 0) → (x2 ≠ 1) → (cPers 5 m (gx_w (x2 - 10))) → hxn xs n yp_m71 0 [(0, .inr (.inl 31)), (1, .inr (.inl 5))] [] m (fun r m' => hxn xs n yp_m137 49 [(0, .inr (.inl 0)), (1, .inl x1), (2, .inl x2), (3, .inl (gx_w (x2 - 10)))] (hrs r ++ []) m' Q))
    (h6 : (1 ≤ x1) → (x1 ≤ 100) → (x2 ≠ 0) → (x2 ≠ 1) → (¬ (cPers 5 m (gx_w (x2 - 10)))) → Q (some (.inl (-1))) m) : hxn xs (n + 1) yp_m137 0 [(0, .inr (.inl 0)), (1, .inl x1), (2, .inl x2)] [] m Q := by
  refine hx_blks (npc := 7) (L' := [(0, .inr (.inl 0)), (1, .inl x1), (2, .inl x2), (3, .inl (gx_w (x2 - 10)))]) (st' := [.inl 1, .inl x1]) (m' := m) ((0, .iload_n 2, 1, 0, 0, 0, 0), (0, 0, 0)) [((1, .bipush 10, 2, 0, 0, 0, 0), (0, 0, 0)), ((3, .isub, 1, 0, 0, 0, 0), (0, 0, 0)), ((4, .istore_n 3, 1, 0, 0, 0, 0), (0, 0, 0)), ((5, .iload_n 1, 1, 0, 0, 0, 0), (0, 0, 0)), ((6, .iconst 1, 1, 0, 0, 0, 0), (0, 0, 0))] (by decide +kernel) rfl ?_
  refine hx_cmp .lt 36 (by decide +kernel) (fun c1 => ?_) (fun c1 => ?_)
  · have c1 : x1 < 1 := c1
    refine hx_blk (npc := 37) (L' := [(0, .inr (.inl 0)), (1, .inl x1), (2, .inl x2), (3, .inl (gx_w (x2 - 10)))]) (st' := [.inl (-1)]) (m' := m) [((36, .iconst (-1), 1, 0, 0, 0, 0), (0, 0, 0))] (by decide +kernel) rfl ?_
    exact hx_reti (by decide +kernel) (h1 c1)
  · have c1 : 1 ≤ x1 := by have h : ¬ (x1 < 1) := c1; omega
    refine hx_blk (npc := 13) (L' := [(0, .inr (.inl 0)), (1, .inl x1), (2, .inl x2), (3, .inl (gx_w (x2 - 10)))]) (st' := [.inl 100, .inl x1]) (m' := m) [((10, .iload_n 1, 1, 0, 0, 0, 0), (0, 0, 0)), ((11, .bipush 100, 2, 0, 0, 0, 0), (0, 0, 0))] (by decide +kernel) rfl ?_
    refine hx_cmp .gt 36 (by decide +kernel) (fun c2 => ?_) (fun c2 => ?_)
    · have c2 : 100 < x1 := c2
      refine hx_blk (npc := 37) (L' := [(0, .inr (.inl 0)), (1, .inl x1), (2, .inl x2), (3, .inl (gx_w (x2 - 10)))]) (st' := [.inl (-1)]) (m' := m) [((36, .iconst (-1), 1, 0, 0, 0, 0), (0, 0, 0))] (by decide +kernel) rfl ?_
      exact hx_reti (by decide +kernel) (h2 c1 c2)
    · have c2 : x1 ≤ 100 := by have h : ¬ (100 < x1) := c2; omega
      refine hx_blk (npc := 17) (L' := [(0, .inr (.inl 0)), (1, .inl x1), (2, .inl x2), (3, .inl (gx_w (x2 - 10)))]) (st' := [.inl x2]) (m' := m) [((16, .iload_n 2, 1, 0, 0, 0, 0), (0, 0, 0))] (by decide +kernel) rfl ?_
      refine hx_if .eq 38 (by decide +kernel) (fun c3 => ?_) (fun c3 => ?_)
      · have c3 : x2 = 0 := c3
        refine hx_blk (npc := 46) (L' := [(0, .inr (.inl 0)), (1, .inl x1), (2, .inl x2), (3, .inl (gx_w (x2 - 10)))]) (st' := [.inr (.inl 5), .inr (.inl 31)]) (m' := m) [((38, .aload_n 0, 1, 0, 0, 0, 0), (0, 0, 0)), ((39, .getfield 33, 3, 9, 4, 2123, 0), (1, 0, 31)), ((42, .aload_n 0, 1, 0, 0, 0, 0), (0, 0, 0)), ((43, .getfield 26, 3, 9, 2, 2121, 0), (1, 0, 5))] (by decide +kernel) rfl ?_
        exact hx_call (E := (46, .invokevirtual 153, 3, 71, 0, 3193, 0)) (M' := yp_m71) [.inr (.inl 31), .inr (.inl 5)] [] rfl (by decide +kernel) rfl ⟨rfl, rfl⟩ rfl rfl (hx_mono (h3 c1 c2 c3) (fun r m' h' => hx_pick [0, 1, 2, 3] h'))
      · have c3 : x2 ≠ 0 := c3
        refine hx_blk (npc := 22) (L' := [(0, .inr (.inl 0)), (1, .inl x1), (2, .inl x2), (3, .inl (gx_w (x2 - 10)))]) (st' := [.inl 1, .inl x2]) (m' := m) [((20, .iload_n 2, 1, 0, 0, 0, 0), (0, 0, 0)), ((21, .iconst 1, 1, 0, 0, 0, 0), (0, 0, 0))] (by decide +kernel) rfl ?_
        refine hx_cmp .eq 38 (by decide +kernel) (fun c4 => ?_) (fun c4 => ?_)
        · have c4 : x2 = 1 := c4
          refine hx_blk (npc := 46) (L' := [(0, .inr (.inl 0)), (1, .inl x1), (2, .inl x2), (3, .inl (gx_w (x2 - 10)))]) (st' := [.inr (.inl 5), .inr (.inl 31)]) (m' := m) [((38, .aload_n 0, 1, 0, 0, 0, 0), (0, 0, 0)), ((39, .getfield 33, 3, 9, 4, 2123, 0), (1, 0, 31)), ((42, .aload_n 0, 1, 0, 0, 0, 0), (0, 0, 0)), ((43, .getfield 26, 3, 9, 2, 2121, 0), (1, 0, 5))] (by decide +kernel) rfl ?_
          exact hx_call (E := (46, .invokevirtual 153, 3, 71, 0, 3193, 0)) (M' := yp_m71) [.inr (.inl 31), .inr (.inl 5)] [] rfl (by decide +kernel) rfl ⟨rfl, rfl⟩ rfl rfl (hx_mono (h4 c1 c2 c3 c4) (fun r m' h' => hx_pick [0, 1, 2, 3] h'))
        · have c4 : x2 ≠ 1 := c4
          refine hx_blk (npc := 30) (L' := [(0, .inr (.inl 0)), (1, .inl x1), (2, .inl x2), (3, .inl (gx_w (x2 - 10)))]) (st' := [.inl (gx_w (x2 - 10)), .inr (.inl 5)]) (m' := m) [((25, .aload_n 0, 1, 0, 0, 0, 0), (0, 0, 0)), ((26, .getfield 26, 3, 9, 2, 2121, 0), (1, 0, 5)), ((29, .iload_n 3, 1, 0, 0, 0, 0), (0, 0, 0))] (by decide +kernel) rfl ?_
          refine hx_call (E := (30, .invokevirtual 94, 3, 13, 0, 2171, 0)) (M' := yp_m13) [.inr (.inl 5), .inl (gx_w (x2 - 10))] [] rfl (by decide +kernel) rfl ⟨rfl, rfl⟩ rfl rfl (hs13_5 (fun c5 => ?_) (fun c5 => ?_))
          · have c5 : cPers 5 m (gx_w (x2 - 10)) := c5
            show hxn xs n yp_m137 33 [(0, .inr (.inl 0)), (1, .inl x1), (2, .inl x2), (3, .inl (gx_w (x2 - 10)))] [.inl 1] m Q
            refine hx_if .ne 38 (by decide +kernel) (fun c6 => ?_) (fun c6 => ?_)
            · have c6 : (1 : Int) ≠ 0 := c6
              refine hx_blk (npc := 46) (L' := [(0, .inr (.inl 0)), (1, .inl x1), (2, .inl x2), (3, .inl (gx_w (x2 - 10)))]) (st' := [.inr (.inl 5), .inr (.inl 31)]) (m' := m) [((38, .aload_n 0, 1, 0, 0, 0, 0), (0, 0, 0)), ((39, .getfield 33, 3, 9, 4, 2123, 0), (1, 0, 31)), ((42, .aload_n 0, 1, 0, 0, 0, 0), (0, 0, 0)), ((43, .getfield 26, 3, 9, 2, 2121, 0), (1, 0, 5))] (by decide +kernel) rfl ?_
              exact hx_call (E := (46, .invokevirtual 153, 3, 71, 0, 3193, 0)) (M' := yp_m71) [.inr (.inl 31), .inr (.inl 5)] [] rfl (by decide +kernel) rfl ⟨rfl, rfl⟩ rfl rfl (hx_mono (h5 c1 c2 c3 c4 c5) (fun r m' h' => hx_pick [0, 1, 2, 3] h'))
            · have c6 : (1 : Int) = 0 := by have h : ¬ ((1 : Int) ≠ 0) := c6; omega
              exfalso; omega
          · have c5 : ¬ (cPers 5 m (gx_w (x2 - 10))) := c5
            show hxn xs n yp_m137 33 [(0, .inr (.inl 0)), (1, .inl x1), (2, .inl x2), (3, .inl (gx_w (x2 - 10)))] [.inl 0] m Q
            refine hx_if .ne 38 (by decide +kernel) (fun c6 => ?_) (fun c6 => ?_)
            · have c6 : (0 : Int) ≠ 0 := c6
              exfalso; omega
            · have c6 : (0 : Int) = 0 := by have h : ¬ ((0 : Int) ≠ 0) := c6; omega
              refine hx_blk (npc := 37) (L' := [(0, .inr (.inl 0)), (1, .inl x1), (2, .inl x2), (3, .inl (gx_w (x2 - 10)))]) (st' := [.inl (-1)]) (m' := m) [((36, .iconst (-1), 1, 0, 0, 0, 0), (0, 0, 0))] (by decide +kernel) rfl ?_
              exact hx_reti (by decide +kernel) (h6 c1 c2 c3 c4 c5)

/-- tried from 49 on -/
theorem hr137_49 {xs : List Int32} {n : Nat} {Q : hQ} {m : gx_M} {x1 x2 x3 : Int}
    (h1 : hxn xs n yp_m134 0 [(0, .inr (.inl 69)), (1, .inr (.inl 31)), (2, .inr (.inl 44)), (3, .inl x1)] [] m (fun r m' => hxn xs n yp_m137 65 [(0, .inr (.inl 0)), (2, .inl x2), (3, .inl x3)] (hrs r ++ []) m' Q)) : hxn xs (n + 1) yp_m137 49 [(0, .inr (.inl 0)), (1, .inl x1), (2, .inl x2), (3, .inl x3)] [] m Q := by
  refine hx_blks (npc := 62) (L' := [(0, .inr (.inl 0)), (1, .inl x1), (2, .inl x2), (3, .inl x3)]) (st' := [.inl x1, .inr (.inl 44), .inr (.inl 31), .inr (.inl 69)]) (m' := m) ((49, .aload_n 0, 1, 0, 0, 0, 0), (0, 0, 0)) [((50, .getfield 60, 3, 9, 8, 2127, 0), (1, 0, 69)), ((53, .aload_n 0, 1, 0, 0, 0, 0), (0, 0, 0)), ((54, .getfield 33, 3, 9, 4, 2123, 0), (1, 0, 31)), ((57, .aload_n 0, 1, 0, 0, 0, 0), (0, 0, 0)), ((58, .getfield 39, 3, 9, 5, 2124, 0), (1, 0, 44)), ((61, .iload_n 1, 1, 0, 0, 0, 0), (0, 0, 0))] (by decide +kernel) rfl ?_
  exact hx_call (E := (62, .invokevirtual 295, 3, 134, 0, 4229, 0)) (M' := yp_m134) [.inr (.inl 69), .inr (.inl 31), .inr (.inl 44), .inl x1] [] rfl (by decide +kernel) rfl ⟨rfl, rfl⟩ rfl rfl (hx_mono h1 (fun r m' h' => hx_pick [0, 2, 3] h'))

/-- tried from 65 on -/
theorem hr137_65 {xs : List Int32} {n : Nat} {Q : hQ} {m : gx_M} {x2 x3 s0 : Int}
    (h1 : (x2 ≠ 0) → (x2 ≠ 1) → hxn xs n yp_m60 0 [(0, .inr (.inl 31)), (1, .inl x3)] [] m (fun r m' => hxn xs n yp_m137 97 [] (hrs r ++ []) m' Q))
    (h2 : (x2 ≠ 0) → (x2 = 1) → hxn xs n yp_m138 0 [(0, .inr (.inl 31))] [] m (fun r m' => hxn xs n yp_m137 86 [] (hrs r ++ []) m' Q))
    (h3 : (x2 = 0) → Q (some (.inl s0)) m) : hxn xs (n + 1) yp_m137 65 [(0, .inr (.inl 0)), (2, .inl x2), (3, .inl x3)] [.inl s0] m Q := by
  refine hx_blks (npc := 68) (L' := [(0, .inr (.inl 0)), (2, .inl x2), (3, .inl x3), (4, .inl s0)]) (st' := [.inl x2]) (m' := m) ((65, .istore 4, 2, 0, 0, 0, 0), (0, 0, 0)) [((67, .iload_n 2, 1, 0, 0, 0, 0), (0, 0, 0))] (by decide +kernel) rfl ?_
  refine hx_if .ne 74 (by decide +kernel) (fun c1 => ?_) (fun c1 => ?_)
  · have c1 : x2 ≠ 0 := c1
    refine hx_blk (npc := 76) (L' := [(0, .inr (.inl 0)), (2, .inl x2), (3, .inl x3), (4, .inl s0)]) (st' := [.inl 1, .inl x2]) (m' := m) [((74, .iload_n 2, 1, 0, 0, 0, 0), (0, 0, 0)), ((75, .iconst 1, 1, 0, 0, 0, 0), (0, 0, 0))] (by decide +kernel) rfl ?_
    refine hx_cmp .ne 89 (by decide +kernel) (fun c2 => ?_) (fun c2 => ?_)
    · have c2 : x2 ≠ 1 := c2
      refine hx_blk (npc := 94) (L' := [(0, .inr (.inl 0)), (2, .inl x2), (3, .inl x3), (4, .inl s0)]) (st' := [.inl x3, .inr (.inl 31)]) (m' := m) [((89, .aload_n 0, 1, 0, 0, 0, 0), (0, 0, 0)), ((90, .getfield 33, 3, 9, 4, 2123, 0), (1, 0, 31)), ((93, .iload_n 3, 1, 0, 0, 0, 0), (0, 0, 0))] (by decide +kernel) rfl ?_
      exact hx_call (E := (94, .invokevirtual 181, 3, 60, 0, 3215, 0)) (M' := yp_m60) [.inr (.inl 31), .inl x3] [] rfl (by decide +kernel) rfl ⟨rfl, rfl⟩ rfl rfl (hx_mono (h1 c1 c2) (fun r m' h' => hx_pick [] h'))
    · have c2 : x2 = 1 := by have h : ¬ (x2 ≠ 1) := c2; omega
      refine hx_blk (npc := 83) (L' := [(0, .inr (.inl 0)), (2, .inl x2), (3, .inl x3), (4, .inl s0)]) (st' := [.inr (.inl 31)]) (m' := m) [((79, .aload_n 0, 1, 0, 0, 0, 0), (0, 0, 0)), ((80, .getfield 33, 3, 9, 4, 2123, 0), (1, 0, 31))] (by decide +kernel) rfl ?_
      exact hx_call (E := (83, .invokevirtual 302, 3, 138, 0, 5013, 0)) (M' := yp_m138) [.inr (.inl 31)] [] rfl (by decide +kernel) rfl ⟨rfl, rfl⟩ rfl rfl (hx_mono (h2 c1 c2) (fun r m' h' => hx_pick [] h'))
  · have c1 : x2 = 0 := by have h : ¬ (x2 ≠ 0) := c1; omega
    refine hx_blk (npc := 73) (L' := [(0, .inr (.inl 0)), (2, .inl x2), (3, .inl x3), (4, .inl s0)]) (st' := [.inl s0]) (m' := m) [((71, .iload 4, 2, 0, 0, 0, 0), (0, 0, 0))] (by decide +kernel) rfl ?_
    exact hx_reti (by decide +kernel) (h3 c1)

/-- tried from 86 on -/
theorem hr137_86 {xs : List Int32} {n : Nat} {Q : hQ} {m : gx_M} {s0 : Int}
    (h1 : Q (some (.inl s0)) m) : hxn xs (n + 1) yp_m137 86 [] [.inl s0] m Q := by
  refine hx_blks (npc := 100) (L' := []) (st' := [.inl s0]) (m' := m) ((86, .goto 14, 3, 0, 0, 0, 0), (0, 0, 0)) [] (by decide +kernel) rfl ?_
  exact hx_reti (by decide +kernel) h1

/-- tried from 97 on -/
theorem hr137_97 {xs : List Int32} {n : Nat} {Q : hQ} {m : gx_M} {s0 : Int}
    (h1 : hxn xs n yp_m61 0 [(0, .inr (.inr s0))] [] m (fun r m' => hxn xs n yp_m137 100 [] (hrs r ++ []) m' Q)) : hxn xs (n + 1) yp_m137 97 [] [.inr (.inr s0)] m Q := by
  exact hx_calls (E := (97, .invokestatic 185, 3, 61, 0, 3216, 0)) (M' := yp_m61) [.inr (.inr s0)] [] rfl (by decide +kernel) rfl ⟨rfl, rfl⟩ rfl rfl (hx_mono h1 (fun r m' h' => hx_pick [] h'))

/-- tried from 100 on -/
theorem hr137_100 {xs : List Int32} {n : Nat} {Q : hQ} {m : gx_M} {s0 : Int}
    (h1 : Q (some (.inl s0)) m) : hxn xs (n + 1) yp_m137 100 [] [.inl s0] m Q := by
  exact hx_reti (by decide +kernel) h1

/-- allCoins from 0 on -/
theorem hr31_138_0 {xs : List Int32} {n : Nat} {Q : hQ} {m : gx_M}
    (h1 : hxn xs n yp_m138 4 [(0, .inr (.inl 31)), (1, .inl 0), (2, .inl 0)] [] m Q) : hxn xs (n + 1) yp_m138 0 [(0, .inr (.inl 31))] [] m Q := by
  refine hx_blks (npc := 4) (L' := [(0, .inr (.inl 31)), (1, .inl 0), (2, .inl 0)]) (st' := []) (m' := m) ((0, .iconst 0, 1, 0, 0, 0, 0), (0, 0, 0)) [((1, .istore_n 1, 1, 0, 0, 0, 0), (0, 0, 0)), ((2, .iconst 0, 1, 0, 0, 0, 0), (0, 0, 0)), ((3, .istore_n 2, 1, 0, 0, 0, 0), (0, 0, 0))] (by decide +kernel) rfl ?_
  exact hx_pick [0, 1, 2] h1

/-- allCoins from 4 on -/
theorem hr31_138_4 {xs : List Int32} {n : Nat} {Q : hQ} {m : gx_M} {x1 x2 : Int}
    (h1 : (8 ≤ x2) → Q (some (.inl x1)) m)
    (h2 : (x2 < 8) → hxn xs n yp_m62 0 [(0, .inr (.inl 31)), (1, .inl x2)] [] m (fun r m' => hxn xs n yp_m138 16 [(0, .inr (.inl 31)), (2, .inl x2)] (hrs r ++ [.inl x1]) m' Q)) : hxn xs (n + 1) yp_m138 4 [(0, .inr (.inl 31)), (1, .inl x1), (2, .inl x2)] [] m Q := by
  refine hx_blks (npc := 7) (L' := [(0, .inr (.inl 31)), (1, .inl x1), (2, .inl x2)]) (st' := [.inl 8, .inl x2]) (m' := m) ((4, .iload_n 2, 1, 0, 0, 0, 0), (0, 0, 0)) [((5, .bipush 8, 2, 0, 0, 0, 0), (0, 0, 0))] (by decide +kernel) rfl ?_
  refine hx_cmp .ge 24 (by decide +kernel) (fun c1 => ?_) (fun c1 => ?_)
  · have c1 : 8 ≤ x2 := c1
    refine hx_blk (npc := 25) (L' := [(0, .inr (.inl 31)), (1, .inl x1), (2, .inl x2)]) (st' := [.inl x1]) (m' := m) [((24, .iload_n 1, 1, 0, 0, 0, 0), (0, 0, 0))] (by decide +kernel) rfl ?_
    exact hx_reti (by decide +kernel) (h1 c1)
  · have c1 : x2 < 8 := by have h : ¬ (8 ≤ x2) := c1; omega
    refine hx_blk (npc := 13) (L' := [(0, .inr (.inl 31)), (1, .inl x1), (2, .inl x2)]) (st' := [.inl x2, .inr (.inl 31), .inl x1]) (m' := m) [((10, .iload_n 1, 1, 0, 0, 0, 0), (0, 0, 0)), ((11, .aload_n 0, 1, 0, 0, 0, 0), (0, 0, 0)), ((12, .iload_n 2, 1, 0, 0, 0, 0), (0, 0, 0))] (by decide +kernel) rfl ?_
    exact hx_call (E := (13, .invokevirtual 102, 3, 62, 0, 5017, 0)) (M' := yp_m62) [.inr (.inl 31), .inl x2] [.inl x1] rfl (by decide +kernel) rfl ⟨rfl, rfl⟩ rfl rfl (hx_mono (h2 c1) (fun r m' h' => hx_pick [0, 2] h'))

/-- allCoins from 16 on -/
theorem hr31_138_16 {xs : List Int32} {n : Nat} {Q : hQ} {m : gx_M} {x2 s0 s1 : Int}
    (h1 : hxn xs n yp_m138 4 [(0, .inr (.inl 31)), (1, .inl (gx_w (s0 + s1))), (2, .inl (gx_w (x2 + 1)))] [] m Q) : hxn xs (n + 1) yp_m138 16 [(0, .inr (.inl 31)), (2, .inl x2)] [.inl s1, .inl s0] m Q := by
  refine hx_blks (npc := 4) (L' := [(0, .inr (.inl 31)), (2, .inl (gx_w (x2 + 1))), (1, .inl (gx_w (s0 + s1)))]) (st' := []) (m' := m) ((16, .iadd, 1, 0, 0, 0, 0), (0, 0, 0)) [((17, .istore_n 1, 1, 0, 0, 0, 0), (0, 0, 0)), ((18, .iinc 2 1, 3, 0, 0, 0, 0), (0, 0, 0)), ((21, .goto (-17), 3, 0, 0, 0, 0), (0, 0, 0))] (by decide +kernel) rfl ?_
  exact hx_pick [0, 1, 2] h1

/-- tried from 0 on -/
theorem hw261_0 {xs : List Int32} {n : Nat} {Q : hQ} {m : gx_M} {x1 x2 : Int}
    (h1 : (1 ≤ x1 ∧ x1 ≤ 100) → (0 ≤ x2 ∧ x2 ≤ 1) → hxn xs n yp_m212 0 [(0, .inr (.inl 87)), (1, .inr (.inl 88))] [] m (fun r m' => hxn xs n yp_m261 54 [(0, .inr (.inl 86)), (1, .inl x1), (2, .inl x2)] (hrs r ++ []) m' Q))
    (h2 : (1 ≤ x1 ∧ x1 ≤ 100) → (¬ (0 ≤ x2 ∧ x2 ≤ 1)) → (10 ≤ x2 ∧ x2 ≤ 17) → (aPers (m 87) (gx_w (x2 - 10))) → hxn xs n yp_m212 0 [(0, .inr (.inl 87)), (1, .inr (.inl 88))] [] m (fun r m' => hxn xs n yp_m261 54 [(0, .inr (.inl 86)), (1, .inl x1), (2, .inl x2)] (hrs r ++ []) m' Q))
    (h3 : (1 ≤ x1 ∧ x1 ≤ 100) → (¬ (0 ≤ x2 ∧ x2 ≤ 1)) → (10 ≤ x2 ∧ x2 ≤ 17) → (¬ (aPers (m 87) (gx_w (x2 - 10)))) → Q (some (.inl (-1))) m)
    (h4 : (1 ≤ x1 ∧ x1 ≤ 100) → (¬ (0 ≤ x2 ∧ x2 ≤ 1)) → (¬ (10 ≤ x2 ∧ x2 ≤ 17)) → Q (some (.inl (-1))) m)
    (h5 : (¬ (1 ≤ x1 ∧ x1 ≤ 100)) → Q (some (.inl (-1))) m) : hxn xs (n + 1) yp_m261 0 [(0, .inr (.inl 86)), (1, .inl x1), (2, .inl x2)] [] m Q := by
  refine hx_blks (npc := 4) (L' := [(0, .inr (.inl 86)), (1, .inl x1), (2, .inl x2)]) (st' := [.inl 100, .inl 1, .inl x1]) (m' := m) ((0, .iload_n 1, 1, 0, 0, 0, 0), (0, 0, 0)) [((1, .iconst 1, 1, 0, 0, 0, 0), (0, 0, 0)), ((2, .bipush 100, 2, 0, 0, 0, 0), (0, 0, 0))] (by decide +kernel) rfl ?_
  refine hx_call (E := (4, .invokestatic 108, 3, 162, 0, 6023, 0)) (M' := yp_m162) [.inl x1, .inl 1, .inl 100] [] rfl (by decide +kernel) rfl ⟨rfl, rfl⟩ rfl rfl (hs162 (fun c1 => ?_) (fun c1 => ?_))
  · have c1 : 1 ≤ x1 ∧ x1 ≤ 100 := c1
    show hxn xs n yp_m261 7 [(0, .inr (.inl 86)), (1, .inl x1), (2, .inl x2)] [.inl 1] m Q
    refine hx_if .eq 41 (by decide +kernel) (fun c2 => ?_) (fun c2 => ?_)
    · have c2 : (1 : Int) = 0 := c2
      exfalso; omega
    · have c2 : (1 : Int) ≠ 0 := c2
      refine hx_blk (npc := 13) (L' := [(0, .inr (.inl 86)), (1, .inl x1), (2, .inl x2)]) (st' := [.inl 1, .inl 0, .inl x2]) (m' := m) [((10, .iload_n 2, 1, 0, 0, 0, 0), (0, 0, 0)), ((11, .iconst 0, 1, 0, 0, 0, 0), (0, 0, 0)), ((12, .iconst 1, 1, 0, 0, 0, 0), (0, 0, 0))] (by decide +kernel) rfl ?_
      refine hx_call (E := (13, .invokestatic 108, 3, 162, 0, 6023, 0)) (M' := yp_m162) [.inl x2, .inl 0, .inl 1] [] rfl (by decide +kernel) rfl ⟨rfl, rfl⟩ rfl rfl (hs162 (fun c2 => ?_) (fun c2 => ?_))
      · have c2 : 0 ≤ x2 ∧ x2 ≤ 1 := c2
        show hxn xs n yp_m261 16 [(0, .inr (.inl 86)), (1, .inl x1), (2, .inl x2)] [.inl 1] m Q
        refine hx_if .ne 43 (by decide +kernel) (fun c3 => ?_) (fun c3 => ?_)
        · have c3 : (1 : Int) ≠ 0 := c3
          refine hx_blk (npc := 51) (L' := [(0, .inr (.inl 86)), (1, .inl x1), (2, .inl x2)]) (st' := [.inr (.inl 88), .inr (.inl 87)]) (m' := m) [((43, .aload_n 0, 1, 0, 0, 0, 0), (0, 0, 0)), ((44, .getfield 7, 3, 10, 0, 5113, 0), (1, 86, 87)), ((47, .aload_n 0, 1, 0, 0, 0, 0), (0, 0, 0)), ((48, .getfield 13, 3, 10, 1, 5114, 0), (1, 86, 88))] (by decide +kernel) rfl ?_
          exact hx_call (E := (51, .invokestatic 290, 3, 212, 0, 6217, 0)) (M' := yp_m212) [.inr (.inl 87), .inr (.inl 88)] [] rfl (by decide +kernel) rfl ⟨rfl, rfl⟩ rfl rfl (hx_mono (h1 c1 c2) (fun r m' h' => hx_pick [0, 1, 2] h'))
        · have c3 : (1 : Int) = 0 := by have h : ¬ ((1 : Int) ≠ 0) := c3; omega
          exfalso; omega
      · have c2 : ¬ (0 ≤ x2 ∧ x2 ≤ 1) := c2
        show hxn xs n yp_m261 16 [(0, .inr (.inl 86)), (1, .inl x1), (2, .inl x2)] [.inl 0] m Q
        refine hx_if .ne 43 (by decide +kernel) (fun c3 => ?_) (fun c3 => ?_)
        · have c3 : (0 : Int) ≠ 0 := c3
          exfalso; omega
        · have c3 : (0 : Int) = 0 := by have h : ¬ ((0 : Int) ≠ 0) := c3; omega
          refine hx_blk (npc := 24) (L' := [(0, .inr (.inl 86)), (1, .inl x1), (2, .inl x2)]) (st' := [.inl 17, .inl 10, .inl x2]) (m' := m) [((19, .iload_n 2, 1, 0, 0, 0, 0), (0, 0, 0)), ((20, .bipush 10, 2, 0, 0, 0, 0), (0, 0, 0)), ((22, .bipush 17, 2, 0, 0, 0, 0), (0, 0, 0))] (by decide +kernel) rfl ?_
          refine hx_call (E := (24, .invokestatic 108, 3, 162, 0, 6023, 0)) (M' := yp_m162) [.inl x2, .inl 10, .inl 17] [] rfl (by decide +kernel) rfl ⟨rfl, rfl⟩ rfl rfl (hs162 (fun c3 => ?_) (fun c3 => ?_))
          · have c3 : 10 ≤ x2 ∧ x2 ≤ 17 := c3
            show hxn xs n yp_m261 27 [(0, .inr (.inl 86)), (1, .inl x1), (2, .inl x2)] [.inl 1] m Q
            refine hx_if .eq 41 (by decide +kernel) (fun c4 => ?_) (fun c4 => ?_)
            · have c4 : (1 : Int) = 0 := c4
              exfalso; omega
            · have c4 : (1 : Int) ≠ 0 := c4
              refine hx_blk (npc := 35) (L' := [(0, .inr (.inl 86)), (1, .inl x1), (2, .inl x2)]) (st' := [.inl (gx_w (x2 - 10)), .inr (.inl 86)]) (m' := m) [((30, .aload_n 0, 1, 0, 0, 0, 0), (0, 0, 0)), ((31, .iload_n 2, 1, 0, 0, 0, 0), (0, 0, 0)), ((32, .bipush 10, 2, 0, 0, 0, 0), (0, 0, 0)), ((34, .isub, 1, 0, 0, 0, 0), (0, 0, 0))] (by decide +kernel) rfl ?_
              refine hx_call (E := (35, .invokevirtual 113, 3, 164, 0, 6031, 0)) (M' := yp_m164) [.inr (.inl 86), .inl (gx_w (x2 - 10))] [] rfl (by decide +kernel) rfl ⟨rfl, rfl⟩ rfl rfl (hs164 (fun c4 => ?_) (fun c4 => ?_))
              · have c4 : aPers (m 87) (gx_w (x2 - 10)) := c4
                show hxn xs n yp_m261 38 [(0, .inr (.inl 86)), (1, .inl x1), (2, .inl x2)] [.inl 1] m Q
                refine hx_if .ne 43 (by decide +kernel) (fun c5 => ?_) (fun c5 => ?_)
                · have c5 : (1 : Int) ≠ 0 := c5
                  refine hx_blk (npc := 51) (L' := [(0, .inr (.inl 86)), (1, .inl x1), (2, .inl x2)]) (st' := [.inr (.inl 88), .inr (.inl 87)]) (m' := m) [((43, .aload_n 0, 1, 0, 0, 0, 0), (0, 0, 0)), ((44, .getfield 7, 3, 10, 0, 5113, 0), (1, 86, 87)), ((47, .aload_n 0, 1, 0, 0, 0, 0), (0, 0, 0)), ((48, .getfield 13, 3, 10, 1, 5114, 0), (1, 86, 88))] (by decide +kernel) rfl ?_
                  exact hx_call (E := (51, .invokestatic 290, 3, 212, 0, 6217, 0)) (M' := yp_m212) [.inr (.inl 87), .inr (.inl 88)] [] rfl (by decide +kernel) rfl ⟨rfl, rfl⟩ rfl rfl (hx_mono (h2 c1 c2 c3 c4) (fun r m' h' => hx_pick [0, 1, 2] h'))
                · have c5 : (1 : Int) = 0 := by have h : ¬ ((1 : Int) ≠ 0) := c5; omega
                  exfalso; omega
              · have c4 : ¬ (aPers (m 87) (gx_w (x2 - 10))) := c4
                show hxn xs n yp_m261 38 [(0, .inr (.inl 86)), (1, .inl x1), (2, .inl x2)] [.inl 0] m Q
                refine hx_if .ne 43 (by decide +kernel) (fun c5 => ?_) (fun c5 => ?_)
                · have c5 : (0 : Int) ≠ 0 := c5
                  exfalso; omega
                · have c5 : (0 : Int) = 0 := by have h : ¬ ((0 : Int) ≠ 0) := c5; omega
                  refine hx_blk (npc := 42) (L' := [(0, .inr (.inl 86)), (1, .inl x1), (2, .inl x2)]) (st' := [.inl (-1)]) (m' := m) [((41, .iconst (-1), 1, 0, 0, 0, 0), (0, 0, 0))] (by decide +kernel) rfl ?_
                  exact hx_reti (by decide +kernel) (h3 c1 c2 c3 c4)
          · have c3 : ¬ (10 ≤ x2 ∧ x2 ≤ 17) := c3
            show hxn xs n yp_m261 27 [(0, .inr (.inl 86)), (1, .inl x1), (2, .inl x2)] [.inl 0] m Q
            refine hx_if .eq 41 (by decide +kernel) (fun c4 => ?_) (fun c4 => ?_)
            · have c4 : (0 : Int) = 0 := c4
              refine hx_blk (npc := 42) (L' := [(0, .inr (.inl 86)), (1, .inl x1), (2, .inl x2)]) (st' := [.inl (-1)]) (m' := m) [((41, .iconst (-1), 1, 0, 0, 0, 0), (0, 0, 0))] (by decide +kernel) rfl ?_
              exact hx_reti (by decide +kernel) (h4 c1 c2 c3)
            · have c4 : (0 : Int) ≠ 0 := c4
              exfalso; omega
  · have c1 : ¬ (1 ≤ x1 ∧ x1 ≤ 100) := c1
    show hxn xs n yp_m261 7 [(0, .inr (.inl 86)), (1, .inl x1), (2, .inl x2)] [.inl 0] m Q
    refine hx_if .eq 41 (by decide +kernel) (fun c2 => ?_) (fun c2 => ?_)
    · have c2 : (0 : Int) = 0 := c2
      refine hx_blk (npc := 42) (L' := [(0, .inr (.inl 86)), (1, .inl x1), (2, .inl x2)]) (st' := [.inl (-1)]) (m' := m) [((41, .iconst (-1), 1, 0, 0, 0, 0), (0, 0, 0))] (by decide +kernel) rfl ?_
      exact hx_reti (by decide +kernel) (h5 c1)
    · have c2 : (0 : Int) ≠ 0 := c2
      exfalso; omega

/-- tried from 54 on -/
theorem hw261_54 {xs : List Int32} {n : Nat} {Q : hQ} {m : gx_M} {x1 x2 : Int}
    (h1 : hxn xs n yp_m258 0 [(0, .inr (.inl 86)), (1, .inl x1)] [] m (fun r m' => hxn xs n yp_m261 59 [(0, .inr (.inl 86)), (2, .inl x2)] (hrs r ++ []) m' Q)) : hxn xs (n + 1) yp_m261 54 [(0, .inr (.inl 86)), (1, .inl x1), (2, .inl x2)] [] m Q := by
  refine hx_blks (npc := 56) (L' := [(0, .inr (.inl 86)), (1, .inl x1), (2, .inl x2)]) (st' := [.inl x1, .inr (.inl 86)]) (m' := m) ((54, .aload_n 0, 1, 0, 0, 0, 0), (0, 0, 0)) [((55, .iload_n 1, 1, 0, 0, 0, 0), (0, 0, 0))] (by decide +kernel) rfl ?_
  exact hx_call (E := (56, .invokevirtual 400, 3, 258, 0, 7160, 0)) (M' := yp_m258) [.inr (.inl 86), .inl x1] [] rfl (by decide +kernel) rfl ⟨rfl, rfl⟩ rfl rfl (hx_mono h1 (fun r m' h' => hx_pick [0, 2] h'))

/-- tried from 59 on -/
theorem hw261_59 {xs : List Int32} {n : Nat} {Q : hQ} {m : gx_M} {x2 : Int}
    (h1 : (x2 ≠ 0) → (x2 ≠ 1) → hxn xs n yp_m204 0 [(0, .inr (.inl 86)), (1, .inl (gx_w (x2 - 10)))] [] m (fun r m' => hxn xs n yp_m261 90 [(0, .inr (.inl 86))] (hrs r ++ []) m' Q))
    (h2 : (x2 ≠ 0) → (x2 = 1) → hxn xs n yp_m262 0 [(0, .inr (.inl 86))] [] m (fun r m' => hxn xs n yp_m261 79 [(0, .inr (.inl 86))] (hrs r ++ []) m' Q))
    (h3 : (x2 = 0) → hxn xs n yp_m212 0 [(0, .inr (.inl 88)), (1, .inr (.inl 87))] [] m (fun r m' => hxn xs n yp_m261 102 [(3, .inl (m 86 45))] (hrs r ++ []) m' Q)) : hxn xs (n + 1) yp_m261 59 [(0, .inr (.inl 86)), (2, .inl x2)] [] m Q := by
  refine hx_blks (npc := 60) (L' := [(0, .inr (.inl 86)), (2, .inl x2)]) (st' := [.inl x2]) (m' := m) ((59, .iload_n 2, 1, 0, 0, 0, 0), (0, 0, 0)) [] (by decide +kernel) rfl ?_
  refine hx_if .ne 70 (by decide +kernel) (fun c1 => ?_) (fun c1 => ?_)
  · have c1 : x2 ≠ 0 := c1
    refine hx_blk (npc := 72) (L' := [(0, .inr (.inl 86)), (2, .inl x2)]) (st' := [.inl 1, .inl x2]) (m' := m) [((70, .iload_n 2, 1, 0, 0, 0, 0), (0, 0, 0)), ((71, .iconst 1, 1, 0, 0, 0, 0), (0, 0, 0))] (by decide +kernel) rfl ?_
    refine hx_cmp .ne 82 (by decide +kernel) (fun c2 => ?_) (fun c2 => ?_)
    · have c2 : x2 ≠ 1 := c2
      refine hx_blk (npc := 87) (L' := [(0, .inr (.inl 86)), (2, .inl x2)]) (st' := [.inl (gx_w (x2 - 10)), .inr (.inl 86)]) (m' := m) [((82, .aload_n 0, 1, 0, 0, 0, 0), (0, 0, 0)), ((83, .iload_n 2, 1, 0, 0, 0, 0), (0, 0, 0)), ((84, .bipush 10, 2, 0, 0, 0, 0), (0, 0, 0)), ((86, .isub, 1, 0, 0, 0, 0), (0, 0, 0))] (by decide +kernel) rfl ?_
      exact hx_call (E := (87, .invokevirtual 235, 3, 204, 0, 6187, 0)) (M' := yp_m204) [.inr (.inl 86), .inl (gx_w (x2 - 10))] [] rfl (by decide +kernel) rfl ⟨rfl, rfl⟩ rfl rfl (hx_mono (h1 c1 c2) (fun r m' h' => hx_pick [0] h'))
    · have c2 : x2 = 1 := by have h : ¬ (x2 ≠ 1) := c2; omega
      refine hx_blk (npc := 76) (L' := [(0, .inr (.inl 86)), (2, .inl x2)]) (st' := [.inr (.inl 86)]) (m' := m) [((75, .aload_n 0, 1, 0, 0, 0, 0), (0, 0, 0))] (by decide +kernel) rfl ?_
      exact hx_call (E := (76, .invokevirtual 406, 3, 262, 0, 7177, 0)) (M' := yp_m262) [.inr (.inl 86)] [] rfl (by decide +kernel) rfl ⟨rfl, rfl⟩ rfl rfl (hx_mono (h2 c1 c2) (fun r m' h' => hx_pick [0] h'))
  · have c1 : x2 = 0 := by have h : ¬ (x2 ≠ 0) := c1; omega
    refine hx_blk (npc := 99) (L' := [(0, .inr (.inl 86)), (2, .inl x2), (3, .inl (m 86 45))]) (st' := [.inr (.inl 87), .inr (.inl 88)]) (m' := m) [((63, .aload_n 0, 1, 0, 0, 0, 0), (0, 0, 0)), ((64, .getfield 390, 3, 10, 45, 5158, 0), (0, 86, 0)), ((67, .goto 23, 3, 0, 0, 0, 0), (0, 0, 0)), ((90, .istore_n 3, 1, 0, 0, 0, 0), (0, 0, 0)), ((91, .aload_n 0, 1, 0, 0, 0, 0), (0, 0, 0)), ((92, .getfield 13, 3, 10, 1, 5114, 0), (1, 86, 88)), ((95, .aload_n 0, 1, 0, 0, 0, 0), (0, 0, 0)), ((96, .getfield 7, 3, 10, 0, 5113, 0), (1, 86, 87))] (by decide +kernel) rfl ?_
    exact hx_call (E := (99, .invokestatic 290, 3, 212, 0, 6217, 0)) (M' := yp_m212) [.inr (.inl 88), .inr (.inl 87)] [] rfl (by decide +kernel) rfl ⟨rfl, rfl⟩ rfl rfl (hx_mono (h3 c1) (fun r m' h' => hx_pick [3] h'))

/-- tried from 79 on -/
theorem hw261_79 {xs : List Int32} {n : Nat} {Q : hQ} {m : gx_M} {s0 : Int}
    (h1 : hxn xs n yp_m212 0 [(0, .inr (.inl 88)), (1, .inr (.inl 87))] [] m (fun r m' => hxn xs n yp_m261 102 [(3, .inl s0)] (hrs r ++ []) m' Q)) : hxn xs (n + 1) yp_m261 79 [(0, .inr (.inl 86))] [.inl s0] m Q := by
  refine hx_blks (npc := 99) (L' := [(0, .inr (.inl 86)), (3, .inl s0)]) (st' := [.inr (.inl 87), .inr (.inl 88)]) (m' := m) ((79, .goto 11, 3, 0, 0, 0, 0), (0, 0, 0)) [((90, .istore_n 3, 1, 0, 0, 0, 0), (0, 0, 0)), ((91, .aload_n 0, 1, 0, 0, 0, 0), (0, 0, 0)), ((92, .getfield 13, 3, 10, 1, 5114, 0), (1, 86, 88)), ((95, .aload_n 0, 1, 0, 0, 0, 0), (0, 0, 0)), ((96, .getfield 7, 3, 10, 0, 5113, 0), (1, 86, 87))] (by decide +kernel) rfl ?_
  exact hx_call (E := (99, .invokestatic 290, 3, 212, 0, 6217, 0)) (M' := yp_m212) [.inr (.inl 88), .inr (.inl 87)] [] rfl (by decide +kernel) rfl ⟨rfl, rfl⟩ rfl rfl (hx_mono h1 (fun r m' h' => hx_pick [3] h'))

/-- tried from 90 on -/
theorem hw261_90 {xs : List Int32} {n : Nat} {Q : hQ} {m : gx_M} {s0 : Int}
    (h1 : hxn xs n yp_m212 0 [(0, .inr (.inl 88)), (1, .inr (.inl 87))] [] m (fun r m' => hxn xs n yp_m261 102 [(3, .inl s0)] (hrs r ++ []) m' Q)) : hxn xs (n + 1) yp_m261 90 [(0, .inr (.inl 86))] [.inl s0] m Q := by
  refine hx_blks (npc := 99) (L' := [(0, .inr (.inl 86)), (3, .inl s0)]) (st' := [.inr (.inl 87), .inr (.inl 88)]) (m' := m) ((90, .istore_n 3, 1, 0, 0, 0, 0), (0, 0, 0)) [((91, .aload_n 0, 1, 0, 0, 0, 0), (0, 0, 0)), ((92, .getfield 13, 3, 10, 1, 5114, 0), (1, 86, 88)), ((95, .aload_n 0, 1, 0, 0, 0, 0), (0, 0, 0)), ((96, .getfield 7, 3, 10, 0, 5113, 0), (1, 86, 87))] (by decide +kernel) rfl ?_
  exact hx_call (E := (99, .invokestatic 290, 3, 212, 0, 6217, 0)) (M' := yp_m212) [.inr (.inl 88), .inr (.inl 87)] [] rfl (by decide +kernel) rfl ⟨rfl, rfl⟩ rfl rfl (hx_mono h1 (fun r m' h' => hx_pick [3] h'))

/-- tried from 102 on -/
theorem hw261_102 {xs : List Int32} {n : Nat} {Q : hQ} {m : gx_M} {x3 : Int}
    (h1 : Q (some (.inl x3)) m) : hxn xs (n + 1) yp_m261 102 [(3, .inl x3)] [] m Q := by
  refine hx_blks (npc := 103) (L' := [(3, .inl x3)]) (st' := [.inl x3]) (m' := m) ((102, .iload_n 3, 1, 0, 0, 0, 0), (0, 0, 0)) [] (by decide +kernel) rfl ?_
  exact hx_reti (by decide +kernel) h1
end
section
/-! the trial's book, copied -/
section TK
variable {m : gx_M} {s : Nat → Int}
theorem sBk31_c {m' : gx_M} (hC : hCp_31_5 m m') (hB : sBk 5 s m) : sBk 31 s m' := by
  obtain ⟨k0, k1, k2, k3, k4, a1, a2, a3, a4, a5, a6, a7, a8, a9, a10, a11, a12, kn⟩ := hC
  obtain ⟨⟨q1, q2, q3, q4, q5⟩, b2, b3, b4⟩ := hB
  refine ⟨⟨by rw [k0]; exact q1, by rw [k1]; exact q2, by rw [k2]; exact q3, by rw [k3]; exact q4, by rw [k4]; exact q5⟩, fun p hp => (a1 p hp).trans (b2 p hp), fun y hy => ?_, fun k hk => (a12 k hk).trans (b4 k hk)⟩
  obtain ⟨⟨z1, z2, z3, z4, z5⟩, z6, z7, z8, z9, z10⟩ := b3 y hy
  exact ⟨⟨(a2 y hy).trans z1, (a3 y hy).trans z2, (a4 y hy).trans z3, (a5 y hy).trans z4, (a6 y hy).trans z5⟩, (a7 y hy).trans z6, fun ht => (a8 y hy).trans (z7 ht), (a9 y hy).trans z8, (a10 y hy).trans z9, (a11 y hy).trans z10⟩
theorem hCp31_f {m' : gx_M} (hC : hCp_31_5 m m') : ∀ c, (c < 31 ∨ 43 < c) → m' c = m c := fun c hc => by
  obtain ⟨-, -, -, -, -, -, -, -, -, -, -, -, -, -, -, -, -, kn⟩ := hC
  refine kn c ?_
  simp only [List.mem_cons, List.not_mem_nil, or_false, not_or]
  omega
end TK
end
section
/-! tried: by both -/
def tV (W : (Int → Int) → Int → Option Int) (s : Nat → Int) (N : Nat) (w : Int) : Int := if w = 0 then (dN W s N).2 else if w = 1 then cnS (dN W s N).1 8 else ((hcnt (aOwn (dN W s N).1 (gx_w (w - 10))) 40 : Nat) : Int)
section TR
variable {xs : List Int32} {n : Nat} {Q : hQ} {m : gx_M} {s : Nat → Int} {a1 a2 : Int}
theorem ww_tried (b2 : hB a2) (hR : hWr xs m) : hxn xs n yp_m137 0 [(0, .inr (.inl 0)), (1, .inl a1), (2, .inl a2)] [] m (fun r1 m1 => hxn xs n yp_m261 0 [(0, .inr (.inl 86)), (1, .inl a1), (2, .inl a2)] [] m1 (fun r2 m2 => hWr xs m2 ∧ r2 = r1)) := by
  have hR' := hR
  obtain ⟨h1, h2, -, -, ⟨W, h5⟩, -⟩ := hR
  have b2' : -2147483648 ≤ a2 ∧ a2 ≤ 2147483647 := b2
  have w1 : a2 = 0 ∨ a2 = 1 → a2 = 0 ∨ a2 = 1 ∨ aPers (m 87) (gx_w (a2 - 10)) := fun h => h.elim .inl (fun e => .inr (.inl e))
  have bad : ¬ (1 ≤ a1 ∧ a1 ≤ 100 ∧ (a2 = 0 ∨ a2 = 1 ∨ aPers (m 87) (gx_w (a2 - 10)))) → hxn xs n yp_m261 0 [(0, .inr (.inl 86)), (1, .inl a1), (2, .inl a2)] [] m (fun r2 m2 => hWr xs m2 ∧ r2 = some (.inl (-1))) := fun c => hx_dn (hw261_0 (fun d1 d2 => absurd ⟨d1.1, d1.2, w1 (by omega)⟩ c) (fun d1 _ _ d4 => absurd ⟨d1.1, d1.2, .inr (.inr d4)⟩ c) (fun _ _ _ _ => ⟨hR', rfl⟩) (fun _ _ _ => ⟨hR', rfl⟩) (fun _ => ⟨hR', rfl⟩))
  have go : 1 ≤ a1 → a1 ≤ 100 → (a2 = 0 ∨ a2 = 1 ∨ aPers (m 87) (gx_w (a2 - 10))) → hxn xs n yp_m71 0 [(0, .inr (.inl 31)), (1, .inr (.inl 5))] [] m (fun r m' => hxn xs n yp_m137 49 [(0, .inr (.inl 0)), (1, .inl a1), (2, .inl a2), (3, .inl (gx_w (a2 - 10)))] (hrs r ++ []) m' (fun r1 m1 => hxn xs n yp_m261 0 [(0, .inr (.inl 86)), (1, .inl a1), (2, .inl a2)] [] m1 (fun r2 m2 => hWr xs m2 ∧ r2 = r1))) := fun c1 c2 hw => by
    obtain ⟨N, rfl⟩ : ∃ N : Nat, a1 = (N : Int) := ⟨a1.toNat, by omega⟩
    refine hs71_31_5 (fun m0 hC => ?_)
    have kn := hCp31_f hC
    have hL0 : lawR xs W m0 := lawR_c (hPL_of (fun c k hc => by rw [kn c (by omega)])) h5
    refine hx_dn (hr137_49 ?_)
    refine c31_134 (by omega) hL0 h1 (sBk31_c hC h2) (fun m1 hB1 f1 => ?_)
    have ok := (dN_ok (W := W) h1 N (by omega)).1
    have e1 : ∀ c k, (c < 31 ∨ 43 < c) → c ≠ 51 → ¬ (c = 44 ∧ 9 ≤ k ∧ k ≤ 11) → m1 c k = m c k := fun c k a b d => (f1 c k (by omega) b d).trans (congrFun (kn c a) k)
    have e87 : m1 87 = m 87 := funext (fun k => e1 87 k (by decide) (by decide) (by omega))
    have ref : ∀ v, v = tV W (m 87) N a2 → hxn xs n yp_m261 0 [(0, .inr (.inl 86)), (1, .inl (N : Int)), (2, .inl a2)] [] m1 (fun r2 m2 => hWr xs m2 ∧ r2 = some (.inl v)) := fun v ev => by
      have st : hxn xs n yp_m212 0 [(0, .inr (.inl 87)), (1, .inr (.inl 88))] [] m1 (fun r m' => hxn xs n yp_m261 54 [(0, .inr (.inl 86)), (1, .inl (N : Int)), (2, .inl a2)] (hrs r ++ []) m' (fun r2 m2 => hWr xs m2 ∧ r2 = some (.inl v))) := by
        refine hs212_87_88 ?_
        obtain ⟨M, hM⟩ : ∃ M, M = hcopy m1 87 0 88 0 1131 := ⟨_, rfl⟩
        rw [← hM]
        have g88 : ∀ k, k < 1131 → M 88 k = m 87 k := fun k hk => by rw [hM, hcopy_at hk, e87]
        have g : ∀ c k, (c < 31 ∨ 43 < c) → c ≠ 51 → ¬ (c = 44 ∧ 9 ≤ k ∧ k ≤ 11) → c ≠ 88 → M c k = m c k := fun c k a b d e => by
          rw [hM, hcopy_ne e]
          exact e1 c k a b d
        have g87 : M 87 = m 87 := funext (fun k => g 87 k (by decide) (by decide) (by omega) (by decide))
        have hL2 : lawR xs W M := lawR_c (hPL_of (fun c k hc => g c k (by omega) (by omega) (by omega) (by omega))) h5
        refine hx_dn (hw261_54 (r258 (by omega) hL2 (by rw [g87]; exact h1) (fun m3 q1 q2 q3 => ?_)))
        rw [g87] at q1 q2
        have bk : hWr xs (hcopy m3 88 0 87 0 1131) := by
          refine hWr_c (m := m) (hPR_of (fun c k hc => ?_)) hR'
          by_cases e : c = 87
          · subst e
            rw [hcopy_at (by omega), q3.1 88 (by decide) (by decide) (by decide) (by decide)]
            exact g88 k (by omega)
          · rw [hcopy_ne e, ← g c k (by omega) (by omega) (by omega) (by omega)]
            by_cases e2 : c = 86
            · subst e2
              exact q3.2 k (by omega)
            · exact congrFun (q3.1 c e2 e (by omega) (by omega)) k
        have ok3 : sOK (m3 87) := by rw [q1]; exact ok
        have fin : ∀ x, x = v → hxn xs n yp_m212 0 [(0, .inr (.inl 88)), (1, .inr (.inl 87))] [] m3 (fun r m' => hxn xs n yp_m261 102 [(3, .inl x)] (hrs r ++ []) m' (fun r2 m2 => hWr xs m2 ∧ r2 = some (.inl v))) := fun x e => hs212_88_87 (hx_dn (hw261_102 ⟨bk, by rw [e]⟩))
        unfold tV at ev
        refine hx_dn (hw261_59 (fun d1 d2 => ?_) (fun d1 d2 => ?_) (fun d1 => ?_))
        · refine hs204 ok3.there (hx_dn (hw261_90 (fin _ ?_)))
          rw [ev, if_neg d1, if_neg d2, q1]
        · refine r262 ok3 (hx_dn (hw261_79 (fin _ ?_)))
          rw [ev, if_neg d1, if_pos d2, q1]
        · refine fin _ ?_
          rw [ev, if_pos d1, q2]
      refine hx_dn (hw261_0 (fun _ _ => st) (fun _ _ _ _ => st) (fun _ d2 d3 d4 => ?_) (fun _ d2 d3 => ?_) (fun d => absurd ⟨c1, c2⟩ d))
      · exfalso
        rw [e87] at d4
        rcases hw with e | e | e
        · exact d2 (by omega)
        · exact d2 (by omega)
        · exact d4 e
      · exfalso
        rcases hw with e | e | e
        · exact d2 (by omega)
        · exact d2 (by omega)
        · have z1 := e.1
          have z2 := e.2.1
          unfold gx_w at z1 z2
          exact d3 (by omega)
    unfold tV at ref
    refine hx_dn (hr137_65 (fun d1 d2 => ?_) (fun d1 d2 => ?_) (fun d1 => ref _ (by rw [if_pos d1])))
    · refine hs31_60 (sB31_yrs hB1) (sB31_own hB1) (hx_dn (hr137_97 (c61 (hx_dn (hr137_100 (ref _ ?_))))))
      rw [if_neg d1, if_neg d2]
    · refine c138 ok (fun hp h => hs31_62 ok hB1 hp h) hr31_138_0 hr31_138_4 hr31_138_16 (hx_dn (hr137_86 (ref _ ?_)))
      rw [if_neg d1, if_pos d2]
  refine hx_dn (hr137_0 (fun c => bad (by omega)) (fun _ c => bad (by omega)) (fun c1 c2 c3 => go c1 c2 (.inl c3)) (fun c1 c2 c3 c4 => go c1 c2 (.inr (.inl c4))) (fun c1 c2 c3 c4 c5 => go c1 c2 (.inr (.inr ((cP_iff h2).mp c5)))) (fun c1 c2 c3 c4 c5 => bad (fun q => ?_)))
  rcases q.2.2 with e | e | e
  · exact c3 e
  · exact c4 e
  · exact c5 ((cP_iff h2).mpr e)
end TR
end
