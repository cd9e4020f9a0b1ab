section
/-! what stands when nothing of the state is written -/
theorem hPR_of {m m' : gx_M} (h : ∀ c k, ((c = 0 ∧ 12 ≤ k ∧ k < 14) ∨ (5 ≤ c ∧ c ≤ 30) ∨ (c = 44 ∧ k = 7) ∨ (45 ≤ c ∧ c ≤ 50) ∨ (c = 86 ∧ (k = 13 ∨ k = 44 ∨ k = 47)) ∨ (c = 87 ∧ k < 1131) ∨ (c = 89 ∧ k < 1131) ∨ (97 ≤ c ∧ c ≤ 101)) → m' c k = m c k) : hAg hPR m m' := by
  intro q hq k h1 h2
  refine h q.1 k ?_
  simp only [hPR, hPL, List.cons_append, List.nil_append, List.mem_cons, List.not_mem_nil, or_false] at hq
  rcases hq with rfl | rfl | rfl | rfl | rfl | rfl | rfl | rfl | rfl | rfl | rfl | rfl | rfl | rfl | rfl | rfl | rfl | rfl | rfl | rfl | rfl | rfl | rfl | rfl | rfl | rfl | rfl | rfl | rfl | rfl | rfl | rfl | rfl | rfl | rfl | rfl | rfl | rfl | rfl | rfl | rfl | rfl | rfl | rfl <;> (dsimp only at h1 h2 ⊢; omega)
theorem cLf_R {m m' : gx_M} (h : cLf m m') : hAg hPR m m' := hPR_of (fun c k hc => h c k (by omega) (by omega))
theorem rLf_R {m m' : gx_M} (h : rLf m m') : hAg hPR m m' := hPR_of (fun c k hc => congrFun (h c (by omega) (by omega)) k)
end
section
/-! count, check: roads -/
/-- allCoins from 0 on -/
theorem hr138_0 {xs : List Int32} {n : Nat} {Q : hQ} {m : gx_M}
    (h1 : hxn xs n yp_m138 4 [(0, .inr (.inl 5)), (1, .inl 0), (2, .inl 0)] [] m Q) : hxn xs (n + 1) yp_m138 0 [(0, .inr (.inl 5))] [] m Q := by
  refine hx_blks (npc := 4) (L' := [(0, .inr (.inl 5)), (1, .inl 0), (2, .inl 0)]) (st' := []) (m' := m) ((0, .iconst 0, 1, 0, 0, 0, 0), (0, 0, 0)) [((1, .istore_n 1, 1, 0, 0, 0, 0), (0, 0, 0)), ((2, .iconst 0, 1, 0, 0, 0, 0), (0, 0, 0)), ((3, .istore_n 2, 1, 0, 0, 0, 0), (0, 0, 0))] (by decide +kernel) rfl ?_
  exact hx_pick [0, 1, 2] h1

/-- allCoins from 4 on -/
theorem hr138_4 {xs : List Int32} {n : Nat} {Q : hQ} {m : gx_M} {x1 x2 : Int}
    (h1 : (8 ≤ x2) → Q (some (.inl x1)) m)
    (h2 : (x2 < 8) → hxn xs n yp_m62 0 [(0, .inr (.inl 5)), (1, .inl x2)] [] m (fun r m' => hxn xs n yp_m138 16 [(0, .inr (.inl 5)), (2, .inl x2)] (hrs r ++ [.inl x1]) m' Q)) : hxn xs (n + 1) yp_m138 4 [(0, .inr (.inl 5)), (1, .inl x1), (2, .inl x2)] [] m Q := by
  refine hx_blks (npc := 7) (L' := [(0, .inr (.inl 5)), (1, .inl x1), (2, .inl x2)]) (st' := [.inl 8, .inl x2]) (m' := m) ((4, .iload_n 2, 1, 0, 0, 0, 0), (0, 0, 0)) [((5, .bipush 8, 2, 0, 0, 0, 0), (0, 0, 0))] (by decide +kernel) rfl ?_
  refine hx_cmp .ge 24 (by decide +kernel) (fun c1 => ?_) (fun c1 => ?_)
  · have c1 : 8 ≤ x2 := c1
    refine hx_blk (npc := 25) (L' := [(0, .inr (.inl 5)), (1, .inl x1), (2, .inl x2)]) (st' := [.inl x1]) (m' := m) [((24, .iload_n 1, 1, 0, 0, 0, 0), (0, 0, 0))] (by decide +kernel) rfl ?_
    exact hx_reti (by decide +kernel) (h1 c1)
  · have c1 : x2 < 8 := by have h : ¬ (8 ≤ x2) := c1; omega
    refine hx_blk (npc := 13) (L' := [(0, .inr (.inl 5)), (1, .inl x1), (2, .inl x2)]) (st' := [.inl x2, .inr (.inl 5), .inl x1]) (m' := m) [((10, .iload_n 1, 1, 0, 0, 0, 0), (0, 0, 0)), ((11, .aload_n 0, 1, 0, 0, 0, 0), (0, 0, 0)), ((12, .iload_n 2, 1, 0, 0, 0, 0), (0, 0, 0))] (by decide +kernel) rfl ?_
    exact hx_call (E := (13, .invokevirtual 102, 3, 62, 0, 5017, 0)) (M' := yp_m62) [.inr (.inl 5), .inl x2] [.inl x1] rfl (by decide +kernel) rfl ⟨rfl, rfl⟩ rfl rfl (hx_mono (h2 c1) (fun r m' h' => hx_pick [0, 2] h'))

/-- allCoins from 16 on -/
theorem hr138_16 {xs : List Int32} {n : Nat} {Q : hQ} {m : gx_M} {x2 s0 s1 : Int}
    (h1 : hxn xs n yp_m138 4 [(0, .inr (.inl 5)), (1, .inl (gx_w (s0 + s1))), (2, .inl (gx_w (x2 + 1)))] [] m Q) : hxn xs (n + 1) yp_m138 16 [(0, .inr (.inl 5)), (2, .inl x2)] [.inl s1, .inl s0] m Q := by
  refine hx_blks (npc := 4) (L' := [(0, .inr (.inl 5)), (2, .inl (gx_w (x2 + 1))), (1, .inl (gx_w (s0 + s1)))]) (st' := []) (m' := m) ((16, .iadd, 1, 0, 0, 0, 0), (0, 0, 0)) [((17, .istore_n 1, 1, 0, 0, 0, 0), (0, 0, 0)), ((18, .iinc 2 1, 3, 0, 0, 0, 0), (0, 0, 0)), ((21, .goto (-17), 3, 0, 0, 0, 0), (0, 0, 0))] (by decide +kernel) rfl ?_
  exact hx_pick [0, 1, 2] h1

/-- pawns from 0 on -/
theorem hr159_0 {xs : List Int32} {n : Nat} {Q : hQ} {m : gx_M}
    (h1 : hxn xs n yp_m159 4 [(0, .inr (.inl 5)), (1, .inl 0), (2, .inl 0)] [] m Q) : hxn xs (n + 1) yp_m159 0 [(0, .inr (.inl 5))] [] m Q := by
  refine hx_blks (npc := 4) (L' := [(0, .inr (.inl 5)), (1, .inl 0), (2, .inl 0)]) (st' := []) (m' := m) ((0, .iconst 0, 1, 0, 0, 0, 0), (0, 0, 0)) [((1, .istore_n 1, 1, 0, 0, 0, 0), (0, 0, 0)), ((2, .iconst 0, 1, 0, 0, 0, 0), (0, 0, 0)), ((3, .istore_n 2, 1, 0, 0, 0, 0), (0, 0, 0))] (by decide +kernel) rfl ?_
  exact hx_pick [0, 1, 2] h1

/-- pawns from 4 on -/
theorem hr159_4 {xs : List Int32} {n : Nat} {Q : hQ} {m : gx_M} {x1 x2 : Int}
    (h1 : (40 ≤ x2) → Q (some (.inl x1)) m)
    (h2 : (x2 < 40) → (cPwd 5 13 m x2) → hxn xs n yp_m159 4 [(0, .inr (.inl 5)), (1, .inl (gx_w (x1 + 1))), (2, .inl (gx_w (x2 + 1)))] [] m Q)
    (h3 : (x2 < 40) → (¬ (cPwd 5 13 m x2)) → hxn xs n yp_m159 4 [(0, .inr (.inl 5)), (1, .inl x1), (2, .inl (gx_w (x2 + 1)))] [] m Q) : hxn xs (n + 1) yp_m159 4 [(0, .inr (.inl 5)), (1, .inl x1), (2, .inl x2)] [] m Q := by
  refine hx_blks (npc := 7) (L' := [(0, .inr (.inl 5)), (1, .inl x1), (2, .inl x2)]) (st' := [.inl 40, .inl x2]) (m' := m) ((4, .iload_n 2, 1, 0, 0, 0, 0), (0, 0, 0)) [((5, .bipush 40, 2, 0, 0, 0, 0), (0, 0, 0))] (by decide +kernel) rfl ?_
  refine hx_cmp .ge 27 (by decide +kernel) (fun c1 => ?_) (fun c1 => ?_)
  · have c1 : 40 ≤ x2 := c1
    refine hx_blk (npc := 28) (L' := [(0, .inr (.inl 5)), (1, .inl x1), (2, .inl x2)]) (st' := [.inl x1]) (m' := m) [((27, .iload_n 1, 1, 0, 0, 0, 0), (0, 0, 0))] (by decide +kernel) rfl ?_
    exact hx_reti (by decide +kernel) (h1 c1)
  · have c1 : x2 < 40 := by have h : ¬ (40 ≤ x2) := c1; omega
    refine hx_blk (npc := 12) (L' := [(0, .inr (.inl 5)), (1, .inl x1), (2, .inl x2)]) (st' := [.inl x2, .inr (.inl 5)]) (m' := m) [((10, .aload_n 0, 1, 0, 0, 0, 0), (0, 0, 0)), ((11, .iload_n 2, 1, 0, 0, 0, 0), (0, 0, 0))] (by decide +kernel) rfl ?_
    refine hx_call (E := (12, .invokevirtual 106, 3, 79, 0, 3230, 0)) (M' := yp_m79) [.inr (.inl 5), .inl x2] [] rfl (by decide +kernel) rfl ⟨rfl, rfl⟩ rfl rfl (hs79_5 (fun c2 => ?_) (fun c2 => ?_))
    · have c2 : cPwd 5 13 m x2 := c2
      show hxn xs n yp_m159 15 [(0, .inr (.inl 5)), (1, .inl x1), (2, .inl x2)] [.inl 1] m Q
      refine hx_if .eq 21 (by decide +kernel) (fun c3 => ?_) (fun c3 => ?_)
      · have c3 : (1 : Int) = 0 := c3
        exfalso; omega
      · have c3 : (1 : Int) ≠ 0 := c3
        refine hx_blk (npc := 4) (L' := [(0, .inr (.inl 5)), (1, .inl (gx_w (x1 + 1))), (2, .inl (gx_w (x2 + 1)))]) (st' := []) (m' := m) [((18, .iinc 1 1, 3, 0, 0, 0, 0), (0, 0, 0)), ((21, .iinc 2 1, 3, 0, 0, 0, 0), (0, 0, 0)), ((24, .goto (-20), 3, 0, 0, 0, 0), (0, 0, 0))] (by decide +kernel) rfl ?_
        exact hx_pick [0, 1, 2] (h2 c1 c2)
    · have c2 : ¬ (cPwd 5 13 m x2) := c2
      show hxn xs n yp_m159 15 [(0, .inr (.inl 5)), (1, .inl x1), (2, .inl x2)] [.inl 0] m Q
      refine hx_if .eq 21 (by decide +kernel) (fun c3 => ?_) (fun c3 => ?_)
      · have c3 : (0 : Int) = 0 := c3
        refine hx_blk (npc := 4) (L' := [(0, .inr (.inl 5)), (1, .inl x1), (2, .inl (gx_w (x2 + 1)))]) (st' := []) (m' := m) [((21, .iinc 2 1, 3, 0, 0, 0, 0), (0, 0, 0)), ((24, .goto (-20), 3, 0, 0, 0, 0), (0, 0, 0))] (by decide +kernel) rfl ?_
        exact hx_pick [0, 1, 2] (h3 c1 c2)
      · have c3 : (0 : Int) ≠ 0 := c3
        exfalso; omega

/-- count from 0 on -/
theorem hr158_0 {xs : List Int32} {n : Nat} {Q : hQ} {m : gx_M} {x1 : Int}
    (h1 : (x1 = 0) → Q (some (.inl (m 5 0))) m)
    (h2 : (x1 ≠ 0) → (x1 = 1) → hxn xs n yp_m61 0 [(0, .inr (.inr (m 5 1)))] [] m (fun r m' => hxn xs n yp_m158 70 [] (hrs r ++ []) m' Q))
    (h3 : (x1 ≠ 0) → (x1 ≠ 1) → (x1 = 2) → Q (some (.inl (m 44 7))) m)
    (h4 : (x1 ≠ 0) → (x1 ≠ 1) → (x1 ≠ 2) → (x1 = 3) → Q (some (.inl (m 1 1))) m)
    (h5 : (x1 ≠ 0) → (x1 ≠ 1) → (x1 ≠ 2) → (x1 ≠ 3) → (x1 = 4) → Q (some (.inl (m 5 4))) m)
    (h6 : (x1 ≠ 0) → (x1 ≠ 1) → (x1 ≠ 2) → (x1 ≠ 3) → (x1 ≠ 4) → (x1 = 5) → Q (some (.inl (m 5 3))) m)
    (h7 : (x1 ≠ 0) → (x1 ≠ 1) → (x1 ≠ 2) → (x1 ≠ 3) → (x1 ≠ 4) → (x1 ≠ 5) → (x1 = 6) → hxn xs n yp_m159 0 [(0, .inr (.inl 5))] [] m (fun r m' => hxn xs n yp_m158 110 [] (hrs r ++ []) m' Q))
    (h8 : (x1 ≠ 0) → (x1 ≠ 1) → (x1 ≠ 2) → (x1 ≠ 3) → (x1 ≠ 4) → (x1 ≠ 5) → (x1 ≠ 6) → (x1 = 7) → hxn xs n yp_m138 0 [(0, .inr (.inl 5))] [] m (fun r m' => hxn xs n yp_m158 118 [] (hrs r ++ []) m' Q))
    (h9 : (x1 ≠ 0) → (x1 ≠ 1) → (x1 ≠ 2) → (x1 ≠ 3) → (x1 ≠ 4) → (x1 ≠ 5) → (x1 ≠ 6) → (x1 ≠ 7) → (x1 = 8) → Q (some (.inl (m 0 13))) m)
    (h10 : (x1 ≠ 0) → (x1 ≠ 1) → (x1 ≠ 2) → (x1 ≠ 3) → (x1 ≠ 4) → (x1 ≠ 5) → (x1 ≠ 6) → (x1 ≠ 7) → (x1 ≠ 8) → Q (some (.inl (-1))) m) : hxn xs (n + 1) yp_m158 0 [(0, .inr (.inl 0)), (1, .inl x1)] [] m Q := by
  refine hx_blks (npc := 1) (L' := [(0, .inr (.inl 0)), (1, .inl x1)]) (st' := [.inl x1]) (m' := m) ((0, .iload_n 1, 1, 0, 0, 0, 0), (0, 0, 0)) [] (by decide +kernel) rfl ?_
  refine hx_tsw 124 [(0, 52), (1, 60), (2, 71), (3, 79), (4, 87), (5, 95), (6, 103), (7, 111), (8, 119)] (by decide +kernel) ?_
  refine hsw_c (fun c1 => ?_) (fun c1 => ?_)
  · have c1 : x1 = 0 := c1
    refine hx_blk (npc := 59) (L' := [(0, .inr (.inl 0)), (1, .inl x1)]) (st' := [.inl (m 5 0)]) (m' := m) [((52, .aload_n 0, 1, 0, 0, 0, 0), (0, 0, 0)), ((53, .getfield 26, 3, 9, 2, 2121, 0), (1, 0, 5)), ((56, .getfield 86, 3, 2, 0, 1077, 0), (0, 5, 0))] (by decide +kernel) rfl ?_
    exact hx_reti (by decide +kernel) (h1 c1)
  refine hsw_c (fun c2 => ?_) (fun c2 => ?_)
  · have c2 : x1 = 1 := c2
    refine hx_blk (npc := 67) (L' := [(0, .inr (.inl 0)), (1, .inl x1)]) (st' := [.inr (.inr (m 5 1))]) (m' := m) [((60, .aload_n 0, 1, 0, 0, 0, 0), (0, 0, 0)), ((61, .getfield 26, 3, 9, 2, 2121, 0), (1, 0, 5)), ((64, .getfield 337, 3, 2, 1, 1079, 0), (2, 5, 0))] (by decide +kernel) rfl ?_
    exact hx_call (E := (67, .invokestatic 185, 3, 61, 0, 3216, 0)) (M' := yp_m61) [.inr (.inr (m 5 1))] [] rfl (by decide +kernel) rfl ⟨rfl, rfl⟩ rfl rfl (hx_mono (h2 c1 c2) (fun r m' h' => hx_pick [] h'))
  refine hsw_c (fun c3 => ?_) (fun c3 => ?_)
  · have c3 : x1 = 2 := c3
    refine hx_blk (npc := 78) (L' := [(0, .inr (.inl 0)), (1, .inl x1)]) (st' := [.inl (m 44 7)]) (m' := m) [((71, .aload_n 0, 1, 0, 0, 0, 0), (0, 0, 0)), ((72, .getfield 39, 3, 9, 5, 2124, 0), (1, 0, 44)), ((75, .getfield 146, 3, 3, 7, 1188, 0), (0, 44, 0))] (by decide +kernel) rfl ?_
    exact hx_reti (by decide +kernel) (h3 c1 c2 c3)
  refine hsw_c (fun c4 => ?_) (fun c4 => ?_)
  · have c4 : x1 = 3 := c4
    refine hx_blk (npc := 86) (L' := [(0, .inr (.inl 0)), (1, .inl x1)]) (st' := [.inl (m 1 1)]) (m' := m) [((79, .aload_n 0, 1, 0, 0, 0, 0), (0, 0, 0)), ((80, .getfield 10, 3, 9, 0, 2119, 0), (1, 0, 1)), ((83, .getfield 117, 3, 0, 1, 1035, 0), (0, 1, 0))] (by decide +kernel) rfl ?_
    exact hx_reti (by decide +kernel) (h4 c1 c2 c3 c4)
  refine hsw_c (fun c5 => ?_) (fun c5 => ?_)
  · have c5 : x1 = 4 := c5
    refine hx_blk (npc := 94) (L' := [(0, .inr (.inl 0)), (1, .inl x1)]) (st' := [.inl (m 5 4)]) (m' := m) [((87, .aload_n 0, 1, 0, 0, 0, 0), (0, 0, 0)), ((88, .getfield 26, 3, 9, 2, 2121, 0), (1, 0, 5)), ((91, .getfield 330, 3, 2, 4, 1088, 0), (0, 5, 0))] (by decide +kernel) rfl ?_
    exact hx_reti (by decide +kernel) (h5 c1 c2 c3 c4 c5)
  refine hsw_c (fun c6 => ?_) (fun c6 => ?_)
  · have c6 : x1 = 5 := c6
    refine hx_blk (npc := 102) (L' := [(0, .inr (.inl 0)), (1, .inl x1)]) (st' := [.inl (m 5 3)]) (m' := m) [((95, .aload_n 0, 1, 0, 0, 0, 0), (0, 0, 0)), ((96, .getfield 26, 3, 9, 2, 2121, 0), (1, 0, 5)), ((99, .getfield 344, 3, 2, 3, 1085, 0), (0, 5, 0))] (by decide +kernel) rfl ?_
    exact hx_reti (by decide +kernel) (h6 c1 c2 c3 c4 c5 c6)
  refine hsw_c (fun c7 => ?_) (fun c7 => ?_)
  · have c7 : x1 = 6 := c7
    refine hx_blk (npc := 107) (L' := [(0, .inr (.inl 0)), (1, .inl x1)]) (st' := [.inr (.inl 5)]) (m' := m) [((103, .aload_n 0, 1, 0, 0, 0, 0), (0, 0, 0)), ((104, .getfield 26, 3, 9, 2, 2121, 0), (1, 0, 5))] (by decide +kernel) rfl ?_
    exact hx_call (E := (107, .invokevirtual 347, 3, 159, 0, 5103, 0)) (M' := yp_m159) [.inr (.inl 5)] [] rfl (by decide +kernel) rfl ⟨rfl, rfl⟩ rfl rfl (hx_mono (h7 c1 c2 c3 c4 c5 c6 c7) (fun r m' h' => hx_pick [] h'))
  refine hsw_c (fun c8 => ?_) (fun c8 => ?_)
  · have c8 : x1 = 7 := c8
    refine hx_blk (npc := 115) (L' := [(0, .inr (.inl 0)), (1, .inl x1)]) (st' := [.inr (.inl 5)]) (m' := m) [((111, .aload_n 0, 1, 0, 0, 0, 0), (0, 0, 0)), ((112, .getfield 26, 3, 9, 2, 2121, 0), (1, 0, 5))] (by decide +kernel) rfl ?_
    exact hx_call (E := (115, .invokevirtual 302, 3, 138, 0, 5013, 0)) (M' := yp_m138) [.inr (.inl 5)] [] rfl (by decide +kernel) rfl ⟨rfl, rfl⟩ rfl rfl (hx_mono (h8 c1 c2 c3 c4 c5 c6 c7 c8) (fun r m' h' => hx_pick [] h'))
  refine hsw_c (fun c9 => ?_) (fun c9 => ?_)
  · have c9 : x1 = 8 := c9
    refine hx_blk (npc := 123) (L' := [(0, .inr (.inl 0)), (1, .inl x1)]) (st' := [.inl (m 0 13)]) (m' := m) [((119, .aload_n 0, 1, 0, 0, 0, 0), (0, 0, 0)), ((120, .getfield 299, 3, 9, 13, 2132, 0), (0, 0, 0))] (by decide +kernel) rfl ?_
    exact hx_reti (by decide +kernel) (h9 c1 c2 c3 c4 c5 c6 c7 c8 c9)
  refine hsw_n ?_
  refine hx_blk (npc := 125) (L' := [(0, .inr (.inl 0)), (1, .inl x1)]) (st' := [.inl (-1)]) (m' := m) [((124, .iconst (-1), 1, 0, 0, 0, 0), (0, 0, 0))] (by decide +kernel) rfl ?_
  exact hx_reti (by decide +kernel) (h10 c1 c2 c3 c4 c5 c6 c7 c8 c9)

/-- count from 70 on -/
theorem hr158_70 {xs : List Int32} {n : Nat} {Q : hQ} {m : gx_M} {s0 : Int}
    (h1 : Q (some (.inl s0)) m) : hxn xs (n + 1) yp_m158 70 [] [.inl s0] m Q := by
  exact hx_reti (by decide +kernel) h1

/-- count from 110 on -/
theorem hr158_110 {xs : List Int32} {n : Nat} {Q : hQ} {m : gx_M} {s0 : Int}
    (h1 : Q (some (.inl s0)) m) : hxn xs (n + 1) yp_m158 110 [] [.inl s0] m Q := by
  exact hx_reti (by decide +kernel) h1

/-- count from 118 on -/
theorem hr158_118 {xs : List Int32} {n : Nat} {Q : hQ} {m : gx_M} {s0 : Int}
    (h1 : Q (some (.inl s0)) m) : hxn xs (n + 1) yp_m158 118 [] [.inl s0] m Q := by
  exact hx_reti (by decide +kernel) h1

/-- number from 0 on -/
theorem hr157_0 {xs : List Int32} {n : Nat} {Q : hQ} {m : gx_M} {x1 : Int}
    (h1 : hxn xs n yp_m25 0 [(0, .inr (.inl 3)), (1, .inl (gx_w (4 * x1)))] [] m (fun r m' => hxn xs n yp_m157 9 [(0, .inr (.inl 3)), (2, .inl (gx_w (4 * x1)))] (hrs r ++ []) m' Q)) : hxn xs (n + 1) yp_m157 0 [(0, .inr (.inl 3)), (1, .inl x1)] [] m Q := by
  refine hx_blks (npc := 6) (L' := [(0, .inr (.inl 3)), (1, .inl x1), (2, .inl (gx_w (4 * x1)))]) (st' := [.inl (gx_w (4 * x1)), .inr (.inl 3)]) (m' := m) ((0, .iconst 4, 1, 0, 0, 0, 0), (0, 0, 0)) [((1, .iload_n 1, 1, 0, 0, 0, 0), (0, 0, 0)), ((2, .imul, 1, 0, 0, 0, 0), (0, 0, 0)), ((3, .istore_n 2, 1, 0, 0, 0, 0), (0, 0, 0)), ((4, .aload_n 0, 1, 0, 0, 0, 0), (0, 0, 0)), ((5, .iload_n 2, 1, 0, 0, 0, 0), (0, 0, 0))] (by decide +kernel) rfl ?_
  exact hx_call (E := (6, .invokevirtual 45, 3, 25, 0, 2229, 0)) (M' := yp_m25) [.inr (.inl 3), .inl (gx_w (4 * x1))] [] rfl (by decide +kernel) rfl ⟨rfl, rfl⟩ rfl rfl (hx_mono h1 (fun r m' h' => hx_pick [0, 2] h'))

/-- number from 9 on -/
theorem hr157_9 {xs : List Int32} {n : Nat} {Q : hQ} {m : gx_M} {x2 s0 : Int}
    (h1 : hxn xs n yp_m25 0 [(0, .inr (.inl 3)), (1, .inl (gx_w (x2 + 1)))] [] m (fun r m' => hxn xs n yp_m157 19 [(0, .inr (.inl 3)), (2, .inl x2)] (hrs r ++ [.inl (gx_shl s0 24)]) m' Q)) : hxn xs (n + 1) yp_m157 9 [(0, .inr (.inl 3)), (2, .inl x2)] [.inl s0] m Q := by
  refine hx_blks (npc := 16) (L' := [(0, .inr (.inl 3)), (2, .inl x2)]) (st' := [.inl (gx_w (x2 + 1)), .inr (.inl 3), .inl (gx_shl s0 24)]) (m' := m) ((9, .bipush 24, 2, 0, 0, 0, 0), (0, 0, 0)) [((11, .ishl, 1, 0, 0, 0, 0), (0, 0, 0)), ((12, .aload_n 0, 1, 0, 0, 0, 0), (0, 0, 0)), ((13, .iload_n 2, 1, 0, 0, 0, 0), (0, 0, 0)), ((14, .iconst 1, 1, 0, 0, 0, 0), (0, 0, 0)), ((15, .iadd, 1, 0, 0, 0, 0), (0, 0, 0))] (by decide +kernel) rfl ?_
  exact hx_call (E := (16, .invokevirtual 45, 3, 25, 0, 2229, 0)) (M' := yp_m25) [.inr (.inl 3), .inl (gx_w (x2 + 1))] [.inl (gx_shl s0 24)] rfl (by decide +kernel) rfl ⟨rfl, rfl⟩ rfl rfl (hx_mono h1 (fun r m' h' => hx_pick [0, 2] h'))

/-- number from 19 on -/
theorem hr157_19 {xs : List Int32} {n : Nat} {Q : hQ} {m : gx_M} {x2 s0 s1 : Int}
    (h1 : hxn xs n yp_m25 0 [(0, .inr (.inl 3)), (1, .inl (gx_w (x2 + 2)))] [] m (fun r m' => hxn xs n yp_m157 30 [(0, .inr (.inl 3)), (2, .inl x2)] (hrs r ++ [.inl (gx_or s0 (gx_shl s1 16))]) m' Q)) : hxn xs (n + 1) yp_m157 19 [(0, .inr (.inl 3)), (2, .inl x2)] [.inl s1, .inl s0] m Q := by
  refine hx_blks (npc := 27) (L' := [(0, .inr (.inl 3)), (2, .inl x2)]) (st' := [.inl (gx_w (x2 + 2)), .inr (.inl 3), .inl (gx_or s0 (gx_shl s1 16))]) (m' := m) ((19, .bipush 16, 2, 0, 0, 0, 0), (0, 0, 0)) [((21, .ishl, 1, 0, 0, 0, 0), (0, 0, 0)), ((22, .ior, 1, 0, 0, 0, 0), (0, 0, 0)), ((23, .aload_n 0, 1, 0, 0, 0, 0), (0, 0, 0)), ((24, .iload_n 2, 1, 0, 0, 0, 0), (0, 0, 0)), ((25, .iconst 2, 1, 0, 0, 0, 0), (0, 0, 0)), ((26, .iadd, 1, 0, 0, 0, 0), (0, 0, 0))] (by decide +kernel) rfl ?_
  exact hx_call (E := (27, .invokevirtual 45, 3, 25, 0, 2229, 0)) (M' := yp_m25) [.inr (.inl 3), .inl (gx_w (x2 + 2))] [.inl (gx_or s0 (gx_shl s1 16))] rfl (by decide +kernel) rfl ⟨rfl, rfl⟩ rfl rfl (hx_mono h1 (fun r m' h' => hx_pick [0, 2] h'))

/-- number from 30 on -/
theorem hr157_30 {xs : List Int32} {n : Nat} {Q : hQ} {m : gx_M} {x2 s0 s1 : Int}
    (h1 : hxn xs n yp_m25 0 [(0, .inr (.inl 3)), (1, .inl (gx_w (x2 + 3)))] [] m (fun r m' => hxn xs n yp_m157 41 [] (hrs r ++ [.inl (gx_or s0 (gx_shl s1 8))]) m' Q)) : hxn xs (n + 1) yp_m157 30 [(0, .inr (.inl 3)), (2, .inl x2)] [.inl s1, .inl s0] m Q := by
  refine hx_blks (npc := 38) (L' := [(0, .inr (.inl 3)), (2, .inl x2)]) (st' := [.inl (gx_w (x2 + 3)), .inr (.inl 3), .inl (gx_or s0 (gx_shl s1 8))]) (m' := m) ((30, .bipush 8, 2, 0, 0, 0, 0), (0, 0, 0)) [((32, .ishl, 1, 0, 0, 0, 0), (0, 0, 0)), ((33, .ior, 1, 0, 0, 0, 0), (0, 0, 0)), ((34, .aload_n 0, 1, 0, 0, 0, 0), (0, 0, 0)), ((35, .iload_n 2, 1, 0, 0, 0, 0), (0, 0, 0)), ((36, .iconst 3, 1, 0, 0, 0, 0), (0, 0, 0)), ((37, .iadd, 1, 0, 0, 0, 0), (0, 0, 0))] (by decide +kernel) rfl ?_
  exact hx_call (E := (38, .invokevirtual 45, 3, 25, 0, 2229, 0)) (M' := yp_m25) [.inr (.inl 3), .inl (gx_w (x2 + 3))] [.inl (gx_or s0 (gx_shl s1 8))] rfl (by decide +kernel) rfl ⟨rfl, rfl⟩ rfl rfl (hx_mono h1 (fun r m' h' => hx_pick [] h'))

/-- number from 41 on -/
theorem hr157_41 {xs : List Int32} {n : Nat} {Q : hQ} {m : gx_M} {s0 s1 : Int}
    (h1 : Q (some (.inl (gx_or s0 s1))) m) : hxn xs (n + 1) yp_m157 41 [] [.inl s1, .inl s0] m Q := by
  refine hx_blks (npc := 42) (L' := []) (st' := [.inl (gx_or s0 s1)]) (m' := m) ((41, .ior, 1, 0, 0, 0, 0), (0, 0, 0)) [] (by decide +kernel) rfl ?_
  exact hx_reti (by decide +kernel) h1

/-- check from 0 on -/
theorem hr156_0 {xs : List Int32} {n : Nat} {Q : hQ} {m : gx_M} {x1 : Int}
    (h1 : (x1 < 0) → Q (some (.inl (-2))) m)
    (h2 : (0 ≤ x1) → (40 < x1) → Q (some (.inl (-2))) m)
    (h3 : (0 ≤ x1) → (x1 ≤ 40) → ((4 * x1) ≤ (m 1 1)) → hxn xs n yp_m24 0 [(0, .inr (.inl 3)), (1, .inr (.inl 1)), (2, .inl (4 * x1))] [] m (fun r m' => hxn xs n yp_m156 40 [(0, .inr (.inl 0)), (1, .inl x1)] (hrs r ++ []) m' Q))
    (h4 : (0 ≤ x1) → (x1 ≤ 40) → ((m 1 1) < (4 * x1)) → Q (some (.inl (-2))) m) : hxn xs (n + 1) yp_m156 0 [(0, .inr (.inl 0)), (1, .inl x1)] [] m Q := by
  refine hx_blks (npc := 1) (L' := [(0, .inr (.inl 0)), (1, .inl x1)]) (st' := [.inl x1]) (m' := m) ((0, .iload_n 1, 1, 0, 0, 0, 0), (0, 0, 0)) [] (by decide +kernel) rfl ?_
  refine hx_if .lt 23 (by decide +kernel) (fun c1 => ?_) (fun c1 => ?_)
  · have c1 : x1 < 0 := c1
    refine hx_blk (npc := 25) (L' := [(0, .inr (.inl 0)), (1, .inl x1)]) (st' := [.inl (-2)]) (m' := m) [((23, .bipush (-2), 2, 0, 0, 0, 0), (0, 0, 0))] (by decide +kernel) rfl ?_
    exact hx_reti (by decide +kernel) (h1 c1)
  · have c1 : 0 ≤ x1 := by have h : ¬ (x1 < 0) := c1; omega
    refine hx_blk (npc := 7) (L' := [(0, .inr (.inl 0)), (1, .inl x1)]) (st' := [.inl 40, .inl x1]) (m' := m) [((4, .iload_n 1, 1, 0, 0, 0, 0), (0, 0, 0)), ((5, .bipush 40, 2, 0, 0, 0, 0), (0, 0, 0))] (by decide +kernel) rfl ?_
    refine hx_cmp .gt 23 (by decide +kernel) (fun c2 => ?_) (fun c2 => ?_)
    · have c2 : 40 < x1 := c2
      refine hx_blk (npc := 25) (L' := [(0, .inr (.inl 0)), (1, .inl x1)]) (st' := [.inl (-2)]) (m' := m) [((23, .bipush (-2), 2, 0, 0, 0, 0), (0, 0, 0))] (by decide +kernel) rfl ?_
      exact hx_reti (by decide +kernel) (h2 c1 c2)
    · have c2 : x1 ≤ 40 := by have h : ¬ (40 < x1) := c2; omega
      have e1 : gx_w (4 * x1) = 4 * x1 := gx_w_id (by omega) (by omega)
      refine hx_blk (npc := 20) (L' := [(0, .inr (.inl 0)), (1, .inl x1)]) (st' := [.inl (m 1 1), .inl (gx_w (4 * x1))]) (m' := m) [((10, .iconst 4, 1, 0, 0, 0, 0), (0, 0, 0)), ((11, .iload_n 1, 1, 0, 0, 0, 0), (0, 0, 0)), ((12, .imul, 1, 0, 0, 0, 0), (0, 0, 0)), ((13, .aload_n 0, 1, 0, 0, 0, 0), (0, 0, 0)), ((14, .getfield 10, 3, 9, 0, 2119, 0), (1, 0, 1)), ((17, .getfield 117, 3, 0, 1, 1035, 0), (0, 1, 0))] (by decide +kernel) rfl ?_
      rw [e1]
      refine hx_cmp .le 26 (by decide +kernel) (fun c3 => ?_) (fun c3 => ?_)
      · have c3 : (4 * x1) ≤ (m 1 1) := c3
        have e2 : gx_w (4 * x1) = 4 * x1 := gx_w_id (by omega) (by omega)
        refine hx_blk (npc := 37) (L' := [(0, .inr (.inl 0)), (1, .inl x1)]) (st' := [.inl (gx_w (4 * x1)), .inr (.inl 1), .inr (.inl 3)]) (m' := m) [((26, .aload_n 0, 1, 0, 0, 0, 0), (0, 0, 0)), ((27, .getfield 19, 3, 9, 1, 2120, 0), (1, 0, 3)), ((30, .aload_n 0, 1, 0, 0, 0, 0), (0, 0, 0)), ((31, .getfield 10, 3, 9, 0, 2119, 0), (1, 0, 1)), ((34, .iconst 4, 1, 0, 0, 0, 0), (0, 0, 0)), ((35, .iload_n 1, 1, 0, 0, 0, 0), (0, 0, 0)), ((36, .imul, 1, 0, 0, 0, 0), (0, 0, 0))] (by decide +kernel) rfl ?_
        rw [e2]
        exact hx_call (E := (37, .invokevirtual 128, 3, 24, 0, 2216, 0)) (M' := yp_m24) [.inr (.inl 3), .inr (.inl 1), .inl (4 * x1)] [] rfl (by decide +kernel) rfl ⟨rfl, rfl⟩ rfl rfl (hx_mono (h3 c1 c2 c3) (fun r m' h' => hx_pick [0, 1] h'))
      · have c3 : (m 1 1) < (4 * x1) := by have h : ¬ ((4 * x1) ≤ (m 1 1)) := c3; omega
        refine hx_blk (npc := 25) (L' := [(0, .inr (.inl 0)), (1, .inl x1)]) (st' := [.inl (-2)]) (m' := m) [((23, .bipush (-2), 2, 0, 0, 0, 0), (0, 0, 0))] (by decide +kernel) rfl ?_
        exact hx_reti (by decide +kernel) (h4 c1 c2 c3)

/-- check from 40 on -/
theorem hr156_40 {xs : List Int32} {n : Nat} {Q : hQ} {m : gx_M} {x1 : Int}
    (h1 : hxn xs n yp_m156 42 [(0, .inr (.inl 0)), (1, .inl x1), (2, .inl 0)] [] m Q) : hxn xs (n + 1) yp_m156 40 [(0, .inr (.inl 0)), (1, .inl x1)] [] m Q := by
  refine hx_blks (npc := 42) (L' := [(0, .inr (.inl 0)), (1, .inl x1), (2, .inl 0)]) (st' := []) (m' := m) ((40, .iconst 0, 1, 0, 0, 0, 0), (0, 0, 0)) [((41, .istore_n 2, 1, 0, 0, 0, 0), (0, 0, 0))] (by decide +kernel) rfl ?_
  exact hx_pick [0, 1, 2] h1

/-- check from 42 on -/
theorem hr156_42 {xs : List Int32} {n : Nat} {Q : hQ} {m : gx_M} {x1 x2 : Int}
    (h1 : (x1 ≤ x2) → Q (some (.inl (-1))) m)
    (h2 : (x2 < x1) → (cYear 5 m x2) → hxn xs n yp_m157 0 [(0, .inr (.inl 3)), (1, .inl x2)] [] m (fun r m' => hxn xs n yp_m156 80 [(0, .inr (.inl 0)), (1, .inl x1), (2, .inl x2), (3, .inl (m 12 (x2).toNat))] (hrs r ++ []) m' Q))
    (h3 : (x2 < x1) → (¬ (cYear 5 m x2)) → hxn xs n yp_m157 0 [(0, .inr (.inl 3)), (1, .inl x2)] [] m (fun r m' => hxn xs n yp_m156 80 [(0, .inr (.inl 0)), (1, .inl x1), (2, .inl x2), (3, .inl 0)] (hrs r ++ []) m' Q)) : hxn xs (n + 1) yp_m156 42 [(0, .inr (.inl 0)), (1, .inl x1), (2, .inl x2)] [] m Q := by
  refine hx_blks (npc := 44) (L' := [(0, .inr (.inl 0)), (1, .inl x1), (2, .inl x2)]) (st' := [.inl x1, .inl x2]) (m' := m) ((42, .iload_n 2, 1, 0, 0, 0, 0), (0, 0, 0)) [((43, .iload_n 1, 1, 0, 0, 0, 0), (0, 0, 0))] (by decide +kernel) rfl ?_
  refine hx_cmp .ge 92 (by decide +kernel) (fun c1 => ?_) (fun c1 => ?_)
  · have c1 : x1 ≤ x2 := c1
    refine hx_blk (npc := 93) (L' := [(0, .inr (.inl 0)), (1, .inl x1), (2, .inl x2)]) (st' := [.inl (-1)]) (m' := m) [((92, .iconst (-1), 1, 0, 0, 0, 0), (0, 0, 0))] (by decide +kernel) rfl ?_
    exact hx_reti (by decide +kernel) (h1 c1)
  · have c1 : x2 < x1 := by have h : ¬ (x1 ≤ x2) := c1; omega
    refine hx_blk (npc := 52) (L' := [(0, .inr (.inl 0)), (1, .inl x1), (2, .inl x2)]) (st' := [.inl x2, .inr (.inl 5)]) (m' := m) [((47, .aload_n 0, 1, 0, 0, 0, 0), (0, 0, 0)), ((48, .getfield 26, 3, 9, 2, 2121, 0), (1, 0, 5)), ((51, .iload_n 2, 1, 0, 0, 0, 0), (0, 0, 0))] (by decide +kernel) rfl ?_
    refine hx_call (E := (52, .invokevirtual 156, 3, 17, 0, 3202, 0)) (M' := yp_m17) [.inr (.inl 5), .inl x2] [] rfl (by decide +kernel) rfl ⟨rfl, rfl⟩ rfl rfl (hs17_5 (fun c2 => ?_) (fun c2 => ?_))
    · have c2 : cYear 5 m x2 := c2
      show hxn xs n yp_m156 55 [(0, .inr (.inl 0)), (1, .inl x1), (2, .inl x2)] [.inl 1] m Q
      refine hx_if .eq 70 (by decide +kernel) (fun c3 => ?_) (fun c3 => ?_)
      · have c3 : (1 : Int) = 0 := c3
        exfalso; omega
      · have c3 : (1 : Int) ≠ 0 := c3
        refine hx_blk (npc := 77) (L' := [(0, .inr (.inl 0)), (1, .inl x1), (2, .inl x2), (3, .inl (m 12 (x2).toNat))]) (st' := [.inl x2, .inr (.inl 3)]) (m' := m) [((58, .aload_n 0, 1, 0, 0, 0, 0), (0, 0, 0)), ((59, .getfield 26, 3, 9, 2, 2121, 0), (1, 0, 5)), ((62, .getfield 165, 3, 2, 11, 1116, 0), (1, 5, 12)), ((65, .iload_n 2, 1, 0, 0, 0, 0), (0, 0, 0)), ((66, .iaload, 1, 0, 0, 0, 0), (0, 12, 0)), ((67, .goto 4, 3, 0, 0, 0, 0), (0, 0, 0)), ((71, .istore_n 3, 1, 0, 0, 0, 0), (0, 0, 0)), ((72, .aload_n 0, 1, 0, 0, 0, 0), (0, 0, 0)), ((73, .getfield 19, 3, 9, 1, 2120, 0), (1, 0, 3)), ((76, .iload_n 2, 1, 0, 0, 0, 0), (0, 0, 0))] (by decide +kernel) rfl ?_
        exact hx_call (E := (77, .invokevirtual 341, 3, 157, 0, 5095, 0)) (M' := yp_m157) [.inr (.inl 3), .inl x2] [] rfl (by decide +kernel) rfl ⟨rfl, rfl⟩ rfl rfl (hx_mono (h2 c1 c2) (fun r m' h' => hx_pick [0, 1, 2, 3] h'))
    · have c2 : ¬ (cYear 5 m x2) := c2
      show hxn xs n yp_m156 55 [(0, .inr (.inl 0)), (1, .inl x1), (2, .inl x2)] [.inl 0] m Q
      refine hx_if .eq 70 (by decide +kernel) (fun c3 => ?_) (fun c3 => ?_)
      · have c3 : (0 : Int) = 0 := c3
        refine hx_blk (npc := 77) (L' := [(0, .inr (.inl 0)), (1, .inl x1), (2, .inl x2), (3, .inl 0)]) (st' := [.inl x2, .inr (.inl 3)]) (m' := m) [((70, .iconst 0, 1, 0, 0, 0, 0), (0, 0, 0)), ((71, .istore_n 3, 1, 0, 0, 0, 0), (0, 0, 0)), ((72, .aload_n 0, 1, 0, 0, 0, 0), (0, 0, 0)), ((73, .getfield 19, 3, 9, 1, 2120, 0), (1, 0, 3)), ((76, .iload_n 2, 1, 0, 0, 0, 0), (0, 0, 0))] (by decide +kernel) rfl ?_
        exact hx_call (E := (77, .invokevirtual 341, 3, 157, 0, 5095, 0)) (M' := yp_m157) [.inr (.inl 3), .inl x2] [] rfl (by decide +kernel) rfl ⟨rfl, rfl⟩ rfl rfl (hx_mono (h3 c1 c2) (fun r m' h' => hx_pick [0, 1, 2, 3] h'))
      · have c3 : (0 : Int) ≠ 0 := c3
        exfalso; omega

/-- check from 80 on -/
theorem hr156_80 {xs : List Int32} {n : Nat} {Q : hQ} {m : gx_M} {x1 x2 x3 s0 : Int}
    (h1 : (s0 = x3) → hxn xs n yp_m156 42 [(0, .inr (.inl 0)), (1, .inl x1), (2, .inl (gx_w (x2 + 1)))] [] m Q)
    (h2 : (s0 ≠ x3) → Q (some (.inl x2)) m) : hxn xs (n + 1) yp_m156 80 [(0, .inr (.inl 0)), (1, .inl x1), (2, .inl x2), (3, .inl x3)] [.inl s0] m Q := by
  refine hx_blks (npc := 81) (L' := [(0, .inr (.inl 0)), (1, .inl x1), (2, .inl x2), (3, .inl x3)]) (st' := [.inl x3, .inl s0]) (m' := m) ((80, .iload_n 3, 1, 0, 0, 0, 0), (0, 0, 0)) [] (by decide +kernel) rfl ?_
  refine hx_cmp .eq 86 (by decide +kernel) (fun c1 => ?_) (fun c1 => ?_)
  · have c1 : s0 = x3 := c1
    refine hx_blk (npc := 42) (L' := [(0, .inr (.inl 0)), (1, .inl x1), (2, .inl (gx_w (x2 + 1))), (3, .inl x3)]) (st' := []) (m' := m) [((86, .iinc 2 1, 3, 0, 0, 0, 0), (0, 0, 0)), ((89, .goto (-47), 3, 0, 0, 0, 0), (0, 0, 0))] (by decide +kernel) rfl ?_
    exact hx_pick [0, 1, 2] (h1 c1)
  · have c1 : s0 ≠ x3 := c1
    refine hx_blk (npc := 85) (L' := [(0, .inr (.inl 0)), (1, .inl x1), (2, .inl x2), (3, .inl x3)]) (st' := [.inl x2]) (m' := m) [((84, .iload_n 2, 1, 0, 0, 0, 0), (0, 0, 0))] (by decide +kernel) rfl ?_
    exact hx_reti (by decide +kernel) (h2 c1)

/-- coinsAll from 0 on -/
theorem hr262_0 {xs : List Int32} {n : Nat} {Q : hQ} {m : gx_M}
    (h1 : hxn xs n yp_m262 4 [(0, .inr (.inl 86)), (1, .inl 0), (2, .inl 0)] [] m Q) : hxn xs (n + 1) yp_m262 0 [(0, .inr (.inl 86))] [] m Q := by
  refine hx_blks (npc := 4) (L' := [(0, .inr (.inl 86)), (1, .inl 0), (2, .inl 0)]) (st' := []) (m' := m) ((0, .iconst 0, 1, 0, 0, 0, 0), (0, 0, 0)) [((1, .istore_n 1, 1, 0, 0, 0, 0), (0, 0, 0)), ((2, .iconst 0, 1, 0, 0, 0, 0), (0, 0, 0)), ((3, .istore_n 2, 1, 0, 0, 0, 0), (0, 0, 0))] (by decide +kernel) rfl ?_
  exact hx_pick [0, 1, 2] h1

/-- coinsAll from 4 on -/
theorem hr262_4 {xs : List Int32} {n : Nat} {Q : hQ} {m : gx_M} {x1 x2 : Int}
    (h1 : (8 ≤ x2) → Q (some (.inl x1)) m)
    (h2 : (x2 < 8) → (aPers (m 87) x2) → hxn xs n yp_m262 4 [(0, .inr (.inl 86)), (1, .inl (gx_w (x1 + (m 87 (gx_w (1120 + x2)).toNat)))), (2, .inl (gx_w (x2 + 1)))] [] m Q)
    (h3 : (x2 < 8) → (¬ (aPers (m 87) x2)) → hxn xs n yp_m262 4 [(0, .inr (.inl 86)), (1, .inl (gx_w (x1 + 0))), (2, .inl (gx_w (x2 + 1)))] [] m Q) : hxn xs (n + 1) yp_m262 4 [(0, .inr (.inl 86)), (1, .inl x1), (2, .inl x2)] [] m Q := by
  refine hx_blks (npc := 7) (L' := [(0, .inr (.inl 86)), (1, .inl x1), (2, .inl x2)]) (st' := [.inl 8, .inl x2]) (m' := m) ((4, .iload_n 2, 1, 0, 0, 0, 0), (0, 0, 0)) [((5, .bipush 8, 2, 0, 0, 0, 0), (0, 0, 0))] (by decide +kernel) rfl ?_
  refine hx_cmp .ge 41 (by decide +kernel) (fun c1 => ?_) (fun c1 => ?_)
  · have c1 : 8 ≤ x2 := c1
    refine hx_blk (npc := 42) (L' := [(0, .inr (.inl 86)), (1, .inl x1), (2, .inl x2)]) (st' := [.inl x1]) (m' := m) [((41, .iload_n 1, 1, 0, 0, 0, 0), (0, 0, 0))] (by decide +kernel) rfl ?_
    exact hx_reti (by decide +kernel) (h1 c1)
  · have c1 : x2 < 8 := by have h : ¬ (8 ≤ x2) := c1; omega
    refine hx_blk (npc := 13) (L' := [(0, .inr (.inl 86)), (1, .inl x1), (2, .inl x2)]) (st' := [.inl x2, .inr (.inl 86), .inl x1]) (m' := m) [((10, .iload_n 1, 1, 0, 0, 0, 0), (0, 0, 0)), ((11, .aload_n 0, 1, 0, 0, 0, 0), (0, 0, 0)), ((12, .iload_n 2, 1, 0, 0, 0, 0), (0, 0, 0))] (by decide +kernel) rfl ?_
    refine hx_call (E := (13, .invokevirtual 113, 3, 164, 0, 6031, 0)) (M' := yp_m164) [.inr (.inl 86), .inl x2] [.inl x1] rfl (by decide +kernel) rfl ⟨rfl, rfl⟩ rfl rfl (hs164 (fun c2 => ?_) (fun c2 => ?_))
    · have c2 : aPers (m 87) x2 := c2
      show hxn xs n yp_m262 16 [(0, .inr (.inl 86)), (1, .inl x1), (2, .inl x2)] [.inl 1, .inl x1] m Q
      refine hx_if .eq 32 (by decide +kernel) (fun c3 => ?_) (fun c3 => ?_)
      · have c3 : (1 : Int) = 0 := c3
        exfalso; omega
      · have c3 : (1 : Int) ≠ 0 := c3
        refine hx_blk (npc := 4) (L' := [(0, .inr (.inl 86)), (1, .inl (gx_w (x1 + (m 87 (gx_w (1120 + x2)).toNat)))), (2, .inl (gx_w (x2 + 1)))]) (st' := []) (m' := m) [((19, .aload_n 0, 1, 0, 0, 0, 0), (0, 0, 0)), ((20, .getfield 7, 3, 10, 0, 5113, 0), (1, 86, 87)), ((23, .sipush 1120, 3, 0, 0, 0, 0), (0, 0, 0)), ((26, .iload_n 2, 1, 0, 0, 0, 0), (0, 0, 0)), ((27, .iadd, 1, 0, 0, 0, 0), (0, 0, 0)), ((28, .iaload, 1, 0, 0, 0, 0), (0, 87, 0)), ((29, .goto 4, 3, 0, 0, 0, 0), (0, 0, 0)), ((33, .iadd, 1, 0, 0, 0, 0), (0, 0, 0)), ((34, .istore_n 1, 1, 0, 0, 0, 0), (0, 0, 0)), ((35, .iinc 2 1, 3, 0, 0, 0, 0), (0, 0, 0)), ((38, .goto (-34), 3, 0, 0, 0, 0), (0, 0, 0))] (by decide +kernel) rfl ?_
        exact hx_pick [0, 1, 2] (h2 c1 c2)
    · have c2 : ¬ (aPers (m 87) x2) := c2
      show hxn xs n yp_m262 16 [(0, .inr (.inl 86)), (1, .inl x1), (2, .inl x2)] [.inl 0, .inl x1] m Q
      refine hx_if .eq 32 (by decide +kernel) (fun c3 => ?_) (fun c3 => ?_)
      · have c3 : (0 : Int) = 0 := c3
        refine hx_blk (npc := 4) (L' := [(0, .inr (.inl 86)), (1, .inl (gx_w (x1 + 0))), (2, .inl (gx_w (x2 + 1)))]) (st' := []) (m' := m) [((32, .iconst 0, 1, 0, 0, 0, 0), (0, 0, 0)), ((33, .iadd, 1, 0, 0, 0, 0), (0, 0, 0)), ((34, .istore_n 1, 1, 0, 0, 0, 0), (0, 0, 0)), ((35, .iinc 2 1, 3, 0, 0, 0, 0), (0, 0, 0)), ((38, .goto (-34), 3, 0, 0, 0, 0), (0, 0, 0))] (by decide +kernel) rfl ?_
        exact hx_pick [0, 1, 2] (h3 c1 c2)
      · have c3 : (0 : Int) ≠ 0 := c3
        exfalso; omega

/-- pawns from 0 on -/
theorem hr275_0 {xs : List Int32} {n : Nat} {Q : hQ} {m : gx_M}
    (h1 : hxn xs n yp_m275 4 [(0, .inr (.inl 86)), (1, .inl 0), (2, .inl 0)] [] m Q) : hxn xs (n + 1) yp_m275 0 [(0, .inr (.inl 86))] [] m Q := by
  refine hx_blks (npc := 4) (L' := [(0, .inr (.inl 86)), (1, .inl 0), (2, .inl 0)]) (st' := []) (m' := m) ((0, .iconst 0, 1, 0, 0, 0, 0), (0, 0, 0)) [((1, .istore_n 1, 1, 0, 0, 0, 0), (0, 0, 0)), ((2, .iconst 0, 1, 0, 0, 0, 0), (0, 0, 0)), ((3, .istore_n 2, 1, 0, 0, 0, 0), (0, 0, 0))] (by decide +kernel) rfl ?_
  exact hx_pick [0, 1, 2] h1

/-- pawns from 4 on -/
theorem hr275_4 {xs : List Int32} {n : Nat} {Q : hQ} {m : gx_M} {x1 x2 : Int}
    (h1 : (40 ≤ x2) → Q (some (.inl x1)) m)
    (h2 : (x2 < 40) → (aYr (m 87) x2) → (aPw (m 87) x2) → hxn xs n yp_m275 4 [(0, .inr (.inl 86)), (1, .inl (gx_w (x1 + 1))), (2, .inl (gx_w (x2 + 1)))] [] m Q)
    (h3 : (x2 < 40) → (aYr (m 87) x2) → (¬ (aPw (m 87) x2)) → hxn xs n yp_m275 4 [(0, .inr (.inl 86)), (1, .inl (gx_w (x1 + 0))), (2, .inl (gx_w (x2 + 1)))] [] m Q)
    (h4 : (x2 < 40) → (¬ (aYr (m 87) x2)) → hxn xs n yp_m275 4 [(0, .inr (.inl 86)), (1, .inl (gx_w (x1 + 0))), (2, .inl (gx_w (x2 + 1)))] [] m Q) : hxn xs (n + 1) yp_m275 4 [(0, .inr (.inl 86)), (1, .inl x1), (2, .inl x2)] [] m Q := by
  refine hx_blks (npc := 7) (L' := [(0, .inr (.inl 86)), (1, .inl x1), (2, .inl x2)]) (st' := [.inl 40, .inl x2]) (m' := m) ((4, .iload_n 2, 1, 0, 0, 0, 0), (0, 0, 0)) [((5, .bipush 40, 2, 0, 0, 0, 0), (0, 0, 0))] (by decide +kernel) rfl ?_
  refine hx_cmp .ge 40 (by decide +kernel) (fun c1 => ?_) (fun c1 => ?_)
  · have c1 : 40 ≤ x2 := c1
    refine hx_blk (npc := 41) (L' := [(0, .inr (.inl 86)), (1, .inl x1), (2, .inl x2)]) (st' := [.inl x1]) (m' := m) [((40, .iload_n 1, 1, 0, 0, 0, 0), (0, 0, 0))] (by decide +kernel) rfl ?_
    exact hx_reti (by decide +kernel) (h1 c1)
  · have c1 : x2 < 40 := by have h : ¬ (40 ≤ x2) := c1; omega
    refine hx_blk (npc := 13) (L' := [(0, .inr (.inl 86)), (1, .inl x1), (2, .inl x2)]) (st' := [.inl x2, .inr (.inl 86), .inl x1]) (m' := m) [((10, .iload_n 1, 1, 0, 0, 0, 0), (0, 0, 0)), ((11, .aload_n 0, 1, 0, 0, 0, 0), (0, 0, 0)), ((12, .iload_n 2, 1, 0, 0, 0, 0), (0, 0, 0))] (by decide +kernel) rfl ?_
    refine hx_call (E := (13, .invokevirtual 269, 3, 196, 0, 6156, 0)) (M' := yp_m196) [.inr (.inl 86), .inl x2] [.inl x1] rfl (by decide +kernel) rfl ⟨rfl, rfl⟩ rfl rfl (hs196 (fun c2 => ?_) (fun c2 => ?_))
    · have c2 : aYr (m 87) x2 := c2
      show hxn xs n yp_m275 16 [(0, .inr (.inl 86)), (1, .inl x1), (2, .inl x2)] [.inl 1, .inl x1] m Q
      refine hx_if .eq 31 (by decide +kernel) (fun c3 => ?_) (fun c3 => ?_)
      · have c3 : (1 : Int) = 0 := c3
        exfalso; omega
      · have c3 : (1 : Int) ≠ 0 := c3
        refine hx_blk (npc := 21) (L' := [(0, .inr (.inl 86)), (1, .inl x1), (2, .inl x2)]) (st' := [.inl x2, .inr (.inl 86), .inl x1]) (m' := m) [((19, .aload_n 0, 1, 0, 0, 0, 0), (0, 0, 0)), ((20, .iload_n 2, 1, 0, 0, 0, 0), (0, 0, 0))] (by decide +kernel) rfl ?_
        refine hx_call (E := (21, .invokevirtual 275, 3, 200, 0, 6171, 0)) (M' := yp_m200) [.inr (.inl 86), .inl x2] [.inl x1] rfl (by decide +kernel) rfl ⟨rfl, rfl⟩ rfl rfl (hs200 (fun c3 => ?_) (fun c3 => ?_))
        · have c3 : aPw (m 87) x2 := c3
          show hxn xs n yp_m275 24 [(0, .inr (.inl 86)), (1, .inl x1), (2, .inl x2)] [.inl 1, .inl x1] m Q
          refine hx_if .eq 31 (by decide +kernel) (fun c4 => ?_) (fun c4 => ?_)
          · have c4 : (1 : Int) = 0 := c4
            exfalso; omega
          · have c4 : (1 : Int) ≠ 0 := c4
            refine hx_blk (npc := 4) (L' := [(0, .inr (.inl 86)), (1, .inl (gx_w (x1 + 1))), (2, .inl (gx_w (x2 + 1)))]) (st' := []) (m' := m) [((27, .iconst 1, 1, 0, 0, 0, 0), (0, 0, 0)), ((28, .goto 4, 3, 0, 0, 0, 0), (0, 0, 0)), ((32, .iadd, 1, 0, 0, 0, 0), (0, 0, 0)), ((33, .istore_n 1, 1, 0, 0, 0, 0), (0, 0, 0)), ((34, .iinc 2 1, 3, 0, 0, 0, 0), (0, 0, 0)), ((37, .goto (-33), 3, 0, 0, 0, 0), (0, 0, 0))] (by decide +kernel) rfl ?_
            exact hx_pick [0, 1, 2] (h2 c1 c2 c3)
        · have c3 : ¬ (aPw (m 87) x2) := c3
          show hxn xs n yp_m275 24 [(0, .inr (.inl 86)), (1, .inl x1), (2, .inl x2)] [.inl 0, .inl x1] m Q
          refine hx_if .eq 31 (by decide +kernel) (fun c4 => ?_) (fun c4 => ?_)
          · have c4 : (0 : Int) = 0 := c4
            refine hx_blk (npc := 4) (L' := [(0, .inr (.inl 86)), (1, .inl (gx_w (x1 + 0))), (2, .inl (gx_w (x2 + 1)))]) (st' := []) (m' := m) [((31, .iconst 0, 1, 0, 0, 0, 0), (0, 0, 0)), ((32, .iadd, 1, 0, 0, 0, 0), (0, 0, 0)), ((33, .istore_n 1, 1, 0, 0, 0, 0), (0, 0, 0)), ((34, .iinc 2 1, 3, 0, 0, 0, 0), (0, 0, 0)), ((37, .goto (-33), 3, 0, 0, 0, 0), (0, 0, 0))] (by decide +kernel) rfl ?_
            exact hx_pick [0, 1, 2] (h3 c1 c2 c3)
          · have c4 : (0 : Int) ≠ 0 := c4
            exfalso; omega
    · have c2 : ¬ (aYr (m 87) x2) := c2
      show hxn xs n yp_m275 16 [(0, .inr (.inl 86)), (1, .inl x1), (2, .inl x2)] [.inl 0, .inl x1] m Q
      refine hx_if .eq 31 (by decide +kernel) (fun c3 => ?_) (fun c3 => ?_)
      · have c3 : (0 : Int) = 0 := c3
        refine hx_blk (npc := 4) (L' := [(0, .inr (.inl 86)), (1, .inl (gx_w (x1 + 0))), (2, .inl (gx_w (x2 + 1)))]) (st' := []) (m' := m) [((31, .iconst 0, 1, 0, 0, 0, 0), (0, 0, 0)), ((32, .iadd, 1, 0, 0, 0, 0), (0, 0, 0)), ((33, .istore_n 1, 1, 0, 0, 0, 0), (0, 0, 0)), ((34, .iinc 2 1, 3, 0, 0, 0, 0), (0, 0, 0)), ((37, .goto (-33), 3, 0, 0, 0, 0), (0, 0, 0))] (by decide +kernel) rfl ?_
        exact hx_pick [0, 1, 2] (h4 c1 c2)
      · have c3 : (0 : Int) ≠ 0 := c3
        exfalso; omega

/-- count from 0 on -/
theorem hr274_0 {xs : List Int32} {n : Nat} {Q : hQ} {m : gx_M} {x1 : Int}
    (h1 : (x1 = 0) → Q (some (.inl (m 87 1128))) m)
    (h2 : (x1 ≠ 0) → (x1 = 1) → hxn xs n yp_m270 0 [(0, .inr (.inl 86))] [] m (fun r m' => hxn xs n yp_m274 65 [] (hrs r ++ []) m' Q))
    (h3 : (x1 ≠ 0) → (x1 ≠ 1) → (x1 = 2) → Q (some (.inl (m 86 13))) m)
    (h4 : (x1 ≠ 0) → (x1 ≠ 1) → (x1 ≠ 2) → (x1 = 3) → Q (some (.inl (m 86 4))) m)
    (h5 : (x1 ≠ 0) → (x1 ≠ 1) → (x1 ≠ 2) → (x1 ≠ 3) → (x1 = 4) → Q (some (.inl (m 87 1130))) m)
    (h6 : (x1 ≠ 0) → (x1 ≠ 1) → (x1 ≠ 2) → (x1 ≠ 3) → (x1 ≠ 4) → (x1 = 5) → Q (some (.inl (m 87 1129))) m)
    (h7 : (x1 ≠ 0) → (x1 ≠ 1) → (x1 ≠ 2) → (x1 ≠ 3) → (x1 ≠ 4) → (x1 ≠ 5) → (x1 = 6) → hxn xs n yp_m275 0 [(0, .inr (.inl 86))] [] m (fun r m' => hxn xs n yp_m274 98 [] (hrs r ++ []) m' Q))
    (h8 : (x1 ≠ 0) → (x1 ≠ 1) → (x1 ≠ 2) → (x1 ≠ 3) → (x1 ≠ 4) → (x1 ≠ 5) → (x1 ≠ 6) → (x1 = 7) → hxn xs n yp_m262 0 [(0, .inr (.inl 86))] [] m (fun r m' => hxn xs n yp_m274 103 [] (hrs r ++ []) m' Q))
    (h9 : (x1 ≠ 0) → (x1 ≠ 1) → (x1 ≠ 2) → (x1 ≠ 3) → (x1 ≠ 4) → (x1 ≠ 5) → (x1 ≠ 6) → (x1 ≠ 7) → (x1 = 8) → Q (some (.inl (m 86 44))) m)
    (h10 : (x1 ≠ 0) → (x1 ≠ 1) → (x1 ≠ 2) → (x1 ≠ 3) → (x1 ≠ 4) → (x1 ≠ 5) → (x1 ≠ 6) → (x1 ≠ 7) → (x1 ≠ 8) → Q (some (.inl (-1))) m) : hxn xs (n + 1) yp_m274 0 [(0, .inr (.inl 86)), (1, .inl x1)] [] m Q := by
  refine hx_blks (npc := 1) (L' := [(0, .inr (.inl 86)), (1, .inl x1)]) (st' := [.inl x1]) (m' := m) ((0, .iload_n 1, 1, 0, 0, 0, 0), (0, 0, 0)) [] (by decide +kernel) rfl ?_
  refine hx_tsw 109 [(0, 52), (1, 61), (2, 66), (3, 71), (4, 76), (5, 85), (6, 94), (7, 99), (8, 104)] (by decide +kernel) ?_
  refine hsw_c (fun c1 => ?_) (fun c1 => ?_)
  · have c1 : x1 = 0 := c1
    refine hx_blk (npc := 60) (L' := [(0, .inr (.inl 86)), (1, .inl x1)]) (st' := [.inl (m 87 1128)]) (m' := m) [((52, .aload_n 0, 1, 0, 0, 0, 0), (0, 0, 0)), ((53, .getfield 7, 3, 10, 0, 5113, 0), (1, 86, 87)), ((56, .sipush 1128, 3, 0, 0, 0, 0), (0, 0, 0)), ((59, .iaload, 1, 0, 0, 0, 0), (0, 87, 0))] (by decide +kernel) rfl ?_
    exact hx_reti (by decide +kernel) (h1 c1)
  refine hsw_c (fun c2 => ?_) (fun c2 => ?_)
  · have c2 : x1 = 1 := c2
    refine hx_blk (npc := 62) (L' := [(0, .inr (.inl 86)), (1, .inl x1)]) (st' := [.inr (.inl 86)]) (m' := m) [((61, .aload_n 0, 1, 0, 0, 0, 0), (0, 0, 0))] (by decide +kernel) rfl ?_
    exact hx_call (E := (62, .invokevirtual 420, 3, 270, 0, 7210, 0)) (M' := yp_m270) [.inr (.inl 86)] [] rfl (by decide +kernel) rfl ⟨rfl, rfl⟩ rfl rfl (hx_mono (h2 c1 c2) (fun r m' h' => hx_pick [] h'))
  refine hsw_c (fun c3 => ?_) (fun c3 => ?_)
  · have c3 : x1 = 2 := c3
    refine hx_blk (npc := 70) (L' := [(0, .inr (.inl 86)), (1, .inl x1)]) (st' := [.inl (m 86 13)]) (m' := m) [((66, .aload_n 0, 1, 0, 0, 0, 0), (0, 0, 0)), ((67, .getfield 225, 3, 10, 13, 5126, 0), (0, 86, 0))] (by decide +kernel) rfl ?_
    exact hx_reti (by decide +kernel) (h3 c1 c2 c3)
  refine hsw_c (fun c4 => ?_) (fun c4 => ?_)
  · have c4 : x1 = 3 := c4
    refine hx_blk (npc := 75) (L' := [(0, .inr (.inl 86)), (1, .inl x1)]) (st' := [.inl (m 86 4)]) (m' := m) [((71, .aload_n 0, 1, 0, 0, 0, 0), (0, 0, 0)), ((72, .getfield 124, 3, 10, 4, 5117, 0), (0, 86, 0))] (by decide +kernel) rfl ?_
    exact hx_reti (by decide +kernel) (h4 c1 c2 c3 c4)
  refine hsw_c (fun c5 => ?_) (fun c5 => ?_)
  · have c5 : x1 = 4 := c5
    refine hx_blk (npc := 84) (L' := [(0, .inr (.inl 86)), (1, .inl x1)]) (st' := [.inl (m 87 1130)]) (m' := m) [((76, .aload_n 0, 1, 0, 0, 0, 0), (0, 0, 0)), ((77, .getfield 7, 3, 10, 0, 5113, 0), (1, 86, 87)), ((80, .sipush 1130, 3, 0, 0, 0, 0), (0, 0, 0)), ((83, .iaload, 1, 0, 0, 0, 0), (0, 87, 0))] (by decide +kernel) rfl ?_
    exact hx_reti (by decide +kernel) (h5 c1 c2 c3 c4 c5)
  refine hsw_c (fun c6 => ?_) (fun c6 => ?_)
  · have c6 : x1 = 5 := c6
    refine hx_blk (npc := 93) (L' := [(0, .inr (.inl 86)), (1, .inl x1)]) (st' := [.inl (m 87 1129)]) (m' := m) [((85, .aload_n 0, 1, 0, 0, 0, 0), (0, 0, 0)), ((86, .getfield 7, 3, 10, 0, 5113, 0), (1, 86, 87)), ((89, .sipush 1129, 3, 0, 0, 0, 0), (0, 0, 0)), ((92, .iaload, 1, 0, 0, 0, 0), (0, 87, 0))] (by decide +kernel) rfl ?_
    exact hx_reti (by decide +kernel) (h6 c1 c2 c3 c4 c5 c6)
  refine hsw_c (fun c7 => ?_) (fun c7 => ?_)
  · have c7 : x1 = 6 := c7
    refine hx_blk (npc := 95) (L' := [(0, .inr (.inl 86)), (1, .inl x1)]) (st' := [.inr (.inl 86)]) (m' := m) [((94, .aload_n 0, 1, 0, 0, 0, 0), (0, 0, 0))] (by decide +kernel) rfl ?_
    exact hx_call (E := (95, .invokevirtual 426, 3, 275, 0, 7230, 0)) (M' := yp_m275) [.inr (.inl 86)] [] rfl (by decide +kernel) rfl ⟨rfl, rfl⟩ rfl rfl (hx_mono (h7 c1 c2 c3 c4 c5 c6 c7) (fun r m' h' => hx_pick [] h'))
  refine hsw_c (fun c8 => ?_) (fun c8 => ?_)
  · have c8 : x1 = 7 := c8
    refine hx_blk (npc := 100) (L' := [(0, .inr (.inl 86)), (1, .inl x1)]) (st' := [.inr (.inl 86)]) (m' := m) [((99, .aload_n 0, 1, 0, 0, 0, 0), (0, 0, 0))] (by decide +kernel) rfl ?_
    exact hx_call (E := (100, .invokevirtual 406, 3, 262, 0, 7177, 0)) (M' := yp_m262) [.inr (.inl 86)] [] rfl (by decide +kernel) rfl ⟨rfl, rfl⟩ rfl rfl (hx_mono (h8 c1 c2 c3 c4 c5 c6 c7 c8) (fun r m' h' => hx_pick [] h'))
  refine hsw_c (fun c9 => ?_) (fun c9 => ?_)
  · have c9 : x1 = 8 := c9
    refine hx_blk (npc := 108) (L' := [(0, .inr (.inl 86)), (1, .inl x1)]) (st' := [.inl (m 86 44)]) (m' := m) [((104, .aload_n 0, 1, 0, 0, 0, 0), (0, 0, 0)), ((105, .getfield 403, 3, 10, 44, 5157, 0), (0, 86, 0))] (by decide +kernel) rfl ?_
    exact hx_reti (by decide +kernel) (h9 c1 c2 c3 c4 c5 c6 c7 c8 c9)
  refine hsw_n ?_
  refine hx_blk (npc := 110) (L' := [(0, .inr (.inl 86)), (1, .inl x1)]) (st' := [.inl (-1)]) (m' := m) [((109, .iconst (-1), 1, 0, 0, 0, 0), (0, 0, 0))] (by decide +kernel) rfl ?_
  exact hx_reti (by decide +kernel) (h10 c1 c2 c3 c4 c5 c6 c7 c8 c9)

/-- count from 65 on -/
theorem hr274_65 {xs : List Int32} {n : Nat} {Q : hQ} {m : gx_M} {s0 : Int}
    (h1 : Q (some (.inl s0)) m) : hxn xs (n + 1) yp_m274 65 [] [.inl s0] m Q := by
  exact hx_reti (by decide +kernel) h1

/-- count from 98 on -/
theorem hr274_98 {xs : List Int32} {n : Nat} {Q : hQ} {m : gx_M} {s0 : Int}
    (h1 : Q (some (.inl s0)) m) : hxn xs (n + 1) yp_m274 98 [] [.inl s0] m Q := by
  exact hx_reti (by decide +kernel) h1

/-- count from 103 on -/
theorem hr274_103 {xs : List Int32} {n : Nat} {Q : hQ} {m : gx_M} {s0 : Int}
    (h1 : Q (some (.inl s0)) m) : hxn xs (n + 1) yp_m274 103 [] [.inl s0] m Q := by
  exact hx_reti (by decide +kernel) h1

/-- tapeNumber from 0 on -/
theorem hr273_0 {xs : List Int32} {n : Nat} {Q : hQ} {m : gx_M} {x1 : Int}
    (h1 : hxn xs n yp_m273 6 [(0, .inr (.inl 86)), (1, .inl x1), (2, .inl 0), (3, .inl (gx_w (4 * x1)))] [] m Q) : hxn xs (n + 1) yp_m273 0 [(0, .inr (.inl 86)), (1, .inl x1)] [] m Q := by
  refine hx_blks (npc := 6) (L' := [(0, .inr (.inl 86)), (1, .inl x1), (2, .inl 0), (3, .inl (gx_w (4 * x1)))]) (st' := []) (m' := m) ((0, .iconst 0, 1, 0, 0, 0, 0), (0, 0, 0)) [((1, .istore_n 2, 1, 0, 0, 0, 0), (0, 0, 0)), ((2, .iconst 4, 1, 0, 0, 0, 0), (0, 0, 0)), ((3, .iload_n 1, 1, 0, 0, 0, 0), (0, 0, 0)), ((4, .imul, 1, 0, 0, 0, 0), (0, 0, 0)), ((5, .istore_n 3, 1, 0, 0, 0, 0), (0, 0, 0))] (by decide +kernel) rfl ?_
  exact hx_pick [0, 1, 2, 3] h1

/-- tapeNumber from 6 on -/
theorem hr273_6 {xs : List Int32} {n : Nat} {Q : hQ} {m : gx_M} {x1 x2 x3 : Int}
    (h1 : ((gx_w ((gx_w (4 * x1)) + 4)) ≤ x3) → Q (some (.inl x2)) m)
    (h2 : (x3 < (gx_w ((gx_w (4 * x1)) + 4))) → hxn xs n yp_m273 6 [(0, .inr (.inl 86)), (1, .inl x1), (2, .inl (gx_or (gx_shl x2 8) (gx_and (m 90 (x3).toNat) 255))), (3, .inl (gx_w (x3 + 1)))] [] m Q) : hxn xs (n + 1) yp_m273 6 [(0, .inr (.inl 86)), (1, .inl x1), (2, .inl x2), (3, .inl x3)] [] m Q := by
  refine hx_blks (npc := 12) (L' := [(0, .inr (.inl 86)), (1, .inl x1), (2, .inl x2), (3, .inl x3)]) (st' := [.inl (gx_w ((gx_w (4 * x1)) + 4)), .inl x3]) (m' := m) ((6, .iload_n 3, 1, 0, 0, 0, 0), (0, 0, 0)) [((7, .iconst 4, 1, 0, 0, 0, 0), (0, 0, 0)), ((8, .iload_n 1, 1, 0, 0, 0, 0), (0, 0, 0)), ((9, .imul, 1, 0, 0, 0, 0), (0, 0, 0)), ((10, .iconst 4, 1, 0, 0, 0, 0), (0, 0, 0)), ((11, .iadd, 1, 0, 0, 0, 0), (0, 0, 0))] (by decide +kernel) rfl ?_
  refine hx_cmp .ge 37 (by decide +kernel) (fun c1 => ?_) (fun c1 => ?_)
  · have c1 : (gx_w ((gx_w (4 * x1)) + 4)) ≤ x3 := c1
    refine hx_blk (npc := 38) (L' := [(0, .inr (.inl 86)), (1, .inl x1), (2, .inl x2), (3, .inl x3)]) (st' := [.inl x2]) (m' := m) [((37, .iload_n 2, 1, 0, 0, 0, 0), (0, 0, 0))] (by decide +kernel) rfl ?_
    exact hx_reti (by decide +kernel) (h1 c1)
  · have c1 : x3 < (gx_w ((gx_w (4 * x1)) + 4)) := by have h : ¬ ((gx_w ((gx_w (4 * x1)) + 4)) ≤ x3) := c1; omega
    have f1 := gx_and_bd (m 90 (x3).toNat) 255 (by decide)
    refine hx_blk (npc := 6) (L' := [(0, .inr (.inl 86)), (1, .inl x1), (2, .inl (gx_or (gx_shl x2 8) (gx_and (m 90 (x3).toNat) 255))), (3, .inl (gx_w (x3 + 1)))]) (st' := []) (m' := m) [((15, .iload_n 2, 1, 0, 0, 0, 0), (0, 0, 0)), ((16, .bipush 8, 2, 0, 0, 0, 0), (0, 0, 0)), ((18, .ishl, 1, 0, 0, 0, 0), (0, 0, 0)), ((19, .aload_n 0, 1, 0, 0, 0, 0), (0, 0, 0)), ((20, .getfield 19, 3, 10, 3, 5116, 0), (1, 86, 90)), ((23, .iload_n 3, 1, 0, 0, 0, 0), (0, 0, 0)), ((24, .baload, 1, 0, 0, 0, 0), (0, 90, 0)), ((25, .sipush 255, 3, 0, 0, 0, 0), (0, 0, 0)), ((28, .iand, 1, 0, 0, 0, 0), (0, 0, 0)), ((29, .ior, 1, 0, 0, 0, 0), (0, 0, 0)), ((30, .istore_n 2, 1, 0, 0, 0, 0), (0, 0, 0)), ((31, .iinc 3 1, 3, 0, 0, 0, 0), (0, 0, 0)), ((34, .goto (-28), 3, 0, 0, 0, 0), (0, 0, 0))] (by decide +kernel) rfl ?_
    exact hx_pick [0, 1, 2, 3] (h2 c1)

/-- check from 0 on -/
theorem hr272_0 {xs : List Int32} {n : Nat} {Q : hQ} {m : gx_M} {x1 : Int}
    (h1 : (0 ≤ x1 ∧ x1 ≤ 40) → (x1 ≤ (gx_w (Int.tdiv (m 86 4) 4))) → hxn xs n yp_m272 30 [(0, .inr (.inl 86)), (1, .inl x1), (2, .inl 0)] [] (gx_u m 86 4 0) Q)
    (h2 : (0 ≤ x1 ∧ x1 ≤ 40) → ((gx_w (Int.tdiv (m 86 4) 4)) < x1) → Q (some (.inl (-2))) m)
    (h3 : (¬ (0 ≤ x1 ∧ x1 ≤ 40)) → Q (some (.inl (-2))) m) : hxn xs (n + 1) yp_m272 0 [(0, .inr (.inl 86)), (1, .inl x1)] [] m Q := by
  refine hx_blks (npc := 4) (L' := [(0, .inr (.inl 86)), (1, .inl x1)]) (st' := [.inl 40, .inl 0, .inl x1]) (m' := m) ((0, .iload_n 1, 1, 0, 0, 0, 0), (0, 0, 0)) [((1, .iconst 0, 1, 0, 0, 0, 0), (0, 0, 0)), ((2, .bipush 40, 2, 0, 0, 0, 0), (0, 0, 0))] (by decide +kernel) rfl ?_
  refine hx_call (E := (4, .invokestatic 108, 3, 162, 0, 6023, 0)) (M' := yp_m162) [.inl x1, .inl 0, .inl 40] [] rfl (by decide +kernel) rfl ⟨rfl, rfl⟩ rfl rfl (hs162 (fun c1 => ?_) (fun c1 => ?_))
  · have c1 : 0 ≤ x1 ∧ x1 ≤ 40 := c1
    show hxn xs n yp_m272 7 [(0, .inr (.inl 86)), (1, .inl x1)] [.inl 1] m Q
    refine hx_if .eq 20 (by decide +kernel) (fun c2 => ?_) (fun c2 => ?_)
    · have c2 : (1 : Int) = 0 := c2
      exfalso; omega
    · have c2 : (1 : Int) ≠ 0 := c2
      refine hx_blk (npc := 17) (L' := [(0, .inr (.inl 86)), (1, .inl x1)]) (st' := [.inl (gx_w (Int.tdiv (m 86 4) 4)), .inl x1]) (m' := m) [((10, .iload_n 1, 1, 0, 0, 0, 0), (0, 0, 0)), ((11, .aload_n 0, 1, 0, 0, 0, 0), (0, 0, 0)), ((12, .getfield 124, 3, 10, 4, 5117, 0), (0, 86, 0)), ((15, .iconst 4, 1, 0, 0, 0, 0), (0, 0, 0)), ((16, .idiv, 1, 0, 0, 0, 0), (0, 0, 0))] (by decide +kernel) rfl ?_
      refine hx_cmp .le 23 (by decide +kernel) (fun c2 => ?_) (fun c2 => ?_)
      · have c2 : x1 ≤ (gx_w (Int.tdiv (m 86 4) 4)) := c2
        refine hx_blk (npc := 30) (L' := [(0, .inr (.inl 86)), (1, .inl x1), (2, .inl 0)]) (st' := []) (m' := (gx_u m 86 4 0)) [((23, .aload_n 0, 1, 0, 0, 0, 0), (0, 0, 0)), ((24, .iconst 0, 1, 0, 0, 0, 0), (0, 0, 0)), ((25, .putfield 124, 3, 10, 4, 5117, 0), (0, 86, 0)), ((28, .iconst 0, 1, 0, 0, 0, 0), (0, 0, 0)), ((29, .istore_n 2, 1, 0, 0, 0, 0), (0, 0, 0))] (by decide +kernel) rfl ?_
        exact hx_pick [0, 1, 2] (h1 c1 c2)
      · have c2 : (gx_w (Int.tdiv (m 86 4) 4)) < x1 := by have h : ¬ (x1 ≤ (gx_w (Int.tdiv (m 86 4) 4))) := c2; omega
        refine hx_blk (npc := 22) (L' := [(0, .inr (.inl 86)), (1, .inl x1)]) (st' := [.inl (-2)]) (m' := m) [((20, .bipush (-2), 2, 0, 0, 0, 0), (0, 0, 0))] (by decide +kernel) rfl ?_
        exact hx_reti (by decide +kernel) (h2 c1 c2)
  · have c1 : ¬ (0 ≤ x1 ∧ x1 ≤ 40) := c1
    show hxn xs n yp_m272 7 [(0, .inr (.inl 86)), (1, .inl x1)] [.inl 0] m Q
    refine hx_if .eq 20 (by decide +kernel) (fun c2 => ?_) (fun c2 => ?_)
    · have c2 : (0 : Int) = 0 := c2
      refine hx_blk (npc := 22) (L' := [(0, .inr (.inl 86)), (1, .inl x1)]) (st' := [.inl (-2)]) (m' := m) [((20, .bipush (-2), 2, 0, 0, 0, 0), (0, 0, 0))] (by decide +kernel) rfl ?_
      exact hx_reti (by decide +kernel) (h3 c1)
    · have c2 : (0 : Int) ≠ 0 := c2
      exfalso; omega

/-- check from 30 on -/
theorem hr272_30 {xs : List Int32} {n : Nat} {Q : hQ} {m : gx_M} {x1 x2 : Int}
    (h1 : (x1 ≤ x2) → Q (some (.inl (-1))) m)
    (h2 : (x2 < x1) → hxn xs n yp_m273 0 [(0, .inr (.inl 86)), (1, .inl x2)] [] m (fun r m' => hxn xs n yp_m272 40 [(0, .inr (.inl 86)), (1, .inl x1), (2, .inl x2)] (hrs r ++ []) m' Q)) : hxn xs (n + 1) yp_m272 30 [(0, .inr (.inl 86)), (1, .inl x1), (2, .inl x2)] [] m Q := by
  refine hx_blks (npc := 32) (L' := [(0, .inr (.inl 86)), (1, .inl x1), (2, .inl x2)]) (st' := [.inl x1, .inl x2]) (m' := m) ((30, .iload_n 2, 1, 0, 0, 0, 0), (0, 0, 0)) [((31, .iload_n 1, 1, 0, 0, 0, 0), (0, 0, 0))] (by decide +kernel) rfl ?_
  refine hx_cmp .ge 73 (by decide +kernel) (fun c1 => ?_) (fun c1 => ?_)
  · have c1 : x1 ≤ x2 := c1
    refine hx_blk (npc := 74) (L' := [(0, .inr (.inl 86)), (1, .inl x1), (2, .inl x2)]) (st' := [.inl (-1)]) (m' := m) [((73, .iconst (-1), 1, 0, 0, 0, 0), (0, 0, 0))] (by decide +kernel) rfl ?_
    exact hx_reti (by decide +kernel) (h1 c1)
  · have c1 : x2 < x1 := by have h : ¬ (x1 ≤ x2) := c1; omega
    refine hx_blk (npc := 37) (L' := [(0, .inr (.inl 86)), (1, .inl x1), (2, .inl x2)]) (st' := [.inl x2, .inr (.inl 86)]) (m' := m) [((35, .aload_n 0, 1, 0, 0, 0, 0), (0, 0, 0)), ((36, .iload_n 2, 1, 0, 0, 0, 0), (0, 0, 0))] (by decide +kernel) rfl ?_
    exact hx_call (E := (37, .invokevirtual 423, 3, 273, 0, 7222, 0)) (M' := yp_m273) [.inr (.inl 86), .inl x2] [] rfl (by decide +kernel) rfl ⟨rfl, rfl⟩ rfl rfl (hx_mono (h2 c1) (fun r m' h' => hx_pick [0, 1, 2] h'))

/-- check from 40 on -/
theorem hr272_40 {xs : List Int32} {n : Nat} {Q : hQ} {m : gx_M} {x1 x2 s0 : Int}
    (h1 : (aYr (m 87) x2) → (s0 = (m 87 (gx_w (240 + x2)).toNat)) → hxn xs n yp_m272 30 [(0, .inr (.inl 86)), (1, .inl x1), (2, .inl (gx_w (x2 + 1)))] [] m Q)
    (h2 : (aYr (m 87) x2) → (s0 ≠ (m 87 (gx_w (240 + x2)).toNat)) → Q (some (.inl x2)) m)
    (h3 : (¬ (aYr (m 87) x2)) → (s0 = 0) → hxn xs n yp_m272 30 [(0, .inr (.inl 86)), (1, .inl x1), (2, .inl (gx_w (x2 + 1)))] [] m Q)
    (h4 : (¬ (aYr (m 87) x2)) → (s0 ≠ 0) → Q (some (.inl x2)) m) : hxn xs (n + 1) yp_m272 40 [(0, .inr (.inl 86)), (1, .inl x1), (2, .inl x2)] [.inl s0] m Q := by
  refine hx_blks (npc := 42) (L' := [(0, .inr (.inl 86)), (1, .inl x1), (2, .inl x2)]) (st' := [.inl x2, .inr (.inl 86), .inl s0]) (m' := m) ((40, .aload_n 0, 1, 0, 0, 0, 0), (0, 0, 0)) [((41, .iload_n 2, 1, 0, 0, 0, 0), (0, 0, 0))] (by decide +kernel) rfl ?_
  refine hx_call (E := (42, .invokevirtual 269, 3, 196, 0, 6156, 0)) (M' := yp_m196) [.inr (.inl 86), .inl x2] [.inl s0] rfl (by decide +kernel) rfl ⟨rfl, rfl⟩ rfl rfl (hs196 (fun c1 => ?_) (fun c1 => ?_))
  · have c1 : aYr (m 87) x2 := c1
    show hxn xs n yp_m272 45 [(0, .inr (.inl 86)), (1, .inl x1), (2, .inl x2)] [.inl 1, .inl s0] m Q
    refine hx_if .eq 61 (by decide +kernel) (fun c2 => ?_) (fun c2 => ?_)
    · have c2 : (1 : Int) = 0 := c2
      exfalso; omega
    · have c2 : (1 : Int) ≠ 0 := c2
      refine hx_blk (npc := 62) (L' := [(0, .inr (.inl 86)), (1, .inl x1), (2, .inl x2)]) (st' := [.inl (m 87 (gx_w (240 + x2)).toNat), .inl s0]) (m' := m) [((48, .aload_n 0, 1, 0, 0, 0, 0), (0, 0, 0)), ((49, .getfield 7, 3, 10, 0, 5113, 0), (1, 86, 87)), ((52, .sipush 240, 3, 0, 0, 0, 0), (0, 0, 0)), ((55, .iload_n 2, 1, 0, 0, 0, 0), (0, 0, 0)), ((56, .iadd, 1, 0, 0, 0, 0), (0, 0, 0)), ((57, .iaload, 1, 0, 0, 0, 0), (0, 87, 0)), ((58, .goto 4, 3, 0, 0, 0, 0), (0, 0, 0))] (by decide +kernel) rfl ?_
      refine hx_cmp .eq 67 (by decide +kernel) (fun c2 => ?_) (fun c2 => ?_)
      · have c2 : s0 = (m 87 (gx_w (240 + x2)).toNat) := c2
        refine hx_blk (npc := 30) (L' := [(0, .inr (.inl 86)), (1, .inl x1), (2, .inl (gx_w (x2 + 1)))]) (st' := []) (m' := m) [((67, .iinc 2 1, 3, 0, 0, 0, 0), (0, 0, 0)), ((70, .goto (-40), 3, 0, 0, 0, 0), (0, 0, 0))] (by decide +kernel) rfl ?_
        exact hx_pick [0, 1, 2] (h1 c1 c2)
      · have c2 : s0 ≠ (m 87 (gx_w (240 + x2)).toNat) := c2
        refine hx_blk (npc := 66) (L' := [(0, .inr (.inl 86)), (1, .inl x1), (2, .inl x2)]) (st' := [.inl x2]) (m' := m) [((65, .iload_n 2, 1, 0, 0, 0, 0), (0, 0, 0))] (by decide +kernel) rfl ?_
        exact hx_reti (by decide +kernel) (h2 c1 c2)
  · have c1 : ¬ (aYr (m 87) x2) := c1
    show hxn xs n yp_m272 45 [(0, .inr (.inl 86)), (1, .inl x1), (2, .inl x2)] [.inl 0, .inl s0] m Q
    refine hx_if .eq 61 (by decide +kernel) (fun c2 => ?_) (fun c2 => ?_)
    · have c2 : (0 : Int) = 0 := c2
      refine hx_blk (npc := 62) (L' := [(0, .inr (.inl 86)), (1, .inl x1), (2, .inl x2)]) (st' := [.inl 0, .inl s0]) (m' := m) [((61, .iconst 0, 1, 0, 0, 0, 0), (0, 0, 0))] (by decide +kernel) rfl ?_
      refine hx_cmp .eq 67 (by decide +kernel) (fun c2 => ?_) (fun c2 => ?_)
      · have c2 : s0 = 0 := c2
        refine hx_blk (npc := 30) (L' := [(0, .inr (.inl 86)), (1, .inl x1), (2, .inl (gx_w (x2 + 1)))]) (st' := []) (m' := m) [((67, .iinc 2 1, 3, 0, 0, 0, 0), (0, 0, 0)), ((70, .goto (-40), 3, 0, 0, 0, 0), (0, 0, 0))] (by decide +kernel) rfl ?_
        exact hx_pick [0, 1, 2] (h3 c1 c2)
      · have c2 : s0 ≠ 0 := c2
        refine hx_blk (npc := 66) (L' := [(0, .inr (.inl 86)), (1, .inl x1), (2, .inl x2)]) (st' := [.inl x2]) (m' := m) [((65, .iload_n 2, 1, 0, 0, 0, 0), (0, 0, 0))] (by decide +kernel) rfl ?_
        exact hx_reti (by decide +kernel) (h4 c1 c2)
    · have c2 : (0 : Int) ≠ 0 := c2
      exfalso; omega
end
section
/-! check, by both -/
theorem i3_sh {a : Nat} (ha : a < 32) (z : Int32) : (z <<< (Int32.ofInt (a : Int) &&& 31)).toBitVec = z.toBitVec <<< a := by
  rw [Int32.toBitVec_shiftLeft, BitVec.shiftLeft_eq', hi_sam a ha]
theorem shl_o (x y : Int) {a : Nat} (ha : a < 32) : gx_shl (gx_or x y) (a : Int) = gx_or (gx_shl x (a : Int)) (gx_shl y (a : Int)) := by
  unfold gx_shl gx_or
  rw [i3_of, i3_of, i3_of]
  congr 1
  apply Int32.toBitVec_inj.mp
  rw [i3_sh ha, Int32.toBitVec_or, Int32.toBitVec_or, i3_sh ha, i3_sh ha, BitVec.shiftLeft_or_distrib]
theorem shl_s (x : Int) {a b c : Nat} (ha : a < 32) (hb : b < 32) (hc : c < 32) (e : c = a + b) : gx_shl (gx_shl x (a : Int)) (b : Int) = gx_shl x (c : Int) := by
  unfold gx_shl
  rw [i3_of]
  congr 1
  apply Int32.toBitVec_inj.mp
  rw [i3_sh hb, i3_sh ha, i3_sh hc, e, BitVec.shiftLeft_add]
theorem shl_z {a : Nat} (ha : a < 32) : gx_shl 0 (a : Int) = 0 := by
  have h : ∀ a : Nat, a < 32 → gx_shl 0 (a : Int) = 0 := by decide +kernel
  exact h a ha
theorem or_z (x : Int) : gx_or 0 x = (Int32.ofInt x).toInt := by
  unfold gx_or
  congr 1
  apply Int32.toBitVec_inj.mp
  rw [Int32.toBitVec_or]
  show 0#32 ||| _ = _
  rw [BitVec.zero_or]
/-- a number of four bytes, in two ways -/
theorem nm_eq {b0 b1 b2 b3 : Int} (h0 : 0 ≤ b0 ∧ b0 ≤ 255) : gx_or (gx_shl (gx_or (gx_shl (gx_or (gx_shl (gx_or (gx_shl 0 8) b0) 8) b1) 8) b2) 8) b3 = gx_or (gx_or (gx_or (gx_shl b0 24) (gx_shl b1 16)) (gx_shl b2 8)) b3 := by
  have z := shl_z (a := 8) (by decide)
  have o : ∀ x y : Int, gx_shl (gx_or x y) 8 = gx_or (gx_shl x 8) (gx_shl y 8) := fun x y => shl_o x y (a := 8) (by decide)
  have s1 : ∀ x : Int, gx_shl (gx_shl x 8) 8 = gx_shl x 16 := fun x => shl_s x (a := 8) (b := 8) (c := 16) (by decide) (by decide) (by decide) rfl
  have s2 : ∀ x : Int, gx_shl (gx_shl x 8) 16 = gx_shl x 24 := fun x => shl_s x (a := 8) (b := 16) (c := 24) (by decide) (by decide) (by decide) rfl
  have z' : gx_shl 0 8 = 0 := z
  have e0 : gx_or 0 b0 = b0 := by
    rw [or_z, Int32.toInt_ofInt, gx_bm, gx_w_id (by omega) (by omega)]
  rw [z', e0, o, o, o, s1, s1, s2]
def nmb (T : Nat → Int) (i : Nat) : Int := gx_or (gx_or (gx_or (gx_shl (T (4 * i)) 24) (gx_shl (T (4 * i + 1)) 16)) (gx_shl (T (4 * i + 2)) 8)) (T (4 * i + 3))
def ckR (s : Nat → Int) (y : Nat) : Int := if s (440 + y) = 1 then s (240 + y) else 0
def ckF (V R : Nat → Int) : Nat → Nat → Int
  | _, 0 => -1
  | y, d + 1 => if V y = R y then ckF V R (y + 1) d else (y : Int)
theorem ckF_t {V R : Nat → Int} {y d : Nat} (h : V y = R y) : ckF V R y (d + 1) = ckF V R (y + 1) d := if_pos h
theorem ckF_f {V R : Nat → Int} {y d : Nat} (h : ¬ V y = R y) : ckF V R y (d + 1) = (y : Int) := if_neg h
section CH
variable {xs : List Int32} {n : Nat} {Q : hQ} {m : gx_M} {s T : Nat → Int} {a1 : Int}
theorem cs24z {N : Nat} (hN : N ≤ 240) (h : ∀ m', m' 3 1 = (N : Int) → (∀ k, k < N → m' 4 k = m 2 k) → (∀ c k, c ≠ 3 → c ≠ 4 → ¬ (c = 1 ∧ k = 1) → m' c k = m c k) → Q none m') : hxn xs n yp_m24 0 [(0, .inr (.inl 3)), (1, .inr (.inl 1)), (2, .inl (N : Int))] [] m Q := by
  refine hx_dn (hr24_0 ?_)
  have e0 : (if (0 : Int) < (if (260 : Int) < (N : Int) then 260 else (N : Int)) then (if (260 : Int) < (N : Int) then 260 else (N : Int)) else 0) = (N : Int) := by
    rw [if_neg (show ¬ (260 : Int) < (N : Int) by omega)]
    split <;> omega
  rw [e0, Int.toNat_natCast]
  obtain ⟨M, hM⟩ : ∃ M, M = gx_u (gx_u (hcopy (gx_u m 3 1 (N : Int)) 2 0 4 0 N) 1 1 0) 3 2 0 := ⟨_, rfl⟩
  rw [← hM]
  have e1 : M 3 1 = (N : Int) := by rw [hM, gx_u_ne (by omega), gx_u_ne (by omega), hcopy_ne (by decide), gx_u_self]
  have e4 : ∀ k, k < N → M 4 k = m 2 k := fun k hk => by rw [hM, gx_u_ne (by omega), gx_u_ne (by omega), hcopy_at hk, gx_u_ne (by omega)]
  refine cs25 (p := 0) (T := m 2) (L := N) e1 e4 hN ?_
  show hxn xs n yp_m24 48 _ [.inl (tx (m 2) N 0), .inr (.inl 3)] M Q
  refine hx_dn (hr24_48 (h _ ?_ (fun k hk => ?_) (fun c k c1 c2 c3 => ?_)))
  · rw [gx_u_ne (by omega), gx_u_ne (by omega)]
    exact e1
  · rw [gx_u_ne (by omega), gx_u_ne (by omega)]
    exact e4 k hk
  · rw [gx_u_ne (by omega), gx_u_ne (by omega), hM, gx_u_ne (by omega), gx_u_ne (by omega), hcopy_ne c2, gx_u_ne (by omega)]
theorem c157 {N i : Nat} (h1 : m 3 1 = (N : Int)) (h2 : ∀ k, k < N → m 4 k = T k) (hN : N ≤ 240) (hi : 4 * i + 3 < N) (h : Q (some (.inl (nmb T i))) m) : hxn xs n yp_m157 0 [(0, .inr (.inl 3)), (1, .inl (i : Int))] [] m Q := by
  have e : gx_w (4 * (i : Int)) = ((4 * i : Nat) : Int) := by
    rw [gx_w_id (by omega) (by omega)]
    omega
  have g : ∀ {Q : hQ} (p : Nat), p < N → Q (some (.inl (T p))) m → hxn xs n yp_m25 0 [(0, .inr (.inl 3)), (1, .inl (p : Int))] [] m Q := fun p hp h => cs25 h1 h2 hN (by rw [tx_eq hp]; exact h)
  have w : ∀ j : Nat, j < 4 → gx_w (((4 * i : Nat) : Int) + (j : Int)) = ((4 * i + j : Nat) : Int) := fun j hj => by
    rw [gx_w_id (by omega) (by omega)]
    omega
  have w1 := w 1 (by decide)
  have w2 := w 2 (by decide)
  have w3 := w 3 (by decide)
  refine hx_dn (hr157_0 ?_)
  rw [e]
  refine g _ (by omega) (hx_dn (hr157_9 ?_))
  show hxn xs n yp_m25 0 [(0, .inr (.inl 3)), (1, .inl (gx_w (((4 * i : Nat) : Int) + ((1 : Nat) : Int))))] [] m _
  rw [w1]
  refine g _ (by omega) (hx_dn (hr157_19 ?_))
  show hxn xs n yp_m25 0 [(0, .inr (.inl 3)), (1, .inl (gx_w (((4 * i : Nat) : Int) + ((2 : Nat) : Int))))] [] m _
  rw [w2]
  refine g _ (by omega) (hx_dn (hr157_30 ?_))
  show hxn xs n yp_m25 0 [(0, .inr (.inl 3)), (1, .inl (gx_w (((4 * i : Nat) : Int) + ((3 : Nat) : Int))))] [] m _
  rw [w3]
  exact g _ (by omega) (hx_dn (hr157_41 h))
theorem c156l {A : Nat} (hA : A ≤ 40) (h1 : m 3 1 = ((4 * A : Nat) : Int)) (h2 : ∀ k, k < 4 * A → m 4 k = T k) (hB : sBk 5 s m) : ∀ d y : Nat, y + d = A → Q (some (.inl (ckF (nmb T) (ckR s) y d))) m → hxn xs n yp_m156 42 [(0, .inr (.inl 0)), (1, .inl (A : Int)), (2, .inl (y : Int))] [] m Q := by
  intro d
  induction d with
  | zero =>
    intro y hy h
    exact hx_dn (hr156_42 (fun _ => h) (fun c => absurd c (by omega)) (fun c => absurd c (by omega)))
  | succ d ih =>
    intro y hy h
    have st : hxn xs n yp_m157 0 [(0, .inr (.inl 3)), (1, .inl (y : Int))] [] m (fun r m' => hxn xs n yp_m156 80 [(0, .inr (.inl 0)), (1, .inl (A : Int)), (2, .inl (y : Int)), (3, .inl (ckR s y))] (hrs r ++ []) m' Q) := by
      refine c157 h1 h2 (by omega) (by omega) (hx_dn (hr156_80 (fun c => ?_) (fun c => ?_)))
      · rw [ckF_t c] at h
        rw [ew_u (by omega)]
        exact ih (y + 1) (by omega) h
      · rw [ckF_f c] at h
        exact h
    unfold ckR at st
    refine hx_dn (hr156_42 (fun c => absurd c (by omega)) (fun _ c => ?_) (fun _ c => ?_))
    · rw [if_pos ((cY_iff hB (by omega)).mp c)] at st
      rw [Int.toNat_natCast, sB5_own hB y (by omega)]
      exact st
    · rw [if_neg (fun q => c ((cY_iff hB (by omega)).mpr q))] at st
      exact st
theorem r273 {i N : Nat} (hT : ∀ k, k < N → gx_and (m 90 k) 255 = T k) (hb : ∀ k, k < N → 0 ≤ T k ∧ T k ≤ 255) (hN : N ≤ 260) (hi : 4 * i + 3 < N) (h : Q (some (.inl (nmb T i))) m) : hxn xs n yp_m273 0 [(0, .inr (.inl 86)), (1, .inl (i : Int))] [] m Q := by
  have e : gx_w (4 * (i : Int)) = ((4 * i : Nat) : Int) := by
    rw [gx_w_id (by omega) (by omega)]
    omega
  have e4 : gx_w (((4 * i : Nat) : Int) + 4) = ((4 * i + 4 : Nat) : Int) := by
    rw [gx_w_id (by omega) (by omega)]
    omega
  have st : ∀ (p : Nat) (v : Int), p < 4 * i + 4 → hxn xs n yp_m273 6 [(0, .inr (.inl 86)), (1, .inl (i : Int)), (2, .inl (gx_or (gx_shl v 8) (T p))), (3, .inl ((p + 1 : Nat) : Int))] [] m Q → hxn xs n yp_m273 6 [(0, .inr (.inl 86)), (1, .inl (i : Int)), (2, .inl v), (3, .inl (p : Int))] [] m Q := fun p v hp k => by
    refine hx_dn (hr273_6 (fun c => ?_) (fun _ => ?_))
    · rw [e, e4] at c
      exact absurd c (by omega)
    · rw [Int.toNat_natCast, hT p (by omega), ew_u (by omega)]
      exact k
  refine hx_dn (hr273_0 ?_)
  rw [e]
  refine st _ _ (by omega) (st _ _ (by omega) (st _ _ (by omega) (st _ _ (by omega) (hx_dn (hr273_6 (fun _ => ?_) (fun c => ?_))))))
  · rw [nm_eq (hb _ (by omega))]
    exact h
  · rw [e, e4] at c
    exact absurd c (by omega)
theorem r272l {A N : Nat} (hT : ∀ k, k < N → gx_and (m 90 k) 255 = T k) (hb : ∀ k, k < N → 0 ≤ T k ∧ T k ≤ 255) (hN : N ≤ 260) (hA : A ≤ 40) (h4 : 4 * A ≤ N) : ∀ d y : Nat, y + d = A → Q (some (.inl (ckF (nmb T) (ckR (m 87)) y d))) m → hxn xs n yp_m272 30 [(0, .inr (.inl 86)), (1, .inl (A : Int)), (2, .inl (y : Int))] [] m Q := by
  intro d
  induction d with
  | zero =>
    intro y hy h
    exact hx_dn (hr272_30 (fun _ => h) (fun c => absurd c (by omega)))
  | succ d ih =>
    intro y hy h
    have iY := aYr_iff (s := m 87) (Y := y) (by omega)
    have yes : nmb T y = ckR (m 87) y → hxn xs n yp_m272 30 [(0, .inr (.inl 86)), (1, .inl (A : Int)), (2, .inl (gx_w ((y : Int) + 1)))] [] m Q := fun c => by
      rw [ckF_t c] at h
      rw [ew_u (by omega)]
      exact ih (y + 1) (by omega) h
    have no : ¬ nmb T y = ckR (m 87) y → Q (some (.inl (y : Int))) m := fun c => by
      rw [ckF_f c] at h
      exact h
    have w := w240 (Y := y) (by omega)
    unfold ckR at yes no
    refine hx_dn (hr272_30 (fun c => absurd c (by omega)) (fun _ => r273 hT hb hN (by omega) (hx_dn (hr272_40 (fun c e => yes ?_) (fun c e => no ?_) (fun c e => yes ?_) (fun c e => no ?_)))))
    · rw [w] at e
      rw [if_pos (iY.mp c)]
      exact e
    · rw [w] at e
      rw [if_pos (iY.mp c)]
      exact e
    · rw [if_neg (fun q => c (iY.mpr q))]
      exact e
    · rw [if_neg (fun q => c (iY.mpr q))]
      exact e
theorem b255 (x : Int) : 0 ≤ gx_and x 255 ∧ gx_and x 255 ≤ 255 := gx_and_bd x 255 (by decide)
theorem ww_check (hT : hTp m) (hR : hWr xs m) : hxn xs n yp_m156 0 [(0, .inr (.inl 0)), (1, .inl a1)] [] m (fun r1 m1 => hxn xs n yp_m272 0 [(0, .inr (.inl 86)), (1, .inl a1)] [] m1 (fun r2 m2 => hWr xs m2 ∧ r2 = r1)) := by
  have hR' := hR
  obtain ⟨hs, hB, -⟩ := hR
  obtain ⟨t1, t2, t3, t4⟩ := hT
  have td : gx_w (Int.tdiv (m 86 4) 4) = m 86 4 / 4 := by
    rw [Int.tdiv_eq_ediv_of_nonneg (by omega), gx_w_id (by omega) (by omega)]
  have bad : ¬ (0 ≤ a1 ∧ a1 ≤ 40 ∧ 4 * a1 ≤ m 1 1) → hxn xs n yp_m272 0 [(0, .inr (.inl 86)), (1, .inl a1)] [] m (fun r2 m2 => hWr xs m2 ∧ r2 = some (.inl (-2))) := fun c => hx_dn (hr272_0 (fun d1 d2 => absurd (by rw [td] at d2; omega) c) (fun _ _ => ⟨hR', rfl⟩) (fun _ => ⟨hR', rfl⟩))
  refine hx_dn (hr156_0 (fun c => bad (by omega)) (fun _ c => bad (by omega)) (fun c1 c2 c3 => ?_) (fun _ _ c => bad (by omega)))
  obtain ⟨A, rfl⟩ : ∃ A : Nat, a1 = (A : Int) := ⟨a1.toNat, by omega⟩
  have e4 : 4 * (A : Int) = ((4 * A : Nat) : Int) := by omega
  rw [e4]
  refine cs24z (by omega) (fun m1 x1 x2 f1 => hx_dn (hr156_40 ?_))
  have hR1 : hWr xs m1 := hWr_c (hPR_of (fun c k hc => f1 c k (by omega) (by omega) (by omega))) hR'
  obtain ⟨hs1, hB1, -⟩ := hR1
  have e87 : m1 87 = m 87 := funext (fun k => f1 87 k (by decide) (by decide) (by omega))
  refine c156l (T := m 2) (by omega) x1 x2 hB1 A 0 (by omega) ?_
  have f86 : m1 86 4 = m 86 4 := f1 86 4 (by decide) (by decide) (by decide)
  refine hx_dn (hr272_0 (fun _ _ => ?_) (fun _ c => ?_) (fun c => absurd ⟨c1, c2⟩ c))
  · have g87 : (gx_u m1 86 4 0) 87 = m1 87 := gx_u_off (by decide)
    have g90 : ∀ k, k < 4 * A → gx_and ((gx_u m1 86 4 0) 90 k) 255 = m 2 k := fun k hk => by
      rw [gx_u_ne (by omega), f1 90 k (by decide) (by decide) (by omega)]
      exact t4 k (by omega)
    refine r272l (T := m 2) (N := 4 * A) g90 (fun k hk => by rw [← g90 k hk]; exact b255 _) (by omega) (by omega) (Nat.le_refl _) A 0 (by omega) ⟨?_, ?_⟩
    · exact hWr_c (hPR_of (fun c k hc => by rw [gx_u_ne (by omega)]; exact f1 c k (by omega) (by omega) (by omega))) hR'
    · rw [g87]
  · rw [f86, td] at c
    exact absurd c (by omega)
end CH
end
