section
/-! what stands when nothing of the state is written -/
theorem hPR_of {m m' : gx_M} (h : ∀ c k, ((c = 0 ∧ 12 ≤ k ∧ k < 14) ∨ (5 ≤ c ∧ c ≤ 30) ∨ (c = 44 ∧ k = 7) ∨ (45 ≤ c ∧ c ≤ 50) ∨ (c = 86 ∧ (k = 13 ∨ k = 44 ∨ k = 47)) ∨ (c = 87 ∧ k < 1131) ∨ (c = 89 ∧ k < 1131) ∨ (97 ≤ c ∧ c ≤ 101)) → m' c k = m c k) : hAg hPR m m' := by
  intro q hq k h1 h2
  refine h q.1 k ?_
  simp only [hPR, hPL, List.cons_append, List.nil_append, List.mem_cons, List.not_mem_nil, or_false] at hq
  rcases hq with rfl | rfl | rfl | rfl | rfl | rfl | rfl | rfl | rfl | rfl | rfl | rfl | rfl | rfl | rfl | rfl | rfl | rfl | rfl | rfl | rfl | rfl | rfl | rfl | rfl | rfl | rfl | rfl | rfl | rfl | rfl | rfl | rfl | rfl | rfl | rfl | rfl | rfl | rfl | rfl | rfl | rfl | rfl | rfl <;> (dsimp only at h1 h2 ⊢; omega)
theorem cLf_R {m m' : gx_M} (h : cLf m m') : hAg hPR m m' := hPR_of (fun c k hc => h c k (by omega) (by omega))
theorem rLf_R {m m' : gx_M} (h : rLf m m') : hAg hPR m m' := hPR_of (fun c k hc => congrFun (h c (by omega) (by omega)) k)
end
section
/-! the trial's book, copied -/
section TK
variable {m : gx_M} {s : Nat → Int}
theorem sBk31_c {m' : gx_M} (hC : hCp_31_5 m m') (hB : sBk 5 s m) : sBk 31 s m' := by
  obtain ⟨k0, k1, k2, k3, k4, a1, a2, a3, a4, a5, a6, a7, a8, a9, a10, a11, a12, kn⟩ := hC
  obtain ⟨⟨q1, q2, q3, q4, q5⟩, b2, b3, b4⟩ := hB
  refine ⟨⟨by rw [k0]; exact q1, by rw [k1]; exact q2, by rw [k2]; exact q3, by rw [k3]; exact q4, by rw [k4]; exact q5⟩, fun p hp => (a1 p hp).trans (b2 p hp), fun y hy => ?_, fun k hk => (a12 k hk).trans (b4 k hk)⟩
  obtain ⟨⟨z1, z2, z3, z4, z5⟩, z6, z7, z8, z9, z10⟩ := b3 y hy
  exact ⟨⟨(a2 y hy).trans z1, (a3 y hy).trans z2, (a4 y hy).trans z3, (a5 y hy).trans z4, (a6 y hy).trans z5⟩, (a7 y hy).trans z6, fun ht => (a8 y hy).trans (z7 ht), (a9 y hy).trans z8, (a10 y hy).trans z9, (a11 y hy).trans z10⟩
theorem hCp31_f {m' : gx_M} (hC : hCp_31_5 m m') : ∀ c, (c < 31 ∨ 43 < c) → m' c = m c := fun c hc => by
  obtain ⟨-, -, -, -, -, -, -, -, -, -, -, -, -, -, -, -, -, kn⟩ := hC
  refine kn c ?_
  simp only [List.mem_cons, List.not_mem_nil, or_false, not_or]
  omega
end TK
end
section
/-! judged: roads -/
/-- judged from 0 on -/
theorem hr70_0 {xs : List Int32} {n : Nat} {Q : hQ} {m : gx_M} {x1 : Int}
    (h1 : hxn xs n yp_m23 0 [(0, .inr (.inl 1)), (1, .inl x1), (2, .inl 160)] [] m (fun r m' => hxn xs n yp_m70 11 [(0, .inr (.inl 0)), (1, .inl x1)] (hrs r ++ []) m' Q)) : hxn xs (n + 1) yp_m70 0 [(0, .inr (.inl 0)), (1, .inl x1)] [] m Q := by
  refine hx_blks (npc := 8) (L' := [(0, .inr (.inl 0)), (1, .inl x1)]) (st' := [.inl 160, .inl x1, .inr (.inl 1)]) (m' := m) ((0, .aload_n 0, 1, 0, 0, 0, 0), (0, 0, 0)) [((1, .getfield 10, 3, 9, 0, 2119, 0), (1, 0, 1)), ((4, .iload_n 1, 1, 0, 0, 0, 0), (0, 0, 0)), ((5, .sipush 160, 3, 0, 0, 0, 0), (0, 0, 0))] (by decide +kernel) rfl ?_
  exact hx_call (E := (8, .invokevirtual 124, 3, 23, 0, 2212, 0)) (M' := yp_m23) [.inr (.inl 1), .inl x1, .inl 160] [] rfl (by decide +kernel) rfl ⟨rfl, rfl⟩ rfl rfl (hx_mono h1 (fun r m' h' => hx_pick [0, 1] h'))

/-- judged from 11 on -/
theorem hr70_11 {xs : List Int32} {n : Nat} {Q : hQ} {m : gx_M} {x1 s0 : Int}
    (h1 : (s0 ≠ 0) → hxn xs n yp_m24 0 [(0, .inr (.inl 3)), (1, .inr (.inl 1)), (2, .inl x1)] [] m (fun r m' => hxn xs n yp_m70 28 [(0, .inr (.inl 0))] (hrs r ++ []) m' Q))
    (h2 : (s0 = 0) → Q (some (.inl (-1))) m) : hxn xs (n + 1) yp_m70 11 [(0, .inr (.inl 0)), (1, .inl x1)] [.inl s0] m Q := by
  refine hx_ifs .ne 16 (by decide +kernel) (fun c1 => ?_) (fun c1 => ?_)
  · have c1 : s0 ≠ 0 := c1
    refine hx_blk (npc := 25) (L' := [(0, .inr (.inl 0)), (1, .inl x1)]) (st' := [.inl x1, .inr (.inl 1), .inr (.inl 3)]) (m' := m) [((16, .aload_n 0, 1, 0, 0, 0, 0), (0, 0, 0)), ((17, .getfield 19, 3, 9, 1, 2120, 0), (1, 0, 3)), ((20, .aload_n 0, 1, 0, 0, 0, 0), (0, 0, 0)), ((21, .getfield 10, 3, 9, 0, 2119, 0), (1, 0, 1)), ((24, .iload_n 1, 1, 0, 0, 0, 0), (0, 0, 0))] (by decide +kernel) rfl ?_
    exact hx_call (E := (25, .invokevirtual 128, 3, 24, 0, 2216, 0)) (M' := yp_m24) [.inr (.inl 3), .inr (.inl 1), .inl x1] [] rfl (by decide +kernel) rfl ⟨rfl, rfl⟩ rfl rfl (hx_mono (h1 c1) (fun r m' h' => hx_pick [0] h'))
  · have c1 : s0 = 0 := by have h : ¬ (s0 ≠ 0) := c1; omega
    refine hx_blk (npc := 15) (L' := [(0, .inr (.inl 0)), (1, .inl x1)]) (st' := [.inl (-1)]) (m' := m) [((14, .iconst (-1), 1, 0, 0, 0, 0), (0, 0, 0))] (by decide +kernel) rfl ?_
    exact hx_reti (by decide +kernel) (h2 c1)

/-- judged from 28 on -/
theorem hr70_28 {xs : List Int32} {n : Nat} {Q : hQ} {m : gx_M}
    (h1 : hxn xs n yp_m49 0 [(0, .inr (.inl 61)), (1, .inr (.inl 3))] [] m (fun r m' => hxn xs n yp_m70 39 [(0, .inr (.inl 0))] (hrs r ++ []) m' Q)) : hxn xs (n + 1) yp_m70 28 [(0, .inr (.inl 0))] [] m Q := by
  refine hx_blks (npc := 36) (L' := [(0, .inr (.inl 0))]) (st' := [.inr (.inl 3), .inr (.inl 61)]) (m' := m) ((28, .aload_n 0, 1, 0, 0, 0, 0), (0, 0, 0)) [((29, .getfield 53, 3, 9, 7, 2126, 0), (1, 0, 61)), ((32, .aload_n 0, 1, 0, 0, 0, 0), (0, 0, 0)), ((33, .getfield 19, 3, 9, 1, 2120, 0), (1, 0, 3))] (by decide +kernel) rfl ?_
  exact hx_call (E := (36, .invokevirtual 147, 3, 49, 0, 3087, 0)) (M' := yp_m49) [.inr (.inl 61), .inr (.inl 3)] [] rfl (by decide +kernel) rfl ⟨rfl, rfl⟩ rfl rfl (hx_mono h1 (fun r m' h' => hx_pick [0] h'))

/-- judged from 39 on -/
theorem hr70_39 {xs : List Int32} {n : Nat} {Q : hQ} {m : gx_M} {s0 : Int}
    (h1 : (s0 ≠ 0) → hxn xs n yp_m71 0 [(0, .inr (.inl 31)), (1, .inr (.inl 5))] [] m (fun r m' => hxn xs n yp_m70 61 [(0, .inr (.inl 0))] (hrs r ++ []) m' Q))
    (h2 : (s0 = 0) → Q (some (.inl (m 3 4))) m) : hxn xs (n + 1) yp_m70 39 [(0, .inr (.inl 0))] [.inl s0] m Q := by
  refine hx_ifs .ne 50 (by decide +kernel) (fun c1 => ?_) (fun c1 => ?_)
  · have c1 : s0 ≠ 0 := c1
    refine hx_blk (npc := 58) (L' := [(0, .inr (.inl 0))]) (st' := [.inr (.inl 5), .inr (.inl 31)]) (m' := m) [((50, .aload_n 0, 1, 0, 0, 0, 0), (0, 0, 0)), ((51, .getfield 33, 3, 9, 4, 2123, 0), (1, 0, 31)), ((54, .aload_n 0, 1, 0, 0, 0, 0), (0, 0, 0)), ((55, .getfield 26, 3, 9, 2, 2121, 0), (1, 0, 5))] (by decide +kernel) rfl ?_
    exact hx_call (E := (58, .invokevirtual 153, 3, 71, 0, 3193, 0)) (M' := yp_m71) [.inr (.inl 31), .inr (.inl 5)] [] rfl (by decide +kernel) rfl ⟨rfl, rfl⟩ rfl rfl (hx_mono (h1 c1) (fun r m' h' => hx_pick [0] h'))
  · have c1 : s0 = 0 := by have h : ¬ (s0 ≠ 0) := c1; omega
    refine hx_blk (npc := 49) (L' := [(0, .inr (.inl 0))]) (st' := [.inl (m 3 4)]) (m' := m) [((42, .aload_n 0, 1, 0, 0, 0, 0), (0, 0, 0)), ((43, .getfield 19, 3, 9, 1, 2120, 0), (1, 0, 3)), ((46, .getfield 136, 3, 1, 4, 1058, 0), (0, 3, 0))] (by decide +kernel) rfl ?_
    exact hx_reti (by decide +kernel) (h2 c1)

/-- judged from 61 on -/
theorem hr70_61 {xs : List Int32} {n : Nat} {Q : hQ} {m : gx_M}
    (h1 : hxn xs n yp_m70 63 [(0, .inr (.inl 0)), (2, .inl 0)] [] m Q) : hxn xs (n + 1) yp_m70 61 [(0, .inr (.inl 0))] [] m Q := by
  refine hx_blks (npc := 63) (L' := [(0, .inr (.inl 0)), (2, .inl 0)]) (st' := []) (m' := m) ((61, .iconst 0, 1, 0, 0, 0, 0), (0, 0, 0)) [((62, .istore_n 2, 1, 0, 0, 0, 0), (0, 0, 0))] (by decide +kernel) rfl ?_
  exact hx_pick [0, 2] h1

/-- judged from 63 on -/
theorem hr70_63 {xs : List Int32} {n : Nat} {Q : hQ} {m : gx_M} {x2 : Int}
    (h1 : ((m 61 5) ≤ x2) → Q (some (.inl (m 61 5))) m)
    (h2 : (x2 < (m 61 5)) → hxn xs n yp_m53 0 [(0, .inr (.inl 61)), (1, .inr (.inl 31)), (2, .inr (.inl 44)), (3, .inl x2)] [] m (fun r m' => hxn xs n yp_m70 90 [(0, .inr (.inl 0)), (2, .inl x2)] (hrs r ++ []) m' Q)) : hxn xs (n + 1) yp_m70 63 [(0, .inr (.inl 0)), (2, .inl x2)] [] m Q := by
  refine hx_blks (npc := 71) (L' := [(0, .inr (.inl 0)), (2, .inl x2)]) (st' := [.inl (m 61 5), .inl x2]) (m' := m) ((63, .iload_n 2, 1, 0, 0, 0, 0), (0, 0, 0)) [((64, .aload_n 0, 1, 0, 0, 0, 0), (0, 0, 0)), ((65, .getfield 53, 3, 9, 7, 2126, 0), (1, 0, 61)), ((68, .getfield 148, 3, 5, 5, 2003, 0), (0, 61, 0))] (by decide +kernel) rfl ?_
  refine hx_cmp .ge 101 (by decide +kernel) (fun c1 => ?_) (fun c1 => ?_)
  · have c1 : (m 61 5) ≤ x2 := c1
    refine hx_blk (npc := 108) (L' := [(0, .inr (.inl 0)), (2, .inl x2)]) (st' := [.inl (m 61 5)]) (m' := m) [((101, .aload_n 0, 1, 0, 0, 0, 0), (0, 0, 0)), ((102, .getfield 53, 3, 9, 7, 2126, 0), (1, 0, 61)), ((105, .getfield 148, 3, 5, 5, 2003, 0), (0, 61, 0))] (by decide +kernel) rfl ?_
    exact hx_reti (by decide +kernel) (h1 c1)
  · have c1 : x2 < (m 61 5) := by have h : ¬ ((m 61 5) ≤ x2) := c1; omega
    refine hx_blk (npc := 87) (L' := [(0, .inr (.inl 0)), (2, .inl x2)]) (st' := [.inl x2, .inr (.inl 44), .inr (.inl 31), .inr (.inl 61)]) (m' := m) [((74, .aload_n 0, 1, 0, 0, 0, 0), (0, 0, 0)), ((75, .getfield 53, 3, 9, 7, 2126, 0), (1, 0, 61)), ((78, .aload_n 0, 1, 0, 0, 0, 0), (0, 0, 0)), ((79, .getfield 33, 3, 9, 4, 2123, 0), (1, 0, 31)), ((82, .aload_n 0, 1, 0, 0, 0, 0), (0, 0, 0)), ((83, .getfield 39, 3, 9, 5, 2124, 0), (1, 0, 44)), ((86, .iload_n 2, 1, 0, 0, 0, 0), (0, 0, 0))] (by decide +kernel) rfl ?_
    exact hx_call (E := (87, .invokevirtual 149, 3, 53, 0, 3109, 0)) (M' := yp_m53) [.inr (.inl 61), .inr (.inl 31), .inr (.inl 44), .inl x2] [] rfl (by decide +kernel) rfl ⟨rfl, rfl⟩ rfl rfl (hx_mono (h2 c1) (fun r m' h' => hx_pick [0, 2] h'))

/-- judged from 90 on -/
theorem hr70_90 {xs : List Int32} {n : Nat} {Q : hQ} {m : gx_M} {x2 s0 : Int}
    (h1 : (s0 ≠ 0) → hxn xs n yp_m70 63 [(0, .inr (.inl 0)), (2, .inl (gx_w (x2 + 1)))] [] m Q)
    (h2 : (s0 = 0) → Q (some (.inl x2)) m) : hxn xs (n + 1) yp_m70 90 [(0, .inr (.inl 0)), (2, .inl x2)] [.inl s0] m Q := by
  refine hx_ifs .ne 95 (by decide +kernel) (fun c1 => ?_) (fun c1 => ?_)
  · have c1 : s0 ≠ 0 := c1
    refine hx_blk (npc := 63) (L' := [(0, .inr (.inl 0)), (2, .inl (gx_w (x2 + 1)))]) (st' := []) (m' := m) [((95, .iinc 2 1, 3, 0, 0, 0, 0), (0, 0, 0)), ((98, .goto (-35), 3, 0, 0, 0, 0), (0, 0, 0))] (by decide +kernel) rfl ?_
    exact hx_pick [0, 2] (h1 c1)
  · have c1 : s0 = 0 := by have h : ¬ (s0 ≠ 0) := c1; omega
    refine hx_blk (npc := 94) (L' := [(0, .inr (.inl 0)), (2, .inl x2)]) (st' := [.inl x2]) (m' := m) [((93, .iload_n 2, 1, 0, 0, 0, 0), (0, 0, 0))] (by decide +kernel) rfl ?_
    exact hx_reti (by decide +kernel) (h2 c1)

/-- judged from 0 on -/
theorem hw211_0 {xs : List Int32} {n : Nat} {Q : hQ} {m : gx_M} {x1 : Int}
    (h1 : (1 ≤ x1 ∧ x1 ≤ 160) → (x1 ≤ (m 86 4)) → hxn xs n yp_m191 0 [(0, .inr (.inl 86)), (1, .inl x1)] [] m (fun r m' => hxn xs n yp_m211 26 [(0, .inr (.inl 86))] (hrs r ++ []) m' Q))
    (h2 : (1 ≤ x1 ∧ x1 ≤ 160) → ((m 86 4) < x1) → Q (some (.inl (-1))) m)
    (h3 : (¬ (1 ≤ x1 ∧ x1 ≤ 160)) → Q (some (.inl (-1))) m) : hxn xs (n + 1) yp_m211 0 [(0, .inr (.inl 86)), (1, .inl x1)] [] m Q := by
  refine hx_blks (npc := 5) (L' := [(0, .inr (.inl 86)), (1, .inl x1)]) (st' := [.inl 160, .inl 1, .inl x1]) (m' := m) ((0, .iload_n 1, 1, 0, 0, 0, 0), (0, 0, 0)) [((1, .iconst 1, 1, 0, 0, 0, 0), (0, 0, 0)), ((2, .sipush 160, 3, 0, 0, 0, 0), (0, 0, 0))] (by decide +kernel) rfl ?_
  refine hx_call (E := (5, .invokestatic 108, 3, 162, 0, 6023, 0)) (M' := yp_m162) [.inl x1, .inl 1, .inl 160] [] rfl (by decide +kernel) rfl ⟨rfl, rfl⟩ rfl rfl (hs162 (fun c1 => ?_) (fun c1 => ?_))
  · have c1 : 1 ≤ x1 ∧ x1 ≤ 160 := c1
    show hxn xs n yp_m211 8 [(0, .inr (.inl 86)), (1, .inl x1)] [.inl 1] m Q
    refine hx_if .eq 19 (by decide +kernel) (fun c2 => ?_) (fun c2 => ?_)
    · have c2 : (1 : Int) = 0 := c2
      exfalso; omega
    · have c2 : (1 : Int) ≠ 0 := c2
      refine hx_blk (npc := 16) (L' := [(0, .inr (.inl 86)), (1, .inl x1)]) (st' := [.inl (m 86 4), .inl x1]) (m' := m) [((11, .iload_n 1, 1, 0, 0, 0, 0), (0, 0, 0)), ((12, .aload_n 0, 1, 0, 0, 0, 0), (0, 0, 0)), ((13, .getfield 124, 3, 10, 4, 5117, 0), (0, 86, 0))] (by decide +kernel) rfl ?_
      refine hx_cmp .le 21 (by decide +kernel) (fun c2 => ?_) (fun c2 => ?_)
      · have c2 : x1 ≤ (m 86 4) := c2
        refine hx_blk (npc := 23) (L' := [(0, .inr (.inl 86)), (1, .inl x1)]) (st' := [.inl x1, .inr (.inl 86)]) (m' := m) [((21, .aload_n 0, 1, 0, 0, 0, 0), (0, 0, 0)), ((22, .iload_n 1, 1, 0, 0, 0, 0), (0, 0, 0))] (by decide +kernel) rfl ?_
        exact hx_call (E := (23, .invokevirtual 284, 3, 191, 0, 6136, 0)) (M' := yp_m191) [.inr (.inl 86), .inl x1] [] rfl (by decide +kernel) rfl ⟨rfl, rfl⟩ rfl rfl (hx_mono (h1 c1 c2) (fun r m' h' => hx_pick [0] h'))
      · have c2 : (m 86 4) < x1 := by have h : ¬ (x1 ≤ (m 86 4)) := c2; omega
        refine hx_blk (npc := 20) (L' := [(0, .inr (.inl 86)), (1, .inl x1)]) (st' := [.inl (-1)]) (m' := m) [((19, .iconst (-1), 1, 0, 0, 0, 0), (0, 0, 0))] (by decide +kernel) rfl ?_
        exact hx_reti (by decide +kernel) (h2 c1 c2)
  · have c1 : ¬ (1 ≤ x1 ∧ x1 ≤ 160) := c1
    show hxn xs n yp_m211 8 [(0, .inr (.inl 86)), (1, .inl x1)] [.inl 0] m Q
    refine hx_if .eq 19 (by decide +kernel) (fun c2 => ?_) (fun c2 => ?_)
    · have c2 : (0 : Int) = 0 := c2
      refine hx_blk (npc := 20) (L' := [(0, .inr (.inl 86)), (1, .inl x1)]) (st' := [.inl (-1)]) (m' := m) [((19, .iconst (-1), 1, 0, 0, 0, 0), (0, 0, 0))] (by decide +kernel) rfl ?_
      exact hx_reti (by decide +kernel) (h3 c1)
    · have c2 : (0 : Int) ≠ 0 := c2
      exfalso; omega

/-- judged from 26 on -/
theorem hw211_26 {xs : List Int32} {n : Nat} {Q : hQ} {m : gx_M} {s0 : Int}
    (h1 : (s0 ≠ 0) → hxn xs n yp_m212 0 [(0, .inr (.inl 87)), (1, .inr (.inl 88))] [] m (fun r m' => hxn xs n yp_m211 45 [(0, .inr (.inl 86))] (hrs r ++ []) m' Q))
    (h2 : (s0 = 0) → Q (some (.inl (m 86 7))) m) : hxn xs (n + 1) yp_m211 26 [(0, .inr (.inl 86))] [.inl s0] m Q := by
  refine hx_ifs .ne 34 (by decide +kernel) (fun c1 => ?_) (fun c1 => ?_)
  · have c1 : s0 ≠ 0 := c1
    refine hx_blk (npc := 42) (L' := [(0, .inr (.inl 86))]) (st' := [.inr (.inl 88), .inr (.inl 87)]) (m' := m) [((34, .aload_n 0, 1, 0, 0, 0, 0), (0, 0, 0)), ((35, .getfield 7, 3, 10, 0, 5113, 0), (1, 86, 87)), ((38, .aload_n 0, 1, 0, 0, 0, 0), (0, 0, 0)), ((39, .getfield 13, 3, 10, 1, 5114, 0), (1, 86, 88))] (by decide +kernel) rfl ?_
    exact hx_call (E := (42, .invokestatic 290, 3, 212, 0, 6217, 0)) (M' := yp_m212) [.inr (.inl 87), .inr (.inl 88)] [] rfl (by decide +kernel) rfl ⟨rfl, rfl⟩ rfl rfl (hx_mono (h1 c1) (fun r m' h' => hx_pick [0] h'))
  · have c1 : s0 = 0 := by have h : ¬ (s0 ≠ 0) := c1; omega
    refine hx_blk (npc := 33) (L' := [(0, .inr (.inl 86))]) (st' := [.inl (m 86 7)]) (m' := m) [((29, .aload_n 0, 1, 0, 0, 0, 0), (0, 0, 0)), ((30, .getfield 142, 3, 10, 7, 5120, 0), (0, 86, 0))] (by decide +kernel) rfl ?_
    exact hx_reti (by decide +kernel) (h2 c1)

/-- judged from 45 on -/
theorem hw211_45 {xs : List Int32} {n : Nat} {Q : hQ} {m : gx_M}
    (h1 : hxn xs n yp_m211 47 [(0, .inr (.inl 86)), (2, .inl 0)] [] m Q) : hxn xs (n + 1) yp_m211 45 [(0, .inr (.inl 86))] [] m Q := by
  refine hx_blks (npc := 47) (L' := [(0, .inr (.inl 86)), (2, .inl 0)]) (st' := []) (m' := m) ((45, .iconst 0, 1, 0, 0, 0, 0), (0, 0, 0)) [((46, .istore_n 2, 1, 0, 0, 0, 0), (0, 0, 0))] (by decide +kernel) rfl ?_
  exact hx_pick [0, 2] h1

/-- judged from 47 on -/
theorem hw211_47 {xs : List Int32} {n : Nat} {Q : hQ} {m : gx_M} {x2 : Int}
    (h1 : ((m 86 32) ≤ x2) → hxn xs n yp_m212 0 [(0, .inr (.inl 88)), (1, .inr (.inl 87))] [] m (fun r m' => hxn xs n yp_m211 81 [(2, .inl x2)] (hrs r ++ []) m' Q))
    (h2 : (x2 < (m 86 32)) → hxn xs n yp_m195 0 [(0, .inr (.inl 86)), (1, .inl x2)] [] m (fun r m' => hxn xs n yp_m211 60 [(0, .inr (.inl 86)), (2, .inl x2)] (hrs r ++ []) m' Q)) : hxn xs (n + 1) yp_m211 47 [(0, .inr (.inl 86)), (2, .inl x2)] [] m Q := by
  refine hx_blks (npc := 52) (L' := [(0, .inr (.inl 86)), (2, .inl x2)]) (st' := [.inl (m 86 32), .inl x2]) (m' := m) ((47, .iload_n 2, 1, 0, 0, 0, 0), (0, 0, 0)) [((48, .aload_n 0, 1, 0, 0, 0, 0), (0, 0, 0)), ((49, .getfield 254, 3, 10, 32, 5145, 0), (0, 86, 0))] (by decide +kernel) rfl ?_
  refine hx_cmp .ge 70 (by decide +kernel) (fun c1 => ?_) (fun c1 => ?_)
  · have c1 : (m 86 32) ≤ x2 := c1
    refine hx_blk (npc := 78) (L' := [(0, .inr (.inl 86)), (2, .inl x2)]) (st' := [.inr (.inl 87), .inr (.inl 88)]) (m' := m) [((70, .aload_n 0, 1, 0, 0, 0, 0), (0, 0, 0)), ((71, .getfield 13, 3, 10, 1, 5114, 0), (1, 86, 88)), ((74, .aload_n 0, 1, 0, 0, 0, 0), (0, 0, 0)), ((75, .getfield 7, 3, 10, 0, 5113, 0), (1, 86, 87))] (by decide +kernel) rfl ?_
    exact hx_call (E := (78, .invokestatic 290, 3, 212, 0, 6217, 0)) (M' := yp_m212) [.inr (.inl 88), .inr (.inl 87)] [] rfl (by decide +kernel) rfl ⟨rfl, rfl⟩ rfl rfl (hx_mono (h1 c1) (fun r m' h' => hx_pick [2] h'))
  · have c1 : x2 < (m 86 32) := by have h : ¬ ((m 86 32) ≤ x2) := c1; omega
    refine hx_blk (npc := 57) (L' := [(0, .inr (.inl 86)), (2, .inl x2)]) (st' := [.inl x2, .inr (.inl 86)]) (m' := m) [((55, .aload_n 0, 1, 0, 0, 0, 0), (0, 0, 0)), ((56, .iload_n 2, 1, 0, 0, 0, 0), (0, 0, 0))] (by decide +kernel) rfl ?_
    exact hx_call (E := (57, .invokevirtual 287, 3, 195, 0, 6152, 0)) (M' := yp_m195) [.inr (.inl 86), .inl x2] [] rfl (by decide +kernel) rfl ⟨rfl, rfl⟩ rfl rfl (hx_mono (h2 c1) (fun r m' h' => hx_pick [0, 2] h'))

/-- judged from 60 on -/
theorem hw211_60 {xs : List Int32} {n : Nat} {Q : hQ} {m : gx_M} {x2 s0 : Int}
    (h1 : (s0 = 0) → hxn xs n yp_m212 0 [(0, .inr (.inl 88)), (1, .inr (.inl 87))] [] m (fun r m' => hxn xs n yp_m211 81 [(2, .inl x2)] (hrs r ++ []) m' Q))
    (h2 : (s0 ≠ 0) → hxn xs n yp_m211 47 [(0, .inr (.inl 86)), (2, .inl (gx_w (x2 + 1)))] [] m Q) : hxn xs (n + 1) yp_m211 60 [(0, .inr (.inl 86)), (2, .inl x2)] [.inl s0] m Q := by
  refine hx_ifs .eq 70 (by decide +kernel) (fun c1 => ?_) (fun c1 => ?_)
  · have c1 : s0 = 0 := c1
    refine hx_blk (npc := 78) (L' := [(0, .inr (.inl 86)), (2, .inl x2)]) (st' := [.inr (.inl 87), .inr (.inl 88)]) (m' := m) [((70, .aload_n 0, 1, 0, 0, 0, 0), (0, 0, 0)), ((71, .getfield 13, 3, 10, 1, 5114, 0), (1, 86, 88)), ((74, .aload_n 0, 1, 0, 0, 0, 0), (0, 0, 0)), ((75, .getfield 7, 3, 10, 0, 5113, 0), (1, 86, 87))] (by decide +kernel) rfl ?_
    exact hx_call (E := (78, .invokestatic 290, 3, 212, 0, 6217, 0)) (M' := yp_m212) [.inr (.inl 88), .inr (.inl 87)] [] rfl (by decide +kernel) rfl ⟨rfl, rfl⟩ rfl rfl (hx_mono (h1 c1) (fun r m' h' => hx_pick [2] h'))
  · have c1 : s0 ≠ 0 := c1
    refine hx_blk (npc := 47) (L' := [(0, .inr (.inl 86)), (2, .inl (gx_w (x2 + 1)))]) (st' := []) (m' := m) [((63, .iload_n 2, 1, 0, 0, 0, 0), (0, 0, 0)), ((64, .iconst 1, 1, 0, 0, 0, 0), (0, 0, 0)), ((65, .iadd, 1, 0, 0, 0, 0), (0, 0, 0)), ((66, .istore_n 2, 1, 0, 0, 0, 0), (0, 0, 0)), ((67, .goto (-20), 3, 0, 0, 0, 0), (0, 0, 0))] (by decide +kernel) rfl ?_
    exact hx_pick [0, 2] (h2 c1)

/-- judged from 81 on -/
theorem hw211_81 {xs : List Int32} {n : Nat} {Q : hQ} {m : gx_M} {x2 : Int}
    (h1 : Q (some (.inl x2)) m) : hxn xs (n + 1) yp_m211 81 [(2, .inl x2)] [] m Q := by
  refine hx_blks (npc := 82) (L' := [(2, .inl x2)]) (st' := [.inl x2]) (m' := m) ((81, .iload_n 2, 1, 0, 0, 0, 0), (0, 0, 0)) [] (by decide +kernel) rfl ?_
  exact hx_reti (by decide +kernel) h1
end
section
/-! judged: by both -/
noncomputable def jF (W : (Int → Int) → Int → Option Int) (A : List hAct) : (Nat → Int) → Nat → Nat → Int
  | _, i, 0 => (i : Int)
  | s, i, d + 1 => match A[i]? with
    | some a => if (aSt W s a).2 = 1 then jF W A (aSt W s a).1 (i + 1) d else (i : Int)
    | none => (i : Int)
theorem jF_s {W : (Int → Int) → Int → Option Int} {A : List hAct} {s : Nat → Int} {i d : Nat} {a : hAct} (h : A[i]? = some a) : jF W A s i (d + 1) = if (aSt W s a).2 = 1 then jF W A (aSt W s a).1 (i + 1) d else (i : Int) := by
  show (match A[i]? with
    | some a => if (aSt W s a).2 = 1 then jF W A (aSt W s a).1 (i + 1) d else (i : Int)
    | none => (i : Int)) = _
  rw [h]
theorem jF_t {W : (Int → Int) → Int → Option Int} {A : List hAct} {s : Nat → Int} {i d : Nat} {a : hAct} (h : A[i]? = some a) (c : dCan W s a) : jF W A s i (d + 1) = jF W A (dDo s a) (i + 1) d := by
  rw [jF_s h, aSt_t c]
  exact if_pos rfl
theorem jF_f {W : (Int → Int) → Int → Option Int} {A : List hAct} {s : Nat → Int} {i d : Nat} {a : hAct} (h : A[i]? = some a) (c : ¬ dCan W s a) : jF W A s i (d + 1) = (i : Int) := by
  rw [jF_s h, aSt_f c]
  exact if_neg (show ¬ ((0 : Int) = 1) by decide)
section JU
variable {xs : List Int32} {n : Nat} {Q : hQ} {m m0 : gx_M} {W : (Int → Int) → Int → Option Int} {A : List hAct}
theorem c70l (hL : lawR xs W m0) (hA : cAc A m0) (ha : ∀ a ∈ A, aOK a) (h16 : A.length ≤ 16) : ∀ (d i : Nat) (s : Nat → Int), i + d = A.length → sOK s → ∀ m : gx_M, sBk 31 s m → cDf 31 m0 m → (∀ m', cDf 31 m0 m' → Q (some (.inl (jF W A s i d))) m') → hxn xs n yp_m70 63 [(0, .inr (.inl 0)), (2, .inl (i : Int))] [] m Q := by
  intro d
  induction d with
  | zero =>
    intro i s hi hs m hB hf h
    have hn := (cAc_f31 hf hA).1
    refine hx_dn (hr70_63 (fun _ => ?_) (fun c => absurd c (by omega)))
    rw [hn, ← (show i = A.length by omega)]
    exact h m hf
  | succ d ih =>
    intro i s hi hs m hB hf h
    have hA' := cAc_f31 hf hA
    have hn := hA'.1
    obtain ⟨a, hi'⟩ := la_some (A := A) (i := i) (by omega)
    refine hx_dn (hr70_63 (fun c => absurd c (by omega)) (fun _ => ?_))
    refine cd31_53 (lawR_c (cDf_L31 hf) hL) hA' hi' h16 (la_ok hi' ha) hs hB (fun c m1 f1 h1 => ?_) (fun c m1 f1 h1 => ?_)
    · rw [jF_t hi' c] at h
      refine hx_dn (hr70_90 (s0 := 1) (fun _ => ?_) (fun c => absurd c (by decide)))
      rw [ew_u (by omega)]
      exact ih (i + 1) (dDo s a) (by omega) (dDo_ok (la_ok hi' ha) hs c) m1 h1 (cDf_t hf f1) h
    · rw [jF_f hi' c] at h
      exact hx_dn (hr70_90 (s0 := 0) (fun c => absurd rfl c) (fun _ => h m1 (cDf_t hf f1)))
theorem r211l (hL : lawR xs W m0) (hA : rAc A m0) (ha : ∀ a ∈ A, aOK a) (h16 : A.length ≤ 16) : ∀ (d i : Nat) (m : gx_M), i + d = A.length → sOK (m 87) → rDf m0 m → (∀ m', rDf m0 m' → Q (some (.inl (jF W A (m 87) i d))) (hcopy m' 88 0 87 0 1131)) → hxn xs n yp_m211 47 [(0, .inr (.inl 86)), (2, .inl (i : Int))] [] m Q := by
  intro d
  induction d with
  | zero =>
    intro i m hi hs hf h
    have hn := (rAc_f hf hA).1
    exact hx_dn (hw211_47 (fun _ => hs212_88_87 (hx_dn (hw211_81 (h m hf)))) (fun c => absurd c (by omega)))
  | succ d ih =>
    intro i m hi hs hf h
    have hA' := rAc_f hf hA
    have hn := hA'.1
    obtain ⟨a, hi'⟩ := la_some (A := A) (i := i) (by omega)
    refine hx_dn (hw211_47 (fun c => absurd c (by omega)) (fun _ => ?_))
    refine r195 (lawR_c (rDf_L hf) hL) hA' hi' h16 (la_ok hi' ha) hs (fun c m1 f1 h1 => ?_) (fun c m1 f1 h1 => ?_)
    · rw [jF_t hi' c] at h
      refine hx_dn (hw211_60 (s0 := 1) (fun c => absurd c (by decide)) (fun _ => ?_))
      rw [ew_u (by omega)]
      exact ih (i + 1) m1 (by omega) (by rw [h1]; exact dDo_ok (la_ok hi' ha) hs c) (rDf_t hf f1) (by rw [h1]; exact h)
    · rw [jF_f hi' c] at h
      exact hx_dn (hw211_60 (s0 := 0) (fun _ => hs212_88_87 (hx_dn (hw211_81 (h m1 (rDf_t hf f1))))) (fun c => absurd rfl c))
theorem ww_judged {a : Int} (hT : hTp m) (hR : hWr xs m) : hxn xs n yp_m70 0 [(0, .inr (.inl 0)), (1, .inl a)] [] m (fun r1 m1 => hxn xs n yp_m211 0 [(0, .inr (.inl 86)), (1, .inl a)] [] m1 (fun r2 m2 => hWr xs m2 ∧ r2 = r1)) := by
  have hR' := hR
  obtain ⟨h1, h2, h3, h4, ⟨W, h5⟩, h6⟩ := hR
  obtain ⟨t1, t2, t3, t4⟩ := hT
  refine hx_dn (hr70_0 ?_)
  have bad : ¬ (1 ≤ a ∧ a ≤ 160 ∧ a ≤ m 1 1) → hxn xs n yp_m70 11 [(0, .inr (.inl 0)), (1, .inl a)] [.inl 0] m (fun r1 m1 => hxn xs n yp_m211 0 [(0, .inr (.inl 86)), (1, .inl a)] [] m1 (fun r2 m2 => hWr xs m2 ∧ r2 = r1)) := fun hN =>
    hx_dn (hr70_11 (s0 := 0) (fun c => absurd rfl c) (fun _ => hx_dn (hw211_0 (fun c1 c2 => absurd ⟨c1.1, c1.2, by omega⟩ hN) (fun _ _ => ⟨hR', rfl⟩) (fun _ => ⟨hR', rfl⟩))))
  refine hx_dn (hr23_0 (fun c => bad (by omega)) (fun _ c => bad (by omega)) (fun _ _ c => bad (by omega)) (fun c1 c2 c3 => ?_))
  obtain ⟨N, rfl⟩ : ∃ N : Nat, a = (N : Int) := ⟨a.toNat, by omega⟩
  refine hx_dn (hr70_11 (s0 := 1) (fun _ => ?_) (fun c => absurd c (by decide)))
  refine cs24 (by omega) (fun m1 x1 z1 f1 => ?_)
  refine hx_dn (hr70_28 ?_)
  refine c49 (by omega) x1 (fun v m2 hP => ?_)
  obtain ⟨hf, hP⟩ := hP
  have ff : ∀ c k, c ≠ 3 → c ≠ 4 → c ≠ 1 → (c < 61 ∨ 66 < c) → m2 c k = m c k := fun c k b1 b2 b3 b4 => by
    rw [hf c b4 b1]
    exact f1 c k b1 b2 (by omega)
  have eT : ∀ M : gx_M, (∀ k, M 90 k = m 90 k) → ∀ k, k < N → gx_and (M 90 k) 255 = m 2 k := fun M hM k hk => by
    rw [hM k]
    exact t4 k (by omega)
  have ok := fun B e => dAll_ok (T := m 2) (L := N) (d := 17) (p := 0) (A := []) (B := B) (Nat.zero_le _) (fun a ha => by cases ha) e
  cases hD : dAll (m 2) N 17 0 [] with
  | inr f =>
    rw [hD] at hP
    obtain ⟨rfl, e4⟩ := hP
    refine hx_dn (hr70_39 (s0 := 0) (fun c => absurd rfl c) (fun _ => ?_))
    rw [e4]
    refine hx_dn (hw211_0 (fun _ _ => ?_) (fun _ c => ?_) (fun c => absurd ⟨c1, c2⟩ c))
    · refine r191 (T := m 2) (by omega) (eT m2 (fun k => ff 90 k (by decide) (by decide) (by decide) (by decide))) (fun v m3 hP => ?_)
      rw [hD] at hP
      obtain ⟨g1, g2, rfl, g3⟩ := hP
      refine hx_dn (hw211_26 (s0 := 0) (fun c => absurd rfl c) (fun _ => ?_))
      rw [g3]
      refine ⟨hWr_c (m := m) (hPR_of (fun c k hc => ?_)) hR', rfl⟩
      rw [← ff c k (by omega) (by omega) (by omega) (by omega)]
      by_cases e : c = 86
      · subst e
        exact g1.2 k (by omega) (by omega) (by omega) (by omega) (by omega) (by omega)
      · exact congrFun (g1.1 c e (by omega)) k
    · rw [ff 86 4 (by decide) (by decide) (by decide) (by decide)] at c
      omega
  | inl A =>
    rw [hD] at hP
    obtain ⟨rfl, hA⟩ := hP
    obtain ⟨ha, l1, l16⟩ := ok A hD
    refine hx_dn (hr70_39 (s0 := 1) (fun _ => ?_) (fun c => absurd c (by decide)))
    refine hs71_31_5 (fun m3 hC => ?_)
    have kn := hCp31_f hC
    have hL2 : lawR xs W m2 := lawR_c (hPL_of (fun c k hc => ff c k (by omega) (by omega) (by omega) (by omega))) h5
    have hL3 : lawR xs W m3 := lawR_c (hPL_of (fun c k hc => by rw [kn c (by omega)])) hL2
    have hB2 : sBk 5 (m 87) m2 := sBk_c (fun c b1 b2 => funext (fun k => ff c k (by omega) (by omega) (by omega) (by omega))) h2
    have hA3 : cAc A m3 := by
      unfold cAc
      rw [kn 61 (by decide), kn 62 (by decide), kn 63 (by decide), kn 64 (by decide), kn 65 (by decide), kn 66 (by decide)]
      exact hA
    refine hx_dn (hr70_61 ?_)
    refine c70l hL3 hA3 ha l16 A.length 0 (m 87) (by omega) h1 m3 (sBk31_c hC hB2) (fun _ _ _ _ _ => rfl) (fun m4 f4 => ?_)
    have ff4 : ∀ c k, c ≠ 3 → c ≠ 4 → c ≠ 1 → (c < 31 ∨ (43 < c ∧ c < 61 ∧ c ≠ 51 ∧ ¬ (c = 44 ∧ 9 ≤ k ∧ k ≤ 11)) ∨ 66 < c) → m4 c k = m c k := fun c k b1 b2 b3 b4 => by
      rw [f4 c k (by omega) (by omega) (by omega), kn c (by omega)]
      exact ff c k b1 b2 b3 (by omega)
    have e87 : m4 87 = m 87 := funext (fun k => ff4 87 k (by decide) (by decide) (by decide) (by omega))
    have hL4 : lawR xs W m4 := lawR_c (hPL_of (fun c k hc => ff4 c k (by omega) (by omega) (by omega) (by omega))) h5
    refine hx_dn (hw211_0 (fun _ _ => ?_) (fun _ c => ?_) (fun c => absurd ⟨c1, c2⟩ c))
    · refine r191 (T := m 2) (by omega) (eT m4 (fun k => ff4 90 k (by decide) (by decide) (by decide) (by omega))) (fun v m5 hP => ?_)
      rw [hD] at hP
      obtain ⟨g1, g2, rfl, g3⟩ := hP
      have gg : ∀ c k, c ≠ 3 → c ≠ 4 → c ≠ 1 → (c < 31 ∨ (43 < c ∧ c < 61 ∧ c ≠ 51 ∧ ¬ (c = 44 ∧ 9 ≤ k ∧ k ≤ 11)) ∨ 66 < c) → (c < 104 ∨ 108 < c) → ¬ (c = 86 ∧ ((4 ≤ k ∧ k ≤ 8) ∨ k = 32)) → m5 c k = m c k := fun c k b1 b2 b3 b4 b5 b6 => by
        rw [← ff4 c k b1 b2 b3 b4]
        by_cases e : c = 86
        · subst e
          exact g1.2 k (by omega) (by omega) (by omega) (by omega) (by omega) (by omega)
        · exact congrFun (g1.1 c e b5) k
      have e87' : m5 87 = m 87 := funext (fun k => gg 87 k (by decide) (by decide) (by decide) (by omega) (by decide) (by omega))
      refine hx_dn (hw211_26 (s0 := 1) (fun _ => ?_) (fun c => absurd c (by decide)))
      refine hs212_87_88 ?_
      obtain ⟨M, hM⟩ : ∃ M, M = hcopy m5 87 0 88 0 1131 := ⟨_, rfl⟩
      rw [← hM]
      have gM : ∀ c k, c ≠ 88 → M c k = m5 c k := fun c k b => by rw [hM, hcopy_ne b]
      have g88 : ∀ k, k < 1131 → M 88 k = m 87 k := fun k hk => by rw [hM, hcopy_at hk, e87']
      have gM87 : M 87 = m 87 := (funext (fun k => gM 87 k (by decide))).trans e87'
      have hL6 : lawR xs W M := lawR_c (hPL_of (fun c k hc => by
        rw [gM c k (by omega)]
        exact gg c k (by omega) (by omega) (by omega) (by omega) (by omega) (by omega))) h5
      have hA6 : rAc A M := by
        have e : ∀ c, c ≠ 88 → M c = m5 c := fun c b => funext (fun k => gM c k b)
        unfold rAc
        rw [e 86 (by decide), e 104 (by decide), e 105 (by decide), e 106 (by decide), e 107 (by decide), e 108 (by decide)]
        exact g3
      refine hx_dn (hw211_45 ?_)
      refine r211l hL6 hA6 ha l16 A.length 0 M (by omega) (by rw [gM87]; exact h1) rDf_r (fun m7 f7 => ⟨?_, by rw [gM87]⟩)
      refine hWr_c (m := m) (hPR_of (fun c k hc => ?_)) hR'
      by_cases e : c = 87
      · subst e
        rw [hcopy_at (by omega), f7 88 (by decide) (by decide) (by decide)]
        exact g88 k (by omega)
      · rw [hcopy_ne e, f7 c e (by omega) (by omega), gM c k (by omega)]
        exact gg c k (by omega) (by omega) (by omega) (by omega) (by omega) (by omega)
    · rw [ff4 86 4 (by decide) (by decide) (by decide) (by omega)] at c
      omega
end JU
end
