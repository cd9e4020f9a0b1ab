/-! deals as the class does them: roads -/
/-- pawn from 0 on -/
theorem hr19_0 {xs : List Int32} {n : Nat} {Q : hQ} {m : gx_M} {x1 x2 x3 : Int}
    (h1 : (cYear 5 m x1) → Q none (gx_u (gx_u (gx_u m 13 (x1).toNat x2) 14 (x1).toNat x3) 15 (x1).toNat x3))
    (h2 : (¬ (cYear 5 m x1)) → Q none m) : hxn xs (n + 1) yp_m19 0 [(0, .inr (.inl 5)), (1, .inl x1), (2, .inl x2), (3, .inl x3)] [] m Q := by
  refine hx_blks (npc := 2) (L' := [(0, .inr (.inl 5)), (1, .inl x1), (2, .inl x2), (3, .inl x3)]) (st' := [.inl x1, .inr (.inl 5)]) (m' := m) ((0, .aload_n 0, 1, 0, 0, 0, 0), (0, 0, 0)) [((1, .iload_n 1, 1, 0, 0, 0, 0), (0, 0, 0))] (by decide +kernel) rfl ?_
  refine hx_call (E := (2, .invokevirtual 71, 3, 17, 0, 2188, 0)) (M' := yp_m17) [.inr (.inl 5), .inl x1] [] rfl (by decide +kernel) rfl ⟨rfl, rfl⟩ rfl rfl (hs17_5 (fun c1 => ?_) (fun c1 => ?_))
  · have c1 : cYear 5 m x1 := c1
    show hxn xs n yp_m19 5 [(0, .inr (.inl 5)), (1, .inl x1), (2, .inl x2), (3, .inl x3)] [.inl 1] m Q
    refine hx_if .ne 9 (by decide +kernel) (fun c2 => ?_) (fun c2 => ?_)
    · have c2 : (1 : Int) ≠ 0 := c2
      refine hx_blk (npc := 30) (L' := [(0, .inr (.inl 5)), (1, .inl x1), (2, .inl x2), (3, .inl x3)]) (st' := []) (m' := (gx_u (gx_u (gx_u m 13 (x1).toNat x2) 14 (x1).toNat x3) 15 (x1).toNat x3)) [((9, .aload_n 0, 1, 0, 0, 0, 0), (0, 0, 0)), ((10, .getfield 37, 3, 2, 12, 1119, 0), (1, 5, 13)), ((13, .iload_n 1, 1, 0, 0, 0, 0), (0, 0, 0)), ((14, .iload_n 2, 1, 0, 0, 0, 0), (0, 0, 0)), ((15, .iastore, 1, 0, 0, 0, 0), (0, 13, 0)), ((16, .aload_n 0, 1, 0, 0, 0, 0), (0, 0, 0)), ((17, .getfield 40, 3, 2, 13, 1124, 0), (1, 5, 14)), ((20, .iload_n 1, 1, 0, 0, 0, 0), (0, 0, 0)), ((21, .iload_n 3, 1, 0, 0, 0, 0), (0, 0, 0)), ((22, .iastore, 1, 0, 0, 0, 0), (0, 14, 0)), ((23, .aload_n 0, 1, 0, 0, 0, 0), (0, 0, 0)), ((24, .getfield 43, 3, 2, 14, 1127, 0), (1, 5, 15)), ((27, .iload_n 1, 1, 0, 0, 0, 0), (0, 0, 0)), ((28, .iload_n 3, 1, 0, 0, 0, 0), (0, 0, 0)), ((29, .iastore, 1, 0, 0, 0, 0), (0, 15, 0))] (by decide +kernel) rfl ?_
      exact hx_ret0 (by decide +kernel) (h1 c1)
    · have c2 : (1 : Int) = 0 := by have h : ¬ ((1 : Int) ≠ 0) := c2; omega
      exfalso; omega
  · have c1 : ¬ (cYear 5 m x1) := c1
    show hxn xs n yp_m19 5 [(0, .inr (.inl 5)), (1, .inl x1), (2, .inl x2), (3, .inl x3)] [.inl 0] m Q
    refine hx_if .ne 9 (by decide +kernel) (fun c2 => ?_) (fun c2 => ?_)
    · have c2 : (0 : Int) ≠ 0 := c2
      exfalso; omega
    · have c2 : (0 : Int) = 0 := by have h : ¬ ((0 : Int) ≠ 0) := c2; omega
      exact hx_ret0 (by decide +kernel) (h2 c1)

/-- free from 0 on -/
theorem hr18_0 {xs : List Int32} {n : Nat} {Q : hQ} {m : gx_M} {x1 : Int}
    (h1 : hxn xs n yp_m19 0 [(0, .inr (.inl 5)), (1, .inl x1), (2, .inl (-2)), (3, .inl 0)] [] m (fun r m' => hxn xs n yp_m18 8 [] (hrs r ++ []) m' Q)) : hxn xs (n + 1) yp_m18 0 [(0, .inr (.inl 5)), (1, .inl x1)] [] m Q := by
  refine hx_blks (npc := 5) (L' := [(0, .inr (.inl 5)), (1, .inl x1)]) (st' := [.inl 0, .inl (-2), .inl x1, .inr (.inl 5)]) (m' := m) ((0, .aload_n 0, 1, 0, 0, 0, 0), (0, 0, 0)) [((1, .iload_n 1, 1, 0, 0, 0, 0), (0, 0, 0)), ((2, .bipush (-2), 2, 0, 0, 0, 0), (0, 0, 0)), ((4, .iconst 0, 1, 0, 0, 0, 0), (0, 0, 0))] (by decide +kernel) rfl ?_
  exact hx_call (E := (5, .invokevirtual 85, 3, 19, 0, 2196, 0)) (M' := yp_m19) [.inr (.inl 5), .inl x1, .inl (-2), .inl 0] [] rfl (by decide +kernel) rfl ⟨rfl, rfl⟩ rfl rfl (hx_mono h1 (fun r m' h' => hx_pick [] h'))

/-- free from 8 on -/
theorem hr18_8 {xs : List Int32} {n : Nat} {Q : hQ} {m : gx_M}
    (h1 : Q none m) : hxn xs (n + 1) yp_m18 8 [] [] m Q := by
  exact hx_ret0 (by decide +kernel) h1

/-- give from 0 on -/
theorem hr16_0 {xs : List Int32} {n : Nat} {Q : hQ} {m : gx_M} {x1 x2 : Int}
    (h1 : (cYear 5 m x1) → hxn xs n yp_m18 0 [(0, .inr (.inl 5)), (1, .inl x1)] [] (gx_u m 12 (x1).toNat x2) (fun r m' => hxn xs n yp_m16 21 [(0, .inr (.inl 5)), (1, .inl x1), (2, .inl x2)] (hrs r ++ []) m' Q))
    (h2 : (¬ (cYear 5 m x1)) → Q none m) : hxn xs (n + 1) yp_m16 0 [(0, .inr (.inl 5)), (1, .inl x1), (2, .inl x2)] [] m Q := by
  refine hx_blks (npc := 2) (L' := [(0, .inr (.inl 5)), (1, .inl x1), (2, .inl x2)]) (st' := [.inl x1, .inr (.inl 5)]) (m' := m) ((0, .aload_n 0, 1, 0, 0, 0, 0), (0, 0, 0)) [((1, .iload_n 1, 1, 0, 0, 0, 0), (0, 0, 0))] (by decide +kernel) rfl ?_
  refine hx_call (E := (2, .invokevirtual 71, 3, 17, 0, 2188, 0)) (M' := yp_m17) [.inr (.inl 5), .inl x1] [] rfl (by decide +kernel) rfl ⟨rfl, rfl⟩ rfl rfl (hs17_5 (fun c1 => ?_) (fun c1 => ?_))
  · have c1 : cYear 5 m x1 := c1
    show hxn xs n yp_m16 5 [(0, .inr (.inl 5)), (1, .inl x1), (2, .inl x2)] [.inl 1] m Q
    refine hx_if .ne 9 (by decide +kernel) (fun c2 => ?_) (fun c2 => ?_)
    · have c2 : (1 : Int) ≠ 0 := c2
      refine hx_blk (npc := 18) (L' := [(0, .inr (.inl 5)), (1, .inl x1), (2, .inl x2)]) (st' := [.inl x1, .inr (.inl 5)]) (m' := (gx_u m 12 (x1).toNat x2)) [((9, .aload_n 0, 1, 0, 0, 0, 0), (0, 0, 0)), ((10, .getfield 34, 3, 2, 11, 1111, 0), (1, 5, 12)), ((13, .iload_n 1, 1, 0, 0, 0, 0), (0, 0, 0)), ((14, .iload_n 2, 1, 0, 0, 0, 0), (0, 0, 0)), ((15, .iastore, 1, 0, 0, 0, 0), (0, 12, 0)), ((16, .aload_n 0, 1, 0, 0, 0, 0), (0, 0, 0)), ((17, .iload_n 1, 1, 0, 0, 0, 0), (0, 0, 0))] (by decide +kernel) rfl ?_
      exact hx_call (E := (18, .invokevirtual 81, 3, 18, 0, 2192, 0)) (M' := yp_m18) [.inr (.inl 5), .inl x1] [] rfl (by decide +kernel) rfl ⟨rfl, rfl⟩ rfl rfl (hx_mono (h1 c1) (fun r m' h' => hx_pick [0, 1, 2] h'))
    · have c2 : (1 : Int) = 0 := by have h : ¬ ((1 : Int) ≠ 0) := c2; omega
      exfalso; omega
  · have c1 : ¬ (cYear 5 m x1) := c1
    show hxn xs n yp_m16 5 [(0, .inr (.inl 5)), (1, .inl x1), (2, .inl x2)] [.inl 0] m Q
    refine hx_if .ne 9 (by decide +kernel) (fun c2 => ?_) (fun c2 => ?_)
    · have c2 : (0 : Int) ≠ 0 := c2
      exfalso; omega
    · have c2 : (0 : Int) = 0 := by have h : ¬ ((0 : Int) ≠ 0) := c2; omega
      exact hx_ret0 (by decide +kernel) (h2 c1)

/-- give from 21 on -/
theorem hr16_21 {xs : List Int32} {n : Nat} {Q : hQ} {m : gx_M} {x1 x2 : Int}
    (h1 : ((m 16 (x1).toNat) < 0) → Q none m)
    (h2 : (0 ≤ (m 16 (x1).toNat)) → ((m 16 (x1).toNat) < 16) → Q none (gx_u (gx_u m 17 (gx_w ((gx_w (x1 * 16)) + (m 16 (x1).toNat))).toNat x2) 16 (x1).toNat ((m 16 (x1).toNat) + 1)))
    (h3 : (0 ≤ (m 16 (x1).toNat)) → (16 ≤ (m 16 (x1).toNat)) → Q none m) : hxn xs (n + 1) yp_m16 21 [(0, .inr (.inl 5)), (1, .inl x1), (2, .inl x2)] [] m Q := by
  refine hx_blks (npc := 29) (L' := [(0, .inr (.inl 5)), (1, .inl x1), (2, .inl x2), (3, .inl (m 16 (x1).toNat))]) (st' := [.inl (m 16 (x1).toNat)]) (m' := m) ((21, .aload_n 0, 1, 0, 0, 0, 0), (0, 0, 0)) [((22, .getfield 46, 3, 2, 15, 1131, 0), (1, 5, 16)), ((25, .iload_n 1, 1, 0, 0, 0, 0), (0, 0, 0)), ((26, .iaload, 1, 0, 0, 0, 0), (0, 16, 0)), ((27, .istore_n 3, 1, 0, 0, 0, 0), (0, 0, 0)), ((28, .iload_n 3, 1, 0, 0, 0, 0), (0, 0, 0))] (by decide +kernel) rfl ?_
  refine hx_if .lt 38 (by decide +kernel) (fun c1 => ?_) (fun c1 => ?_)
  · have c1 : (m 16 (x1).toNat) < 0 := c1
    exact hx_ret0 (by decide +kernel) (h1 c1)
  · have c1 : 0 ≤ (m 16 (x1).toNat) := by have h : ¬ ((m 16 (x1).toNat) < 0) := c1; omega
    refine hx_blk (npc := 35) (L' := [(0, .inr (.inl 5)), (1, .inl x1), (2, .inl x2), (3, .inl (m 16 (x1).toNat))]) (st' := [.inl 16, .inl (m 16 (x1).toNat)]) (m' := m) [((32, .iload_n 3, 1, 0, 0, 0, 0), (0, 0, 0)), ((33, .bipush 16, 2, 0, 0, 0, 0), (0, 0, 0))] (by decide +kernel) rfl ?_
    refine hx_cmp .lt 39 (by decide +kernel) (fun c2 => ?_) (fun c2 => ?_)
    · have c2 : (m 16 (x1).toNat) < 16 := c2
      have e1 : gx_w ((m 16 (x1).toNat) + 1) = (m 16 (x1).toNat) + 1 := gx_w_id (by omega) (by omega)
      refine hx_blk (npc := 60) (L' := [(0, .inr (.inl 5)), (1, .inl x1), (2, .inl x2), (3, .inl (m 16 (x1).toNat))]) (st' := []) (m' := (gx_u (gx_u m 17 (gx_w ((gx_w (x1 * 16)) + (m 16 (x1).toNat))).toNat x2) 16 (x1).toNat (gx_w ((m 16 (x1).toNat) + 1)))) [((39, .aload_n 0, 1, 0, 0, 0, 0), (0, 0, 0)), ((40, .getfield 49, 3, 2, 16, 1136, 0), (1, 5, 17)), ((43, .iload_n 1, 1, 0, 0, 0, 0), (0, 0, 0)), ((44, .bipush 16, 2, 0, 0, 0, 0), (0, 0, 0)), ((46, .imul, 1, 0, 0, 0, 0), (0, 0, 0)), ((47, .iload_n 3, 1, 0, 0, 0, 0), (0, 0, 0)), ((48, .iadd, 1, 0, 0, 0, 0), (0, 0, 0)), ((49, .iload_n 2, 1, 0, 0, 0, 0), (0, 0, 0)), ((50, .iastore, 1, 0, 0, 0, 0), (0, 17, 0)), ((51, .aload_n 0, 1, 0, 0, 0, 0), (0, 0, 0)), ((52, .getfield 46, 3, 2, 15, 1131, 0), (1, 5, 16)), ((55, .iload_n 1, 1, 0, 0, 0, 0), (0, 0, 0)), ((56, .iload_n 3, 1, 0, 0, 0, 0), (0, 0, 0)), ((57, .iconst 1, 1, 0, 0, 0, 0), (0, 0, 0)), ((58, .iadd, 1, 0, 0, 0, 0), (0, 0, 0)), ((59, .iastore, 1, 0, 0, 0, 0), (0, 16, 0))] (by decide +kernel) rfl ?_
      rw [e1]
      exact hx_ret0 (by decide +kernel) (h2 c1 c2)
    · have c2 : 16 ≤ (m 16 (x1).toNat) := by have h : ¬ ((m 16 (x1).toNat) < 16) := c2; omega
      exact hx_ret0 (by decide +kernel) (h3 c1 c2)

/-- earn from 0 on -/
theorem hr69_0 {xs : List Int32} {n : Nat} {Q : hQ} {m : gx_M} {x1 x2 : Int}
    (h1 : (cPers 5 m x1) → Q none (gx_u m 6 (x1).toNat (if (gx_w ((m 6 (x1).toNat) + x2)) < 99999 then (gx_w ((m 6 (x1).toNat) + x2)) else 99999)))
    (h2 : (¬ (cPers 5 m x1)) → Q none m) : hxn xs (n + 1) yp_m69 0 [(0, .inr (.inl 5)), (1, .inl x1), (2, .inl x2)] [] m Q := by
  refine hx_blks (npc := 2) (L' := [(0, .inr (.inl 5)), (1, .inl x1), (2, .inl x2)]) (st' := [.inl x1, .inr (.inl 5)]) (m' := m) ((0, .aload_n 0, 1, 0, 0, 0, 0), (0, 0, 0)) [((1, .iload_n 1, 1, 0, 0, 0, 0), (0, 0, 0))] (by decide +kernel) rfl ?_
  refine hx_call (E := (2, .invokevirtual 89, 3, 13, 0, 3179, 0)) (M' := yp_m13) [.inr (.inl 5), .inl x1] [] rfl (by decide +kernel) rfl ⟨rfl, rfl⟩ rfl rfl (hs13_5 (fun c1 => ?_) (fun c1 => ?_))
  · have c1 : cPers 5 m x1 := c1
    show hxn xs n yp_m69 5 [(0, .inr (.inl 5)), (1, .inl x1), (2, .inl x2)] [.inl 1] m Q
    refine hx_if .eq 27 (by decide +kernel) (fun c2 => ?_) (fun c2 => ?_)
    · have c2 : (1 : Int) = 0 := c2
      exfalso; omega
    · have c2 : (1 : Int) ≠ 0 := c2
      refine hx_blk (npc := 27) (L' := [(0, .inr (.inl 5)), (1, .inl x1), (2, .inl x2)]) (st' := []) (m' := (gx_u m 6 (x1).toNat (if (gx_w ((m 6 (x1).toNat) + x2)) < 99999 then (gx_w ((m 6 (x1).toNat) + x2)) else 99999))) [((8, .aload_n 0, 1, 0, 0, 0, 0), (0, 0, 0)), ((9, .getfield 15, 3, 2, 5, 1089, 0), (1, 5, 6)), ((12, .iload_n 1, 1, 0, 0, 0, 0), (0, 0, 0)), ((13, .ldc 92, 2, 0, 0, 3184, 99999), (0, 0, 0)), ((15, .aload_n 0, 1, 0, 0, 0, 0), (0, 0, 0)), ((16, .getfield 15, 3, 2, 5, 1089, 0), (1, 5, 6)), ((19, .iload_n 1, 1, 0, 0, 0, 0), (0, 0, 0)), ((20, .iaload, 1, 0, 0, 0, 0), (0, 6, 0)), ((21, .iload_n 2, 1, 0, 0, 0, 0), (0, 0, 0)), ((22, .iadd, 1, 0, 0, 0, 0), (0, 0, 0)), ((23, .invokestatic 93, 3, 1003, 2221, 3185, 1013002222), (0, 0, 0)), ((26, .iastore, 1, 0, 0, 0, 0), (0, 6, 0))] (by decide +kernel) rfl ?_
      exact hx_ret0 (by decide +kernel) (h1 c1)
  · have c1 : ¬ (cPers 5 m x1) := c1
    show hxn xs n yp_m69 5 [(0, .inr (.inl 5)), (1, .inl x1), (2, .inl x2)] [.inl 0] m Q
    refine hx_if .eq 27 (by decide +kernel) (fun c2 => ?_) (fun c2 => ?_)
    · have c2 : (0 : Int) = 0 := c2
      exact hx_ret0 (by decide +kernel) (h2 c1)
    · have c2 : (0 : Int) ≠ 0 := c2
      exfalso; omega

/-- pay from 0 on -/
theorem hr68_0 {xs : List Int32} {n : Nat} {Q : hQ} {m : gx_M} {x1 x2 x3 : Int}
    (h1 : (cPers 5 m x1) → hxn xs n yp_m69 0 [(0, .inr (.inl 5)), (1, .inl x2), (2, .inl x3)] [] (gx_u m 6 (x1).toNat (gx_w ((m 6 (x1).toNat) - x3))) (fun r m' => hxn xs n yp_m68 25 [] (hrs r ++ []) m' Q))
    (h2 : (¬ (cPers 5 m x1)) → Q none m) : hxn xs (n + 1) yp_m68 0 [(0, .inr (.inl 5)), (1, .inl x1), (2, .inl x2), (3, .inl x3)] [] m Q := by
  refine hx_blks (npc := 2) (L' := [(0, .inr (.inl 5)), (1, .inl x1), (2, .inl x2), (3, .inl x3)]) (st' := [.inl x1, .inr (.inl 5)]) (m' := m) ((0, .aload_n 0, 1, 0, 0, 0, 0), (0, 0, 0)) [((1, .iload_n 1, 1, 0, 0, 0, 0), (0, 0, 0))] (by decide +kernel) rfl ?_
  refine hx_call (E := (2, .invokevirtual 89, 3, 13, 0, 3179, 0)) (M' := yp_m13) [.inr (.inl 5), .inl x1] [] rfl (by decide +kernel) rfl ⟨rfl, rfl⟩ rfl rfl (hs13_5 (fun c1 => ?_) (fun c1 => ?_))
  · have c1 : cPers 5 m x1 := c1
    show hxn xs n yp_m68 5 [(0, .inr (.inl 5)), (1, .inl x1), (2, .inl x2), (3, .inl x3)] [.inl 1] m Q
    refine hx_if .ne 9 (by decide +kernel) (fun c2 => ?_) (fun c2 => ?_)
    · have c2 : (1 : Int) ≠ 0 := c2
      refine hx_blk (npc := 22) (L' := [(0, .inr (.inl 5)), (1, .inl x1), (2, .inl x2), (3, .inl x3)]) (st' := [.inl x3, .inl x2, .inr (.inl 5)]) (m' := (gx_u m 6 (x1).toNat (gx_w ((m 6 (x1).toNat) - x3)))) [((9, .aload_n 0, 1, 0, 0, 0, 0), (0, 0, 0)), ((10, .getfield 15, 3, 2, 5, 1089, 0), (1, 5, 6)), ((13, .iload_n 1, 1, 0, 0, 0, 0), (0, 0, 0)), ((14, .dup2, 1, 0, 0, 0, 0), (0, 0, 0)), ((15, .iaload, 1, 0, 0, 0, 0), (0, 6, 0)), ((16, .iload_n 3, 1, 0, 0, 0, 0), (0, 0, 0)), ((17, .isub, 1, 0, 0, 0, 0), (0, 0, 0)), ((18, .iastore, 1, 0, 0, 0, 0), (0, 6, 0)), ((19, .aload_n 0, 1, 0, 0, 0, 0), (0, 0, 0)), ((20, .iload_n 2, 1, 0, 0, 0, 0), (0, 0, 0)), ((21, .iload_n 3, 1, 0, 0, 0, 0), (0, 0, 0))] (by decide +kernel) rfl ?_
      exact hx_call (E := (22, .invokevirtual 99, 3, 69, 0, 3180, 0)) (M' := yp_m69) [.inr (.inl 5), .inl x2, .inl x3] [] rfl (by decide +kernel) rfl ⟨rfl, rfl⟩ rfl rfl (hx_mono (h1 c1) (fun r m' h' => hx_pick [] h'))
    · have c2 : (1 : Int) = 0 := by have h : ¬ ((1 : Int) ≠ 0) := c2; omega
      exfalso; omega
  · have c1 : ¬ (cPers 5 m x1) := c1
    show hxn xs n yp_m68 5 [(0, .inr (.inl 5)), (1, .inl x1), (2, .inl x2), (3, .inl x3)] [.inl 0] m Q
    refine hx_if .ne 9 (by decide +kernel) (fun c2 => ?_) (fun c2 => ?_)
    · have c2 : (0 : Int) ≠ 0 := c2
      exfalso; omega
    · have c2 : (0 : Int) = 0 := by have h : ¬ ((0 : Int) ≠ 0) := c2; omega
      exact hx_ret0 (by decide +kernel) (h2 c1)

/-- pay from 25 on -/
theorem hr68_25 {xs : List Int32} {n : Nat} {Q : hQ} {m : gx_M}
    (h1 : Q none m) : hxn xs (n + 1) yp_m68 25 [] [] m Q := by
  exact hx_ret0 (by decide +kernel) h1

/-- carryOut from 0 on -/
theorem hr67_0 {xs : List Int32} {n : Nat} {Q : hQ} {m : gx_M} {x2 : Int}
    (h1 : (x2 < 0) → Q none m)
    (h2 : (0 ≤ x2) → (16 ≤ x2) → Q none m)
    (h3 : (0 ≤ x2) → (x2 < 16) → (cYear 5 m (m 62 (x2).toNat)) → ((m 64 (x2).toNat) ≠ 91) → hxn xs n yp_m68 0 [(0, .inr (.inl 5)), (1, .inl (m 65 (x2).toNat)), (2, .inl (m 63 (x2).toNat)), (3, .inl (m 66 (x2).toNat))] [] m (fun r m' => hxn xs n yp_m67 92 [(0, .inr (.inl 61)), (1, .inr (.inl 5)), (2, .inl x2), (3, .inl (m 62 (x2).toNat)), (5, .inl (m 65 (x2).toNat))] (hrs r ++ []) m' Q))
    (h4 : (0 ≤ x2) → (x2 < 16) → (cYear 5 m (m 62 (x2).toNat)) → ((m 64 (x2).toNat) = 91) → hxn xs n yp_m68 0 [(0, .inr (.inl 5)), (1, .inl (m 63 (x2).toNat)), (2, .inl (m 65 (x2).toNat)), (3, .inl (m 15 (m 62 (x2).toNat).toNat))] [] m (fun r m' => hxn xs n yp_m67 72 [(1, .inr (.inl 5)), (3, .inl (m 62 (x2).toNat))] (hrs r ++ []) m' Q))
    (h5 : (0 ≤ x2) → (x2 < 16) → (¬ (cYear 5 m (m 62 (x2).toNat))) → Q none m) : hxn xs (n + 1) yp_m67 0 [(0, .inr (.inl 61)), (1, .inr (.inl 5)), (2, .inl x2)] [] m Q := by
  refine hx_blks (npc := 1) (L' := [(0, .inr (.inl 61)), (1, .inr (.inl 5)), (2, .inl x2)]) (st' := [.inl x2]) (m' := m) ((0, .iload_n 2, 1, 0, 0, 0, 0), (0, 0, 0)) [] (by decide +kernel) rfl ?_
  refine hx_if .lt 23 (by decide +kernel) (fun c1 => ?_) (fun c1 => ?_)
  · have c1 : x2 < 0 := c1
    exact hx_ret0 (by decide +kernel) (h1 c1)
  · have c1 : 0 ≤ x2 := by have h : ¬ (x2 < 0) := c1; omega
    refine hx_blk (npc := 7) (L' := [(0, .inr (.inl 61)), (1, .inr (.inl 5)), (2, .inl x2)]) (st' := [.inl 16, .inl x2]) (m' := m) [((4, .iload_n 2, 1, 0, 0, 0, 0), (0, 0, 0)), ((5, .bipush 16, 2, 0, 0, 0, 0), (0, 0, 0))] (by decide +kernel) rfl ?_
    refine hx_cmp .ge 23 (by decide +kernel) (fun c2 => ?_) (fun c2 => ?_)
    · have c2 : 16 ≤ x2 := c2
      exact hx_ret0 (by decide +kernel) (h2 c1 c2)
    · have c2 : x2 < 16 := by have h : ¬ (16 ≤ x2) := c2; omega
      refine hx_blk (npc := 17) (L' := [(0, .inr (.inl 61)), (1, .inr (.inl 5)), (2, .inl x2)]) (st' := [.inl (m 62 (x2).toNat), .inr (.inl 5)]) (m' := m) [((10, .aload_n 1, 1, 0, 0, 0, 0), (0, 0, 0)), ((11, .aload_n 0, 1, 0, 0, 0, 0), (0, 0, 0)), ((12, .getfield 9, 3, 5, 0, 1237, 0), (1, 61, 62)), ((15, .iload_n 2, 1, 0, 0, 0, 0), (0, 0, 0)), ((16, .iaload, 1, 0, 0, 0, 0), (0, 62, 0))] (by decide +kernel) rfl ?_
      refine hx_call (E := (17, .invokevirtual 79, 3, 17, 0, 3117, 0)) (M' := yp_m17) [.inr (.inl 5), .inl (m 62 (x2).toNat)] [] rfl (by decide +kernel) rfl ⟨rfl, rfl⟩ rfl rfl (hs17_5 (fun c3 => ?_) (fun c3 => ?_))
      · have c3 : cYear 5 m (m 62 (x2).toNat) := c3
        show hxn xs n yp_m67 20 [(0, .inr (.inl 61)), (1, .inr (.inl 5)), (2, .inl x2)] [.inl 1] m Q
        refine hx_if .ne 24 (by decide +kernel) (fun c4 => ?_) (fun c4 => ?_)
        · have c4 : (1 : Int) ≠ 0 := c4
          refine hx_blk (npc := 55) (L' := [(0, .inr (.inl 61)), (1, .inr (.inl 5)), (2, .inl x2), (3, .inl (m 62 (x2).toNat)), (4, .inl (m 63 (x2).toNat)), (5, .inl (m 65 (x2).toNat))]) (st' := [.inl 91, .inl (m 64 (x2).toNat)]) (m' := m) [((24, .aload_n 0, 1, 0, 0, 0, 0), (0, 0, 0)), ((25, .getfield 9, 3, 5, 0, 1237, 0), (1, 61, 62)), ((28, .iload_n 2, 1, 0, 0, 0, 0), (0, 0, 0)), ((29, .iaload, 1, 0, 0, 0, 0), (0, 62, 0)), ((30, .istore_n 3, 1, 0, 0, 0, 0), (0, 0, 0)), ((31, .aload_n 0, 1, 0, 0, 0, 0), (0, 0, 0)), ((32, .getfield 15, 3, 5, 1, 1238, 0), (1, 61, 63)), ((35, .iload_n 2, 1, 0, 0, 0, 0), (0, 0, 0)), ((36, .iaload, 1, 0, 0, 0, 0), (0, 63, 0)), ((37, .istore 4, 2, 0, 0, 0, 0), (0, 0, 0)), ((39, .aload_n 0, 1, 0, 0, 0, 0), (0, 0, 0)), ((40, .getfield 21, 3, 5, 3, 2000, 0), (1, 61, 65)), ((43, .iload_n 2, 1, 0, 0, 0, 0), (0, 0, 0)), ((44, .iaload, 1, 0, 0, 0, 0), (0, 65, 0)), ((45, .istore 5, 2, 0, 0, 0, 0), (0, 0, 0)), ((47, .aload_n 0, 1, 0, 0, 0, 0), (0, 0, 0)), ((48, .getfield 18, 3, 5, 2, 1239, 0), (1, 61, 64)), ((51, .iload_n 2, 1, 0, 0, 0, 0), (0, 0, 0)), ((52, .iaload, 1, 0, 0, 0, 0), (0, 64, 0)), ((53, .bipush 91, 2, 0, 0, 0, 0), (0, 0, 0))] (by decide +kernel) rfl ?_
          refine hx_cmp .ne 78 (by decide +kernel) (fun c4 => ?_) (fun c4 => ?_)
          · have c4 : (m 64 (x2).toNat) ≠ 91 := c4
            refine hx_blk (npc := 89) (L' := [(0, .inr (.inl 61)), (1, .inr (.inl 5)), (2, .inl x2), (3, .inl (m 62 (x2).toNat)), (4, .inl (m 63 (x2).toNat)), (5, .inl (m 65 (x2).toNat))]) (st' := [.inl (m 66 (x2).toNat), .inl (m 63 (x2).toNat), .inl (m 65 (x2).toNat), .inr (.inl 5)]) (m' := m) [((78, .aload_n 1, 1, 0, 0, 0, 0), (0, 0, 0)), ((79, .iload 5, 2, 0, 0, 0, 0), (0, 0, 0)), ((81, .iload 4, 2, 0, 0, 0, 0), (0, 0, 0)), ((83, .aload_n 0, 1, 0, 0, 0, 0), (0, 0, 0)), ((84, .getfield 24, 3, 5, 4, 2001, 0), (1, 61, 66)), ((87, .iload_n 2, 1, 0, 0, 0, 0), (0, 0, 0)), ((88, .iaload, 1, 0, 0, 0, 0), (0, 66, 0))] (by decide +kernel) rfl ?_
            exact hx_call (E := (89, .invokevirtual 113, 3, 68, 0, 3175, 0)) (M' := yp_m68) [.inr (.inl 5), .inl (m 65 (x2).toNat), .inl (m 63 (x2).toNat), .inl (m 66 (x2).toNat)] [] rfl (by decide +kernel) rfl ⟨rfl, rfl⟩ rfl rfl (hx_mono (h3 c1 c2 c3 c4) (fun r m' h' => hx_pick [0, 1, 2, 3, 5] h'))
          · have c4 : (m 64 (x2).toNat) = 91 := by have h : ¬ ((m 64 (x2).toNat) ≠ 91) := c4; omega
            refine hx_blk (npc := 69) (L' := [(0, .inr (.inl 61)), (1, .inr (.inl 5)), (2, .inl x2), (3, .inl (m 62 (x2).toNat)), (4, .inl (m 63 (x2).toNat)), (5, .inl (m 65 (x2).toNat))]) (st' := [.inl (m 15 (m 62 (x2).toNat).toNat), .inl (m 65 (x2).toNat), .inl (m 63 (x2).toNat), .inr (.inl 5)]) (m' := m) [((58, .aload_n 1, 1, 0, 0, 0, 0), (0, 0, 0)), ((59, .iload 4, 2, 0, 0, 0, 0), (0, 0, 0)), ((61, .iload 5, 2, 0, 0, 0, 0), (0, 0, 0)), ((63, .aload_n 1, 1, 0, 0, 0, 0), (0, 0, 0)), ((64, .getfield 96, 3, 2, 14, 1129, 0), (1, 5, 15)), ((67, .iload_n 3, 1, 0, 0, 0, 0), (0, 0, 0)), ((68, .iaload, 1, 0, 0, 0, 0), (0, 15, 0))] (by decide +kernel) rfl ?_
            exact hx_call (E := (69, .invokevirtual 113, 3, 68, 0, 3175, 0)) (M' := yp_m68) [.inr (.inl 5), .inl (m 63 (x2).toNat), .inl (m 65 (x2).toNat), .inl (m 15 (m 62 (x2).toNat).toNat)] [] rfl (by decide +kernel) rfl ⟨rfl, rfl⟩ rfl rfl (hx_mono (h4 c1 c2 c3 c4) (fun r m' h' => hx_pick [1, 3] h'))
        · have c4 : (1 : Int) = 0 := by have h : ¬ ((1 : Int) ≠ 0) := c4; omega
          exfalso; omega
      · have c3 : ¬ (cYear 5 m (m 62 (x2).toNat)) := c3
        show hxn xs n yp_m67 20 [(0, .inr (.inl 61)), (1, .inr (.inl 5)), (2, .inl x2)] [.inl 0] m Q
        refine hx_if .ne 24 (by decide +kernel) (fun c4 => ?_) (fun c4 => ?_)
        · have c4 : (0 : Int) ≠ 0 := c4
          exfalso; omega
        · have c4 : (0 : Int) = 0 := by have h : ¬ ((0 : Int) ≠ 0) := c4; omega
          exact hx_ret0 (by decide +kernel) (h5 c1 c2 c3)

/-- carryOut from 72 on -/
theorem hr67_72 {xs : List Int32} {n : Nat} {Q : hQ} {m : gx_M} {x3 : Int}
    (h1 : hxn xs n yp_m18 0 [(0, .inr (.inl 5)), (1, .inl x3)] [] m (fun r m' => hxn xs n yp_m67 77 [] (hrs r ++ []) m' Q)) : hxn xs (n + 1) yp_m67 72 [(1, .inr (.inl 5)), (3, .inl x3)] [] m Q := by
  refine hx_blks (npc := 74) (L' := [(1, .inr (.inl 5)), (3, .inl x3)]) (st' := [.inl x3, .inr (.inl 5)]) (m' := m) ((72, .aload_n 1, 1, 0, 0, 0, 0), (0, 0, 0)) [((73, .iload_n 3, 1, 0, 0, 0, 0), (0, 0, 0))] (by decide +kernel) rfl ?_
  exact hx_call (E := (74, .invokevirtual 117, 3, 18, 0, 3186, 0)) (M' := yp_m18) [.inr (.inl 5), .inl x3] [] rfl (by decide +kernel) rfl ⟨rfl, rfl⟩ rfl rfl (hx_mono h1 (fun r m' h' => hx_pick [] h'))

/-- carryOut from 77 on -/
theorem hr67_77 {xs : List Int32} {n : Nat} {Q : hQ} {m : gx_M}
    (h1 : Q none m) : hxn xs (n + 1) yp_m67 77 [] [] m Q := by
  exact hx_ret0 (by decide +kernel) h1

/-- carryOut from 92 on -/
theorem hr67_92 {xs : List Int32} {n : Nat} {Q : hQ} {m : gx_M} {x2 x3 x5 : Int}
    (h1 : ((m 64 (x2).toNat) ≠ 93) → hxn xs n yp_m16 0 [(0, .inr (.inl 5)), (1, .inl x3), (2, .inl x5)] [] m (fun r m' => hxn xs n yp_m67 126 [] (hrs r ++ []) m' Q))
    (h2 : ((m 64 (x2).toNat) = 93) → hxn xs n yp_m19 0 [(0, .inr (.inl 5)), (1, .inl x3), (2, .inl x5), (3, .inl (m 66 (x2).toNat))] [] m (fun r m' => hxn xs n yp_m67 116 [] (hrs r ++ []) m' Q)) : hxn xs (n + 1) yp_m67 92 [(0, .inr (.inl 61)), (1, .inr (.inl 5)), (2, .inl x2), (3, .inl x3), (5, .inl x5)] [] m Q := by
  refine hx_blks (npc := 100) (L' := [(0, .inr (.inl 61)), (1, .inr (.inl 5)), (2, .inl x2), (3, .inl x3), (5, .inl x5)]) (st' := [.inl 93, .inl (m 64 (x2).toNat)]) (m' := m) ((92, .aload_n 0, 1, 0, 0, 0, 0), (0, 0, 0)) [((93, .getfield 18, 3, 5, 2, 1239, 0), (1, 61, 64)), ((96, .iload_n 2, 1, 0, 0, 0, 0), (0, 0, 0)), ((97, .iaload, 1, 0, 0, 0, 0), (0, 64, 0)), ((98, .bipush 93, 2, 0, 0, 0, 0), (0, 0, 0))] (by decide +kernel) rfl ?_
  refine hx_cmp .ne 119 (by decide +kernel) (fun c1 => ?_) (fun c1 => ?_)
  · have c1 : (m 64 (x2).toNat) ≠ 93 := c1
    refine hx_blk (npc := 123) (L' := [(0, .inr (.inl 61)), (1, .inr (.inl 5)), (2, .inl x2), (3, .inl x3), (5, .inl x5)]) (st' := [.inl x5, .inl x3, .inr (.inl 5)]) (m' := m) [((119, .aload_n 1, 1, 0, 0, 0, 0), (0, 0, 0)), ((120, .iload_n 3, 1, 0, 0, 0, 0), (0, 0, 0)), ((121, .iload 5, 2, 0, 0, 0, 0), (0, 0, 0))] (by decide +kernel) rfl ?_
    exact hx_call (E := (123, .invokevirtual 124, 3, 16, 0, 3188, 0)) (M' := yp_m16) [.inr (.inl 5), .inl x3, .inl x5] [] rfl (by decide +kernel) rfl ⟨rfl, rfl⟩ rfl rfl (hx_mono (h1 c1) (fun r m' h' => hx_pick [] h'))
  · have c1 : (m 64 (x2).toNat) = 93 := by have h : ¬ ((m 64 (x2).toNat) ≠ 93) := c1; omega
    refine hx_blk (npc := 113) (L' := [(0, .inr (.inl 61)), (1, .inr (.inl 5)), (2, .inl x2), (3, .inl x3), (5, .inl x5)]) (st' := [.inl (m 66 (x2).toNat), .inl x5, .inl x3, .inr (.inl 5)]) (m' := m) [((103, .aload_n 1, 1, 0, 0, 0, 0), (0, 0, 0)), ((104, .iload_n 3, 1, 0, 0, 0, 0), (0, 0, 0)), ((105, .iload 5, 2, 0, 0, 0, 0), (0, 0, 0)), ((107, .aload_n 0, 1, 0, 0, 0, 0), (0, 0, 0)), ((108, .getfield 24, 3, 5, 4, 2001, 0), (1, 61, 66)), ((111, .iload_n 2, 1, 0, 0, 0, 0), (0, 0, 0)), ((112, .iaload, 1, 0, 0, 0, 0), (0, 66, 0))] (by decide +kernel) rfl ?_
    exact hx_call (E := (113, .invokevirtual 121, 3, 19, 0, 3187, 0)) (M' := yp_m19) [.inr (.inl 5), .inl x3, .inl x5, .inl (m 66 (x2).toNat)] [] rfl (by decide +kernel) rfl ⟨rfl, rfl⟩ rfl rfl (hx_mono (h2 c1) (fun r m' h' => hx_pick [] h'))

/-- carryOut from 116 on -/
theorem hr67_116 {xs : List Int32} {n : Nat} {Q : hQ} {m : gx_M}
    (h1 : Q none m) : hxn xs (n + 1) yp_m67 116 [] [] m Q := by
  refine hx_blks (npc := 126) (L' := []) (st' := []) (m' := m) ((116, .goto 10, 3, 0, 0, 0, 0), (0, 0, 0)) [] (by decide +kernel) rfl ?_
  exact hx_ret0 (by decide +kernel) h1

/-- carryOut from 126 on -/
theorem hr67_126 {xs : List Int32} {n : Nat} {Q : hQ} {m : gx_M}
    (h1 : Q none m) : hxn xs (n + 1) yp_m67 126 [] [] m Q := by
  exact hx_ret0 (by decide +kernel) h1

/-- canBe from 0 on -/
theorem hr54_0 {xs : List Int32} {n : Nat} {Q : hQ} {m : gx_M} {x3 : Int}
    (h1 : (x3 < 0) → Q (some (.inl 0)) m)
    (h2 : (0 ≤ x3) → ((m 61 5) ≤ x3) → Q (some (.inl 0)) m)
    (h3 : (0 ≤ x3) → (x3 < (m 61 5)) → (x3 < 16) → (cYear 5 m (m 62 (x3).toNat)) → (cPers 5 m (m 63 (x3).toNat)) → (cPers 5 m (m 65 (x3).toNat)) → ((m 12 (m 62 (x3).toNat).toNat) = (m 63 (x3).toNat)) → ((m 64 (x3).toNat) ≠ 91) → ((m 13 (m 62 (x3).toNat).toNat) ≠ (-2)) → Q (some (.inl 0)) m)
    (h4 : (0 ≤ x3) → (x3 < (m 61 5)) → (x3 < 16) → (cYear 5 m (m 62 (x3).toNat)) → (cPers 5 m (m 63 (x3).toNat)) → (cPers 5 m (m 65 (x3).toNat)) → ((m 12 (m 62 (x3).toNat).toNat) = (m 63 (x3).toNat)) → ((m 64 (x3).toNat) ≠ 91) → ((m 13 (m 62 (x3).toNat).toNat) = (-2)) → ((m 6 (m 65 (x3).toNat).toNat) < (m 66 (x3).toNat)) → Q (some (.inl 0)) m)
    (h5 : (0 ≤ x3) → (x3 < (m 61 5)) → (x3 < 16) → (cYear 5 m (m 62 (x3).toNat)) → (cPers 5 m (m 63 (x3).toNat)) → (cPers 5 m (m 65 (x3).toNat)) → ((m 12 (m 62 (x3).toNat).toNat) = (m 63 (x3).toNat)) → ((m 64 (x3).toNat) ≠ 91) → ((m 13 (m 62 (x3).toNat).toNat) = (-2)) → ((m 66 (x3).toNat) ≤ (m 6 (m 65 (x3).toNat).toNat)) → hxn xs n yp_m55 0 [(0, .inr (.inl 44)), (1, .inr (.inl 5)), (2, .inl (m 62 (x3).toNat)), (3, .inl (m 65 (x3).toNat)), (4, .inl (m 66 (x3).toNat))] [] m (fun r m' => hxn xs n yp_m54 174 [] (hrs r ++ []) m' Q))
    (h6 : (0 ≤ x3) → (x3 < (m 61 5)) → (x3 < 16) → (cYear 5 m (m 62 (x3).toNat)) → (cPers 5 m (m 63 (x3).toNat)) → (cPers 5 m (m 65 (x3).toNat)) → ((m 12 (m 62 (x3).toNat).toNat) = (m 63 (x3).toNat)) → ((m 64 (x3).toNat) = 91) → ((m 13 (m 62 (x3).toNat).toNat) ≠ (m 65 (x3).toNat)) → Q (some (.inl 0)) m)
    (h7 : (0 ≤ x3) → (x3 < (m 61 5)) → (x3 < 16) → (cYear 5 m (m 62 (x3).toNat)) → (cPers 5 m (m 63 (x3).toNat)) → (cPers 5 m (m 65 (x3).toNat)) → ((m 12 (m 62 (x3).toNat).toNat) = (m 63 (x3).toNat)) → ((m 64 (x3).toNat) = 91) → ((m 13 (m 62 (x3).toNat).toNat) = (m 65 (x3).toNat)) → ((m 6 (m 63 (x3).toNat).toNat) < (m 15 (m 62 (x3).toNat).toNat)) → Q (some (.inl 0)) m)
    (h8 : (0 ≤ x3) → (x3 < (m 61 5)) → (x3 < 16) → (cYear 5 m (m 62 (x3).toNat)) → (cPers 5 m (m 63 (x3).toNat)) → (cPers 5 m (m 65 (x3).toNat)) → ((m 12 (m 62 (x3).toNat).toNat) = (m 63 (x3).toNat)) → ((m 64 (x3).toNat) = 91) → ((m 13 (m 62 (x3).toNat).toNat) = (m 65 (x3).toNat)) → ((m 15 (m 62 (x3).toNat).toNat) ≤ (m 6 (m 63 (x3).toNat).toNat)) → Q (some (.inl 1)) m)
    (h9 : (0 ≤ x3) → (x3 < (m 61 5)) → (x3 < 16) → (cYear 5 m (m 62 (x3).toNat)) → (cPers 5 m (m 63 (x3).toNat)) → (cPers 5 m (m 65 (x3).toNat)) → ((m 12 (m 62 (x3).toNat).toNat) ≠ (m 63 (x3).toNat)) → Q (some (.inl 0)) m)
    (h10 : (0 ≤ x3) → (x3 < (m 61 5)) → (x3 < 16) → (cYear 5 m (m 62 (x3).toNat)) → (cPers 5 m (m 63 (x3).toNat)) → (¬ (cPers 5 m (m 65 (x3).toNat))) → Q (some (.inl 0)) m)
    (h11 : (0 ≤ x3) → (x3 < (m 61 5)) → (x3 < 16) → (cYear 5 m (m 62 (x3).toNat)) → (¬ (cPers 5 m (m 63 (x3).toNat))) → Q (some (.inl 0)) m)
    (h12 : (0 ≤ x3) → (x3 < (m 61 5)) → (x3 < 16) → (¬ (cYear 5 m (m 62 (x3).toNat))) → Q (some (.inl 0)) m)
    (h13 : (0 ≤ x3) → (x3 < (m 61 5)) → (16 ≤ x3) → Q (some (.inl 0)) m) : hxn xs (n + 1) yp_m54 0 [(0, .inr (.inl 61)), (1, .inr (.inl 5)), (2, .inr (.inl 44)), (3, .inl x3)] [] m Q := by
  refine hx_blks (npc := 1) (L' := [(0, .inr (.inl 61)), (1, .inr (.inl 5)), (2, .inr (.inl 44)), (3, .inl x3)]) (st' := [.inl x3]) (m' := m) ((0, .iload_n 3, 1, 0, 0, 0, 0), (0, 0, 0)) [] (by decide +kernel) rfl ?_
  refine hx_if .lt 18 (by decide +kernel) (fun c1 => ?_) (fun c1 => ?_)
  · have c1 : x3 < 0 := c1
    refine hx_blk (npc := 19) (L' := [(0, .inr (.inl 61)), (1, .inr (.inl 5)), (2, .inr (.inl 44)), (3, .inl x3)]) (st' := [.inl 0]) (m' := m) [((18, .iconst 0, 1, 0, 0, 0, 0), (0, 0, 0))] (by decide +kernel) rfl ?_
    exact hx_reti (by decide +kernel) (h1 c1)
  · have c1 : 0 ≤ x3 := by have h : ¬ (x3 < 0) := c1; omega
    refine hx_blk (npc := 9) (L' := [(0, .inr (.inl 61)), (1, .inr (.inl 5)), (2, .inr (.inl 44)), (3, .inl x3)]) (st' := [.inl (m 61 5), .inl x3]) (m' := m) [((4, .iload_n 3, 1, 0, 0, 0, 0), (0, 0, 0)), ((5, .aload_n 0, 1, 0, 0, 0, 0), (0, 0, 0)), ((6, .getfield 33, 3, 5, 5, 2002, 0), (0, 61, 0))] (by decide +kernel) rfl ?_
    refine hx_cmp .ge 18 (by decide +kernel) (fun c2 => ?_) (fun c2 => ?_)
    · have c2 : (m 61 5) ≤ x3 := c2
      refine hx_blk (npc := 19) (L' := [(0, .inr (.inl 61)), (1, .inr (.inl 5)), (2, .inr (.inl 44)), (3, .inl x3)]) (st' := [.inl 0]) (m' := m) [((18, .iconst 0, 1, 0, 0, 0, 0), (0, 0, 0))] (by decide +kernel) rfl ?_
      exact hx_reti (by decide +kernel) (h2 c1 c2)
    · have c2 : x3 < (m 61 5) := by have h : ¬ ((m 61 5) ≤ x3) := c2; omega
      refine hx_blk (npc := 15) (L' := [(0, .inr (.inl 61)), (1, .inr (.inl 5)), (2, .inr (.inl 44)), (3, .inl x3)]) (st' := [.inl 16, .inl x3]) (m' := m) [((12, .iload_n 3, 1, 0, 0, 0, 0), (0, 0, 0)), ((13, .bipush 16, 2, 0, 0, 0, 0), (0, 0, 0))] (by decide +kernel) rfl ?_
      refine hx_cmp .lt 20 (by decide +kernel) (fun c3 => ?_) (fun c3 => ?_)
      · have c3 : x3 < 16 := c3
        refine hx_blk (npc := 47) (L' := [(0, .inr (.inl 61)), (1, .inr (.inl 5)), (2, .inr (.inl 44)), (3, .inl x3), (4, .inl (m 62 (x3).toNat)), (5, .inl (m 63 (x3).toNat)), (6, .inl (m 65 (x3).toNat))]) (st' := [.inl (m 62 (x3).toNat), .inr (.inl 5)]) (m' := m) [((20, .aload_n 0, 1, 0, 0, 0, 0), (0, 0, 0)), ((21, .getfield 9, 3, 5, 0, 1237, 0), (1, 61, 62)), ((24, .iload_n 3, 1, 0, 0, 0, 0), (0, 0, 0)), ((25, .iaload, 1, 0, 0, 0, 0), (0, 62, 0)), ((26, .istore 4, 2, 0, 0, 0, 0), (0, 0, 0)), ((28, .aload_n 0, 1, 0, 0, 0, 0), (0, 0, 0)), ((29, .getfield 15, 3, 5, 1, 1238, 0), (1, 61, 63)), ((32, .iload_n 3, 1, 0, 0, 0, 0), (0, 0, 0)), ((33, .iaload, 1, 0, 0, 0, 0), (0, 63, 0)), ((34, .istore 5, 2, 0, 0, 0, 0), (0, 0, 0)), ((36, .aload_n 0, 1, 0, 0, 0, 0), (0, 0, 0)), ((37, .getfield 21, 3, 5, 3, 2000, 0), (1, 61, 65)), ((40, .iload_n 3, 1, 0, 0, 0, 0), (0, 0, 0)), ((41, .iaload, 1, 0, 0, 0, 0), (0, 65, 0)), ((42, .istore 6, 2, 0, 0, 0, 0), (0, 0, 0)), ((44, .aload_n 1, 1, 0, 0, 0, 0), (0, 0, 0)), ((45, .iload 4, 2, 0, 0, 0, 0), (0, 0, 0))] (by decide +kernel) rfl ?_
        refine hx_call (E := (47, .invokevirtual 79, 3, 17, 0, 3117, 0)) (M' := yp_m17) [.inr (.inl 5), .inl (m 62 (x3).toNat)] [] rfl (by decide +kernel) rfl ⟨rfl, rfl⟩ rfl rfl (hs17_5 (fun c4 => ?_) (fun c4 => ?_))
        · have c4 : cYear 5 m (m 62 (x3).toNat) := c4
          show hxn xs n yp_m54 50 [(0, .inr (.inl 61)), (1, .inr (.inl 5)), (2, .inr (.inl 44)), (3, .inl x3), (4, .inl (m 62 (x3).toNat)), (5, .inl (m 63 (x3).toNat)), (6, .inl (m 65 (x3).toNat))] [.inl 1] m Q
          refine hx_if .eq 83 (by decide +kernel) (fun c5 => ?_) (fun c5 => ?_)
          · have c5 : (1 : Int) = 0 := c5
            exfalso; omega
          · have c5 : (1 : Int) ≠ 0 := c5
            refine hx_blk (npc := 56) (L' := [(0, .inr (.inl 61)), (1, .inr (.inl 5)), (2, .inr (.inl 44)), (3, .inl x3), (4, .inl (m 62 (x3).toNat)), (5, .inl (m 63 (x3).toNat)), (6, .inl (m 65 (x3).toNat))]) (st' := [.inl (m 63 (x3).toNat), .inr (.inl 5)]) (m' := m) [((53, .aload_n 1, 1, 0, 0, 0, 0), (0, 0, 0)), ((54, .iload 5, 2, 0, 0, 0, 0), (0, 0, 0))] (by decide +kernel) rfl ?_
            refine hx_call (E := (56, .invokevirtual 84, 3, 13, 0, 3118, 0)) (M' := yp_m13) [.inr (.inl 5), .inl (m 63 (x3).toNat)] [] rfl (by decide +kernel) rfl ⟨rfl, rfl⟩ rfl rfl (hs13_5 (fun c5 => ?_) (fun c5 => ?_))
            · have c5 : cPers 5 m (m 63 (x3).toNat) := c5
              show hxn xs n yp_m54 59 [(0, .inr (.inl 61)), (1, .inr (.inl 5)), (2, .inr (.inl 44)), (3, .inl x3), (4, .inl (m 62 (x3).toNat)), (5, .inl (m 63 (x3).toNat)), (6, .inl (m 65 (x3).toNat))] [.inl 1] m Q
              refine hx_if .eq 83 (by decide +kernel) (fun c6 => ?_) (fun c6 => ?_)
              · have c6 : (1 : Int) = 0 := c6
                exfalso; omega
              · have c6 : (1 : Int) ≠ 0 := c6
                refine hx_blk (npc := 65) (L' := [(0, .inr (.inl 61)), (1, .inr (.inl 5)), (2, .inr (.inl 44)), (3, .inl x3), (4, .inl (m 62 (x3).toNat)), (5, .inl (m 63 (x3).toNat)), (6, .inl (m 65 (x3).toNat))]) (st' := [.inl (m 65 (x3).toNat), .inr (.inl 5)]) (m' := m) [((62, .aload_n 1, 1, 0, 0, 0, 0), (0, 0, 0)), ((63, .iload 6, 2, 0, 0, 0, 0), (0, 0, 0))] (by decide +kernel) rfl ?_
                refine hx_call (E := (65, .invokevirtual 84, 3, 13, 0, 3118, 0)) (M' := yp_m13) [.inr (.inl 5), .inl (m 65 (x3).toNat)] [] rfl (by decide +kernel) rfl ⟨rfl, rfl⟩ rfl rfl (hs13_5 (fun c6 => ?_) (fun c6 => ?_))
                · have c6 : cPers 5 m (m 65 (x3).toNat) := c6
                  show hxn xs n yp_m54 68 [(0, .inr (.inl 61)), (1, .inr (.inl 5)), (2, .inr (.inl 44)), (3, .inl x3), (4, .inl (m 62 (x3).toNat)), (5, .inl (m 63 (x3).toNat)), (6, .inl (m 65 (x3).toNat))] [.inl 1] m Q
                  refine hx_if .eq 83 (by decide +kernel) (fun c7 => ?_) (fun c7 => ?_)
                  · have c7 : (1 : Int) = 0 := c7
                    exfalso; omega
                  · have c7 : (1 : Int) ≠ 0 := c7
                    refine hx_blk (npc := 80) (L' := [(0, .inr (.inl 61)), (1, .inr (.inl 5)), (2, .inr (.inl 44)), (3, .inl x3), (4, .inl (m 62 (x3).toNat)), (5, .inl (m 63 (x3).toNat)), (6, .inl (m 65 (x3).toNat))]) (st' := [.inl (m 63 (x3).toNat), .inl (m 12 (m 62 (x3).toNat).toNat)]) (m' := m) [((71, .aload_n 1, 1, 0, 0, 0, 0), (0, 0, 0)), ((72, .getfield 87, 3, 2, 11, 1115, 0), (1, 5, 12)), ((75, .iload 4, 2, 0, 0, 0, 0), (0, 0, 0)), ((77, .iaload, 1, 0, 0, 0, 0), (0, 12, 0)), ((78, .iload 5, 2, 0, 0, 0, 0), (0, 0, 0))] (by decide +kernel) rfl ?_
                    refine hx_cmp .eq 85 (by decide +kernel) (fun c7 => ?_) (fun c7 => ?_)
                    · have c7 : (m 12 (m 62 (x3).toNat).toNat) = (m 63 (x3).toNat) := c7
                      refine hx_blk (npc := 93) (L' := [(0, .inr (.inl 61)), (1, .inr (.inl 5)), (2, .inr (.inl 44)), (3, .inl x3), (4, .inl (m 62 (x3).toNat)), (5, .inl (m 63 (x3).toNat)), (6, .inl (m 65 (x3).toNat))]) (st' := [.inl 91, .inl (m 64 (x3).toNat)]) (m' := m) [((85, .aload_n 0, 1, 0, 0, 0, 0), (0, 0, 0)), ((86, .getfield 18, 3, 5, 2, 1239, 0), (1, 61, 64)), ((89, .iload_n 3, 1, 0, 0, 0, 0), (0, 0, 0)), ((90, .iaload, 1, 0, 0, 0, 0), (0, 64, 0)), ((91, .bipush 91, 2, 0, 0, 0, 0), (0, 0, 0))] (by decide +kernel) rfl ?_
                      refine hx_cmp .ne 131 (by decide +kernel) (fun c8 => ?_) (fun c8 => ?_)
                      · have c8 : (m 64 (x3).toNat) ≠ 91 := c8
                        refine hx_blk (npc := 140) (L' := [(0, .inr (.inl 61)), (1, .inr (.inl 5)), (2, .inr (.inl 44)), (3, .inl x3), (4, .inl (m 62 (x3).toNat)), (5, .inl (m 63 (x3).toNat)), (6, .inl (m 65 (x3).toNat))]) (st' := [.inl (-2), .inl (m 13 (m 62 (x3).toNat).toNat)]) (m' := m) [((131, .aload_n 1, 1, 0, 0, 0, 0), (0, 0, 0)), ((132, .getfield 90, 3, 2, 12, 1121, 0), (1, 5, 13)), ((135, .iload 4, 2, 0, 0, 0, 0), (0, 0, 0)), ((137, .iaload, 1, 0, 0, 0, 0), (0, 13, 0)), ((138, .bipush (-2), 2, 0, 0, 0, 0), (0, 0, 0))] (by decide +kernel) rfl ?_
                        refine hx_cmp .ne 181 (by decide +kernel) (fun c9 => ?_) (fun c9 => ?_)
                        · have c9 : (m 13 (m 62 (x3).toNat).toNat) ≠ (-2) := c9
                          refine hx_blk (npc := 182) (L' := [(0, .inr (.inl 61)), (1, .inr (.inl 5)), (2, .inr (.inl 44)), (3, .inl x3), (4, .inl (m 62 (x3).toNat)), (5, .inl (m 63 (x3).toNat)), (6, .inl (m 65 (x3).toNat))]) (st' := [.inl 0]) (m' := m) [((181, .iconst 0, 1, 0, 0, 0, 0), (0, 0, 0))] (by decide +kernel) rfl ?_
                          exact hx_reti (by decide +kernel) (h3 c1 c2 c3 c4 c5 c6 c7 c8 c9)
                        · have c9 : (m 13 (m 62 (x3).toNat).toNat) = (-2) := by have h : ¬ ((m 13 (m 62 (x3).toNat).toNat) ≠ (-2)) := c9; omega
                          refine hx_blk (npc := 156) (L' := [(0, .inr (.inl 61)), (1, .inr (.inl 5)), (2, .inr (.inl 44)), (3, .inl x3), (4, .inl (m 62 (x3).toNat)), (5, .inl (m 63 (x3).toNat)), (6, .inl (m 65 (x3).toNat))]) (st' := [.inl (m 66 (x3).toNat), .inl (m 6 (m 65 (x3).toNat).toNat)]) (m' := m) [((143, .aload_n 1, 1, 0, 0, 0, 0), (0, 0, 0)), ((144, .getfield 93, 3, 2, 5, 1091, 0), (1, 5, 6)), ((147, .iload 6, 2, 0, 0, 0, 0), (0, 0, 0)), ((149, .iaload, 1, 0, 0, 0, 0), (0, 6, 0)), ((150, .aload_n 0, 1, 0, 0, 0, 0), (0, 0, 0)), ((151, .getfield 24, 3, 5, 4, 2001, 0), (1, 61, 66)), ((154, .iload_n 3, 1, 0, 0, 0, 0), (0, 0, 0)), ((155, .iaload, 1, 0, 0, 0, 0), (0, 66, 0))] (by decide +kernel) rfl ?_
                          refine hx_cmp .lt 181 (by decide +kernel) (fun c10 => ?_) (fun c10 => ?_)
                          · have c10 : (m 6 (m 65 (x3).toNat).toNat) < (m 66 (x3).toNat) := c10
                            refine hx_blk (npc := 182) (L' := [(0, .inr (.inl 61)), (1, .inr (.inl 5)), (2, .inr (.inl 44)), (3, .inl x3), (4, .inl (m 62 (x3).toNat)), (5, .inl (m 63 (x3).toNat)), (6, .inl (m 65 (x3).toNat))]) (st' := [.inl 0]) (m' := m) [((181, .iconst 0, 1, 0, 0, 0, 0), (0, 0, 0))] (by decide +kernel) rfl ?_
                            exact hx_reti (by decide +kernel) (h4 c1 c2 c3 c4 c5 c6 c7 c8 c9 c10)
                          · have c10 : (m 66 (x3).toNat) ≤ (m 6 (m 65 (x3).toNat).toNat) := by have h : ¬ ((m 6 (m 65 (x3).toNat).toNat) < (m 66 (x3).toNat)) := c10; omega
                            refine hx_blk (npc := 171) (L' := [(0, .inr (.inl 61)), (1, .inr (.inl 5)), (2, .inr (.inl 44)), (3, .inl x3), (4, .inl (m 62 (x3).toNat)), (5, .inl (m 63 (x3).toNat)), (6, .inl (m 65 (x3).toNat))]) (st' := [.inl (m 66 (x3).toNat), .inl (m 65 (x3).toNat), .inl (m 62 (x3).toNat), .inr (.inl 5), .inr (.inl 44)]) (m' := m) [((159, .aload_n 2, 1, 0, 0, 0, 0), (0, 0, 0)), ((160, .aload_n 1, 1, 0, 0, 0, 0), (0, 0, 0)), ((161, .iload 4, 2, 0, 0, 0, 0), (0, 0, 0)), ((163, .iload 6, 2, 0, 0, 0, 0), (0, 0, 0)), ((165, .aload_n 0, 1, 0, 0, 0, 0), (0, 0, 0)), ((166, .getfield 24, 3, 5, 4, 2001, 0), (1, 61, 66)), ((169, .iload_n 3, 1, 0, 0, 0, 0), (0, 0, 0)), ((170, .iaload, 1, 0, 0, 0, 0), (0, 66, 0))] (by decide +kernel) rfl ?_
                            exact hx_call (E := (171, .invokevirtual 99, 3, 55, 0, 3119, 0)) (M' := yp_m55) [.inr (.inl 44), .inr (.inl 5), .inl (m 62 (x3).toNat), .inl (m 65 (x3).toNat), .inl (m 66 (x3).toNat)] [] rfl (by decide +kernel) rfl ⟨rfl, rfl⟩ rfl rfl (hx_mono (h5 c1 c2 c3 c4 c5 c6 c7 c8 c9 c10) (fun r m' h' => hx_pick [] h'))
                      · have c8 : (m 64 (x3).toNat) = 91 := by have h : ¬ ((m 64 (x3).toNat) ≠ 91) := c8; omega
                        refine hx_blk (npc := 105) (L' := [(0, .inr (.inl 61)), (1, .inr (.inl 5)), (2, .inr (.inl 44)), (3, .inl x3), (4, .inl (m 62 (x3).toNat)), (5, .inl (m 63 (x3).toNat)), (6, .inl (m 65 (x3).toNat))]) (st' := [.inl (m 65 (x3).toNat), .inl (m 13 (m 62 (x3).toNat).toNat)]) (m' := m) [((96, .aload_n 1, 1, 0, 0, 0, 0), (0, 0, 0)), ((97, .getfield 90, 3, 2, 12, 1121, 0), (1, 5, 13)), ((100, .iload 4, 2, 0, 0, 0, 0), (0, 0, 0)), ((102, .iaload, 1, 0, 0, 0, 0), (0, 13, 0)), ((103, .iload 6, 2, 0, 0, 0, 0), (0, 0, 0))] (by decide +kernel) rfl ?_
                        refine hx_cmp .ne 129 (by decide +kernel) (fun c9 => ?_) (fun c9 => ?_)
                        · have c9 : (m 13 (m 62 (x3).toNat).toNat) ≠ (m 65 (x3).toNat) := c9
                          refine hx_blk (npc := 130) (L' := [(0, .inr (.inl 61)), (1, .inr (.inl 5)), (2, .inr (.inl 44)), (3, .inl x3), (4, .inl (m 62 (x3).toNat)), (5, .inl (m 63 (x3).toNat)), (6, .inl (m 65 (x3).toNat))]) (st' := [.inl 0]) (m' := m) [((129, .iconst 0, 1, 0, 0, 0, 0), (0, 0, 0))] (by decide +kernel) rfl ?_
                          exact hx_reti (by decide +kernel) (h6 c1 c2 c3 c4 c5 c6 c7 c8 c9)
                        · have c9 : (m 13 (m 62 (x3).toNat).toNat) = (m 65 (x3).toNat) := by have h : ¬ ((m 13 (m 62 (x3).toNat).toNat) ≠ (m 65 (x3).toNat)) := c9; omega
                          refine hx_blk (npc := 122) (L' := [(0, .inr (.inl 61)), (1, .inr (.inl 5)), (2, .inr (.inl 44)), (3, .inl x3), (4, .inl (m 62 (x3).toNat)), (5, .inl (m 63 (x3).toNat)), (6, .inl (m 65 (x3).toNat))]) (st' := [.inl (m 15 (m 62 (x3).toNat).toNat), .inl (m 6 (m 63 (x3).toNat).toNat)]) (m' := m) [((108, .aload_n 1, 1, 0, 0, 0, 0), (0, 0, 0)), ((109, .getfield 93, 3, 2, 5, 1091, 0), (1, 5, 6)), ((112, .iload 5, 2, 0, 0, 0, 0), (0, 0, 0)), ((114, .iaload, 1, 0, 0, 0, 0), (0, 6, 0)), ((115, .aload_n 1, 1, 0, 0, 0, 0), (0, 0, 0)), ((116, .getfield 96, 3, 2, 14, 1129, 0), (1, 5, 15)), ((119, .iload 4, 2, 0, 0, 0, 0), (0, 0, 0)), ((121, .iaload, 1, 0, 0, 0, 0), (0, 15, 0))] (by decide +kernel) rfl ?_
                          refine hx_cmp .lt 129 (by decide +kernel) (fun c10 => ?_) (fun c10 => ?_)
                          · have c10 : (m 6 (m 63 (x3).toNat).toNat) < (m 15 (m 62 (x3).toNat).toNat) := c10
                            refine hx_blk (npc := 130) (L' := [(0, .inr (.inl 61)), (1, .inr (.inl 5)), (2, .inr (.inl 44)), (3, .inl x3), (4, .inl (m 62 (x3).toNat)), (5, .inl (m 63 (x3).toNat)), (6, .inl (m 65 (x3).toNat))]) (st' := [.inl 0]) (m' := m) [((129, .iconst 0, 1, 0, 0, 0, 0), (0, 0, 0))] (by decide +kernel) rfl ?_
                            exact hx_reti (by decide +kernel) (h7 c1 c2 c3 c4 c5 c6 c7 c8 c9 c10)
                          · have c10 : (m 15 (m 62 (x3).toNat).toNat) ≤ (m 6 (m 63 (x3).toNat).toNat) := by have h : ¬ ((m 6 (m 63 (x3).toNat).toNat) < (m 15 (m 62 (x3).toNat).toNat)) := c10; omega
                            refine hx_blk (npc := 130) (L' := [(0, .inr (.inl 61)), (1, .inr (.inl 5)), (2, .inr (.inl 44)), (3, .inl x3), (4, .inl (m 62 (x3).toNat)), (5, .inl (m 63 (x3).toNat)), (6, .inl (m 65 (x3).toNat))]) (st' := [.inl 1]) (m' := m) [((125, .iconst 1, 1, 0, 0, 0, 0), (0, 0, 0)), ((126, .goto 4, 3, 0, 0, 0, 0), (0, 0, 0))] (by decide +kernel) rfl ?_
                            exact hx_reti (by decide +kernel) (h8 c1 c2 c3 c4 c5 c6 c7 c8 c9 c10)
                    · have c7 : (m 12 (m 62 (x3).toNat).toNat) ≠ (m 63 (x3).toNat) := c7
                      refine hx_blk (npc := 84) (L' := [(0, .inr (.inl 61)), (1, .inr (.inl 5)), (2, .inr (.inl 44)), (3, .inl x3), (4, .inl (m 62 (x3).toNat)), (5, .inl (m 63 (x3).toNat)), (6, .inl (m 65 (x3).toNat))]) (st' := [.inl 0]) (m' := m) [((83, .iconst 0, 1, 0, 0, 0, 0), (0, 0, 0))] (by decide +kernel) rfl ?_
                      exact hx_reti (by decide +kernel) (h9 c1 c2 c3 c4 c5 c6 c7)
                · have c6 : ¬ (cPers 5 m (m 65 (x3).toNat)) := c6
                  show hxn xs n yp_m54 68 [(0, .inr (.inl 61)), (1, .inr (.inl 5)), (2, .inr (.inl 44)), (3, .inl x3), (4, .inl (m 62 (x3).toNat)), (5, .inl (m 63 (x3).toNat)), (6, .inl (m 65 (x3).toNat))] [.inl 0] m Q
                  refine hx_if .eq 83 (by decide +kernel) (fun c7 => ?_) (fun c7 => ?_)
                  · have c7 : (0 : Int) = 0 := c7
                    refine hx_blk (npc := 84) (L' := [(0, .inr (.inl 61)), (1, .inr (.inl 5)), (2, .inr (.inl 44)), (3, .inl x3), (4, .inl (m 62 (x3).toNat)), (5, .inl (m 63 (x3).toNat)), (6, .inl (m 65 (x3).toNat))]) (st' := [.inl 0]) (m' := m) [((83, .iconst 0, 1, 0, 0, 0, 0), (0, 0, 0))] (by decide +kernel) rfl ?_
                    exact hx_reti (by decide +kernel) (h10 c1 c2 c3 c4 c5 c6)
                  · have c7 : (0 : Int) ≠ 0 := c7
                    exfalso; omega
            · have c5 : ¬ (cPers 5 m (m 63 (x3).toNat)) := c5
              show hxn xs n yp_m54 59 [(0, .inr (.inl 61)), (1, .inr (.inl 5)), (2, .inr (.inl 44)), (3, .inl x3), (4, .inl (m 62 (x3).toNat)), (5, .inl (m 63 (x3).toNat)), (6, .inl (m 65 (x3).toNat))] [.inl 0] m Q
              refine hx_if .eq 83 (by decide +kernel) (fun c6 => ?_) (fun c6 => ?_)
              · have c6 : (0 : Int) = 0 := c6
                refine hx_blk (npc := 84) (L' := [(0, .inr (.inl 61)), (1, .inr (.inl 5)), (2, .inr (.inl 44)), (3, .inl x3), (4, .inl (m 62 (x3).toNat)), (5, .inl (m 63 (x3).toNat)), (6, .inl (m 65 (x3).toNat))]) (st' := [.inl 0]) (m' := m) [((83, .iconst 0, 1, 0, 0, 0, 0), (0, 0, 0))] (by decide +kernel) rfl ?_
                exact hx_reti (by decide +kernel) (h11 c1 c2 c3 c4 c5)
              · have c6 : (0 : Int) ≠ 0 := c6
                exfalso; omega
        · have c4 : ¬ (cYear 5 m (m 62 (x3).toNat)) := c4
          show hxn xs n yp_m54 50 [(0, .inr (.inl 61)), (1, .inr (.inl 5)), (2, .inr (.inl 44)), (3, .inl x3), (4, .inl (m 62 (x3).toNat)), (5, .inl (m 63 (x3).toNat)), (6, .inl (m 65 (x3).toNat))] [.inl 0] m Q
          refine hx_if .eq 83 (by decide +kernel) (fun c5 => ?_) (fun c5 => ?_)
          · have c5 : (0 : Int) = 0 := c5
            refine hx_blk (npc := 84) (L' := [(0, .inr (.inl 61)), (1, .inr (.inl 5)), (2, .inr (.inl 44)), (3, .inl x3), (4, .inl (m 62 (x3).toNat)), (5, .inl (m 63 (x3).toNat)), (6, .inl (m 65 (x3).toNat))]) (st' := [.inl 0]) (m' := m) [((83, .iconst 0, 1, 0, 0, 0, 0), (0, 0, 0))] (by decide +kernel) rfl ?_
            exact hx_reti (by decide +kernel) (h12 c1 c2 c3 c4)
          · have c5 : (0 : Int) ≠ 0 := c5
            exfalso; omega
      · have c3 : 16 ≤ x3 := by have h : ¬ (x3 < 16) := c3; omega
        refine hx_blk (npc := 19) (L' := [(0, .inr (.inl 61)), (1, .inr (.inl 5)), (2, .inr (.inl 44)), (3, .inl x3)]) (st' := [.inl 0]) (m' := m) [((18, .iconst 0, 1, 0, 0, 0, 0), (0, 0, 0))] (by decide +kernel) rfl ?_
        exact hx_reti (by decide +kernel) (h13 c1 c2 c3)

/-- canBe from 174 on -/
theorem hr54_174 {xs : List Int32} {n : Nat} {Q : hQ} {m : gx_M} {s0 : Int}
    (h1 : (s0 ≠ 0) → Q (some (.inl 0)) m)
    (h2 : (s0 = 0) → Q (some (.inl 1)) m) : hxn xs (n + 1) yp_m54 174 [] [.inl s0] m Q := by
  refine hx_ifs .ne 181 (by decide +kernel) (fun c1 => ?_) (fun c1 => ?_)
  · have c1 : s0 ≠ 0 := c1
    refine hx_blk (npc := 182) (L' := []) (st' := [.inl 0]) (m' := m) [((181, .iconst 0, 1, 0, 0, 0, 0), (0, 0, 0))] (by decide +kernel) rfl ?_
    exact hx_reti (by decide +kernel) (h1 c1)
  · have c1 : s0 = 0 := by have h : ¬ (s0 ≠ 0) := c1; omega
    refine hx_blk (npc := 182) (L' := []) (st' := [.inl 1]) (m' := m) [((177, .iconst 1, 1, 0, 0, 0, 0), (0, 0, 0)), ((178, .goto 4, 3, 0, 0, 0, 0), (0, 0, 0))] (by decide +kernel) rfl ?_
    exact hx_reti (by decide +kernel) (h2 c1)

/-- perform from 0 on -/
theorem hr53_0 {xs : List Int32} {n : Nat} {Q : hQ} {m : gx_M} {x3 : Int}
    (h1 : hxn xs n yp_m54 0 [(0, .inr (.inl 61)), (1, .inr (.inl 5)), (2, .inr (.inl 44)), (3, .inl x3)] [] m (fun r m' => hxn xs n yp_m53 7 [(0, .inr (.inl 61)), (1, .inr (.inl 5)), (3, .inl x3)] (hrs r ++ []) m' Q)) : hxn xs (n + 1) yp_m53 0 [(0, .inr (.inl 61)), (1, .inr (.inl 5)), (2, .inr (.inl 44)), (3, .inl x3)] [] m Q := by
  refine hx_blks (npc := 4) (L' := [(0, .inr (.inl 61)), (1, .inr (.inl 5)), (2, .inr (.inl 44)), (3, .inl x3)]) (st' := [.inl x3, .inr (.inl 44), .inr (.inl 5), .inr (.inl 61)]) (m' := m) ((0, .aload_n 0, 1, 0, 0, 0, 0), (0, 0, 0)) [((1, .aload_n 1, 1, 0, 0, 0, 0), (0, 0, 0)), ((2, .aload_n 2, 1, 0, 0, 0, 0), (0, 0, 0)), ((3, .iload_n 3, 1, 0, 0, 0, 0), (0, 0, 0))] (by decide +kernel) rfl ?_
  exact hx_call (E := (4, .invokevirtual 105, 3, 54, 0, 3113, 0)) (M' := yp_m54) [.inr (.inl 61), .inr (.inl 5), .inr (.inl 44), .inl x3] [] rfl (by decide +kernel) rfl ⟨rfl, rfl⟩ rfl rfl (hx_mono h1 (fun r m' h' => hx_pick [0, 1, 3] h'))

/-- perform from 7 on -/
theorem hr53_7 {xs : List Int32} {n : Nat} {Q : hQ} {m : gx_M} {x3 s0 : Int}
    (h1 : (s0 ≠ 0) → hxn xs n yp_m67 0 [(0, .inr (.inl 61)), (1, .inr (.inl 5)), (2, .inl x3)] [] m (fun r m' => hxn xs n yp_m53 18 [] (hrs r ++ []) m' Q))
    (h2 : (s0 = 0) → Q (some (.inl 0)) m) : hxn xs (n + 1) yp_m53 7 [(0, .inr (.inl 61)), (1, .inr (.inl 5)), (3, .inl x3)] [.inl s0] m Q := by
  refine hx_ifs .ne 12 (by decide +kernel) (fun c1 => ?_) (fun c1 => ?_)
  · have c1 : s0 ≠ 0 := c1
    refine hx_blk (npc := 15) (L' := [(0, .inr (.inl 61)), (1, .inr (.inl 5)), (3, .inl x3)]) (st' := [.inl x3, .inr (.inl 5), .inr (.inl 61)]) (m' := m) [((12, .aload_n 0, 1, 0, 0, 0, 0), (0, 0, 0)), ((13, .aload_n 1, 1, 0, 0, 0, 0), (0, 0, 0)), ((14, .iload_n 3, 1, 0, 0, 0, 0), (0, 0, 0))] (by decide +kernel) rfl ?_
    exact hx_call (E := (15, .invokevirtual 109, 3, 67, 0, 3171, 0)) (M' := yp_m67) [.inr (.inl 61), .inr (.inl 5), .inl x3] [] rfl (by decide +kernel) rfl ⟨rfl, rfl⟩ rfl rfl (hx_mono (h1 c1) (fun r m' h' => hx_pick [] h'))
  · have c1 : s0 = 0 := by have h : ¬ (s0 ≠ 0) := c1; omega
    refine hx_blk (npc := 11) (L' := [(0, .inr (.inl 61)), (1, .inr (.inl 5)), (3, .inl x3)]) (st' := [.inl 0]) (m' := m) [((10, .iconst 0, 1, 0, 0, 0, 0), (0, 0, 0))] (by decide +kernel) rfl ?_
    exact hx_reti (by decide +kernel) (h2 c1)

/-- perform from 18 on -/
theorem hr53_18 {xs : List Int32} {n : Nat} {Q : hQ} {m : gx_M}
    (h1 : Q (some (.inl 1)) m) : hxn xs (n + 1) yp_m53 18 [] [] m Q := by
  refine hx_blks (npc := 19) (L' := []) (st' := [.inl 1]) (m' := m) ((18, .iconst 1, 1, 0, 0, 0, 0), (0, 0, 0)) [] (by decide +kernel) rfl ?_
  exact hx_reti (by decide +kernel) h1

/-- pawn from 0 on -/
theorem hr31_19_0 {xs : List Int32} {n : Nat} {Q : hQ} {m : gx_M} {x1 x2 x3 : Int}
    (h1 : (cYear 31 m x1) → Q none (gx_u (gx_u (gx_u m 39 (x1).toNat x2) 40 (x1).toNat x3) 41 (x1).toNat x3))
    (h2 : (¬ (cYear 31 m x1)) → Q none m) : hxn xs (n + 1) yp_m19 0 [(0, .inr (.inl 31)), (1, .inl x1), (2, .inl x2), (3, .inl x3)] [] m Q := by
  refine hx_blks (npc := 2) (L' := [(0, .inr (.inl 31)), (1, .inl x1), (2, .inl x2), (3, .inl x3)]) (st' := [.inl x1, .inr (.inl 31)]) (m' := m) ((0, .aload_n 0, 1, 0, 0, 0, 0), (0, 0, 0)) [((1, .iload_n 1, 1, 0, 0, 0, 0), (0, 0, 0))] (by decide +kernel) rfl ?_
  refine hx_call (E := (2, .invokevirtual 71, 3, 17, 0, 2188, 0)) (M' := yp_m17) [.inr (.inl 31), .inl x1] [] rfl (by decide +kernel) rfl ⟨rfl, rfl⟩ rfl rfl (hs17_31 (fun c1 => ?_) (fun c1 => ?_))
  · have c1 : cYear 31 m x1 := c1
    show hxn xs n yp_m19 5 [(0, .inr (.inl 31)), (1, .inl x1), (2, .inl x2), (3, .inl x3)] [.inl 1] m Q
    refine hx_if .ne 9 (by decide +kernel) (fun c2 => ?_) (fun c2 => ?_)
    · have c2 : (1 : Int) ≠ 0 := c2
      refine hx_blk (npc := 30) (L' := [(0, .inr (.inl 31)), (1, .inl x1), (2, .inl x2), (3, .inl x3)]) (st' := []) (m' := (gx_u (gx_u (gx_u m 39 (x1).toNat x2) 40 (x1).toNat x3) 41 (x1).toNat x3)) [((9, .aload_n 0, 1, 0, 0, 0, 0), (0, 0, 0)), ((10, .getfield 37, 3, 2, 12, 1119, 0), (1, 31, 39)), ((13, .iload_n 1, 1, 0, 0, 0, 0), (0, 0, 0)), ((14, .iload_n 2, 1, 0, 0, 0, 0), (0, 0, 0)), ((15, .iastore, 1, 0, 0, 0, 0), (0, 39, 0)), ((16, .aload_n 0, 1, 0, 0, 0, 0), (0, 0, 0)), ((17, .getfield 40, 3, 2, 13, 1124, 0), (1, 31, 40)), ((20, .iload_n 1, 1, 0, 0, 0, 0), (0, 0, 0)), ((21, .iload_n 3, 1, 0, 0, 0, 0), (0, 0, 0)), ((22, .iastore, 1, 0, 0, 0, 0), (0, 40, 0)), ((23, .aload_n 0, 1, 0, 0, 0, 0), (0, 0, 0)), ((24, .getfield 43, 3, 2, 14, 1127, 0), (1, 31, 41)), ((27, .iload_n 1, 1, 0, 0, 0, 0), (0, 0, 0)), ((28, .iload_n 3, 1, 0, 0, 0, 0), (0, 0, 0)), ((29, .iastore, 1, 0, 0, 0, 0), (0, 41, 0))] (by decide +kernel) rfl ?_
      exact hx_ret0 (by decide +kernel) (h1 c1)
    · have c2 : (1 : Int) = 0 := by have h : ¬ ((1 : Int) ≠ 0) := c2; omega
      exfalso; omega
  · have c1 : ¬ (cYear 31 m x1) := c1
    show hxn xs n yp_m19 5 [(0, .inr (.inl 31)), (1, .inl x1), (2, .inl x2), (3, .inl x3)] [.inl 0] m Q
    refine hx_if .ne 9 (by decide +kernel) (fun c2 => ?_) (fun c2 => ?_)
    · have c2 : (0 : Int) ≠ 0 := c2
      exfalso; omega
    · have c2 : (0 : Int) = 0 := by have h : ¬ ((0 : Int) ≠ 0) := c2; omega
      exact hx_ret0 (by decide +kernel) (h2 c1)

/-- free from 0 on -/
theorem hr31_18_0 {xs : List Int32} {n : Nat} {Q : hQ} {m : gx_M} {x1 : Int}
    (h1 : hxn xs n yp_m19 0 [(0, .inr (.inl 31)), (1, .inl x1), (2, .inl (-2)), (3, .inl 0)] [] m (fun r m' => hxn xs n yp_m18 8 [] (hrs r ++ []) m' Q)) : hxn xs (n + 1) yp_m18 0 [(0, .inr (.inl 31)), (1, .inl x1)] [] m Q := by
  refine hx_blks (npc := 5) (L' := [(0, .inr (.inl 31)), (1, .inl x1)]) (st' := [.inl 0, .inl (-2), .inl x1, .inr (.inl 31)]) (m' := m) ((0, .aload_n 0, 1, 0, 0, 0, 0), (0, 0, 0)) [((1, .iload_n 1, 1, 0, 0, 0, 0), (0, 0, 0)), ((2, .bipush (-2), 2, 0, 0, 0, 0), (0, 0, 0)), ((4, .iconst 0, 1, 0, 0, 0, 0), (0, 0, 0))] (by decide +kernel) rfl ?_
  exact hx_call (E := (5, .invokevirtual 85, 3, 19, 0, 2196, 0)) (M' := yp_m19) [.inr (.inl 31), .inl x1, .inl (-2), .inl 0] [] rfl (by decide +kernel) rfl ⟨rfl, rfl⟩ rfl rfl (hx_mono h1 (fun r m' h' => hx_pick [] h'))

/-- free from 8 on -/
theorem hr31_18_8 {xs : List Int32} {n : Nat} {Q : hQ} {m : gx_M}
    (h1 : Q none m) : hxn xs (n + 1) yp_m18 8 [] [] m Q := by
  exact hx_ret0 (by decide +kernel) h1

/-- give from 0 on -/
theorem hr31_16_0 {xs : List Int32} {n : Nat} {Q : hQ} {m : gx_M} {x1 x2 : Int}
    (h1 : (cYear 31 m x1) → hxn xs n yp_m18 0 [(0, .inr (.inl 31)), (1, .inl x1)] [] (gx_u m 38 (x1).toNat x2) (fun r m' => hxn xs n yp_m16 21 [(0, .inr (.inl 31)), (1, .inl x1), (2, .inl x2)] (hrs r ++ []) m' Q))
    (h2 : (¬ (cYear 31 m x1)) → Q none m) : hxn xs (n + 1) yp_m16 0 [(0, .inr (.inl 31)), (1, .inl x1), (2, .inl x2)] [] m Q := by
  refine hx_blks (npc := 2) (L' := [(0, .inr (.inl 31)), (1, .inl x1), (2, .inl x2)]) (st' := [.inl x1, .inr (.inl 31)]) (m' := m) ((0, .aload_n 0, 1, 0, 0, 0, 0), (0, 0, 0)) [((1, .iload_n 1, 1, 0, 0, 0, 0), (0, 0, 0))] (by decide +kernel) rfl ?_
  refine hx_call (E := (2, .invokevirtual 71, 3, 17, 0, 2188, 0)) (M' := yp_m17) [.inr (.inl 31), .inl x1] [] rfl (by decide +kernel) rfl ⟨rfl, rfl⟩ rfl rfl (hs17_31 (fun c1 => ?_) (fun c1 => ?_))
  · have c1 : cYear 31 m x1 := c1
    show hxn xs n yp_m16 5 [(0, .inr (.inl 31)), (1, .inl x1), (2, .inl x2)] [.inl 1] m Q
    refine hx_if .ne 9 (by decide +kernel) (fun c2 => ?_) (fun c2 => ?_)
    · have c2 : (1 : Int) ≠ 0 := c2
      refine hx_blk (npc := 18) (L' := [(0, .inr (.inl 31)), (1, .inl x1), (2, .inl x2)]) (st' := [.inl x1, .inr (.inl 31)]) (m' := (gx_u m 38 (x1).toNat x2)) [((9, .aload_n 0, 1, 0, 0, 0, 0), (0, 0, 0)), ((10, .getfield 34, 3, 2, 11, 1111, 0), (1, 31, 38)), ((13, .iload_n 1, 1, 0, 0, 0, 0), (0, 0, 0)), ((14, .iload_n 2, 1, 0, 0, 0, 0), (0, 0, 0)), ((15, .iastore, 1, 0, 0, 0, 0), (0, 38, 0)), ((16, .aload_n 0, 1, 0, 0, 0, 0), (0, 0, 0)), ((17, .iload_n 1, 1, 0, 0, 0, 0), (0, 0, 0))] (by decide +kernel) rfl ?_
      exact hx_call (E := (18, .invokevirtual 81, 3, 18, 0, 2192, 0)) (M' := yp_m18) [.inr (.inl 31), .inl x1] [] rfl (by decide +kernel) rfl ⟨rfl, rfl⟩ rfl rfl (hx_mono (h1 c1) (fun r m' h' => hx_pick [0, 1, 2] h'))
    · have c2 : (1 : Int) = 0 := by have h : ¬ ((1 : Int) ≠ 0) := c2; omega
      exfalso; omega
  · have c1 : ¬ (cYear 31 m x1) := c1
    show hxn xs n yp_m16 5 [(0, .inr (.inl 31)), (1, .inl x1), (2, .inl x2)] [.inl 0] m Q
    refine hx_if .ne 9 (by decide +kernel) (fun c2 => ?_) (fun c2 => ?_)
    · have c2 : (0 : Int) ≠ 0 := c2
      exfalso; omega
    · have c2 : (0 : Int) = 0 := by have h : ¬ ((0 : Int) ≠ 0) := c2; omega
      exact hx_ret0 (by decide +kernel) (h2 c1)

/-- give from 21 on -/
theorem hr31_16_21 {xs : List Int32} {n : Nat} {Q : hQ} {m : gx_M} {x1 x2 : Int}
    (h1 : ((m 42 (x1).toNat) < 0) → Q none m)
    (h2 : (0 ≤ (m 42 (x1).toNat)) → ((m 42 (x1).toNat) < 16) → Q none (gx_u (gx_u m 43 (gx_w ((gx_w (x1 * 16)) + (m 42 (x1).toNat))).toNat x2) 42 (x1).toNat ((m 42 (x1).toNat) + 1)))
    (h3 : (0 ≤ (m 42 (x1).toNat)) → (16 ≤ (m 42 (x1).toNat)) → Q none m) : hxn xs (n + 1) yp_m16 21 [(0, .inr (.inl 31)), (1, .inl x1), (2, .inl x2)] [] m Q := by
  refine hx_blks (npc := 29) (L' := [(0, .inr (.inl 31)), (1, .inl x1), (2, .inl x2), (3, .inl (m 42 (x1).toNat))]) (st' := [.inl (m 42 (x1).toNat)]) (m' := m) ((21, .aload_n 0, 1, 0, 0, 0, 0), (0, 0, 0)) [((22, .getfield 46, 3, 2, 15, 1131, 0), (1, 31, 42)), ((25, .iload_n 1, 1, 0, 0, 0, 0), (0, 0, 0)), ((26, .iaload, 1, 0, 0, 0, 0), (0, 42, 0)), ((27, .istore_n 3, 1, 0, 0, 0, 0), (0, 0, 0)), ((28, .iload_n 3, 1, 0, 0, 0, 0), (0, 0, 0))] (by decide +kernel) rfl ?_
  refine hx_if .lt 38 (by decide +kernel) (fun c1 => ?_) (fun c1 => ?_)
  · have c1 : (m 42 (x1).toNat) < 0 := c1
    exact hx_ret0 (by decide +kernel) (h1 c1)
  · have c1 : 0 ≤ (m 42 (x1).toNat) := by have h : ¬ ((m 42 (x1).toNat) < 0) := c1; omega
    refine hx_blk (npc := 35) (L' := [(0, .inr (.inl 31)), (1, .inl x1), (2, .inl x2), (3, .inl (m 42 (x1).toNat))]) (st' := [.inl 16, .inl (m 42 (x1).toNat)]) (m' := m) [((32, .iload_n 3, 1, 0, 0, 0, 0), (0, 0, 0)), ((33, .bipush 16, 2, 0, 0, 0, 0), (0, 0, 0))] (by decide +kernel) rfl ?_
    refine hx_cmp .lt 39 (by decide +kernel) (fun c2 => ?_) (fun c2 => ?_)
    · have c2 : (m 42 (x1).toNat) < 16 := c2
      have e1 : gx_w ((m 42 (x1).toNat) + 1) = (m 42 (x1).toNat) + 1 := gx_w_id (by omega) (by omega)
      refine hx_blk (npc := 60) (L' := [(0, .inr (.inl 31)), (1, .inl x1), (2, .inl x2), (3, .inl (m 42 (x1).toNat))]) (st' := []) (m' := (gx_u (gx_u m 43 (gx_w ((gx_w (x1 * 16)) + (m 42 (x1).toNat))).toNat x2) 42 (x1).toNat (gx_w ((m 42 (x1).toNat) + 1)))) [((39, .aload_n 0, 1, 0, 0, 0, 0), (0, 0, 0)), ((40, .getfield 49, 3, 2, 16, 1136, 0), (1, 31, 43)), ((43, .iload_n 1, 1, 0, 0, 0, 0), (0, 0, 0)), ((44, .bipush 16, 2, 0, 0, 0, 0), (0, 0, 0)), ((46, .imul, 1, 0, 0, 0, 0), (0, 0, 0)), ((47, .iload_n 3, 1, 0, 0, 0, 0), (0, 0, 0)), ((48, .iadd, 1, 0, 0, 0, 0), (0, 0, 0)), ((49, .iload_n 2, 1, 0, 0, 0, 0), (0, 0, 0)), ((50, .iastore, 1, 0, 0, 0, 0), (0, 43, 0)), ((51, .aload_n 0, 1, 0, 0, 0, 0), (0, 0, 0)), ((52, .getfield 46, 3, 2, 15, 1131, 0), (1, 31, 42)), ((55, .iload_n 1, 1, 0, 0, 0, 0), (0, 0, 0)), ((56, .iload_n 3, 1, 0, 0, 0, 0), (0, 0, 0)), ((57, .iconst 1, 1, 0, 0, 0, 0), (0, 0, 0)), ((58, .iadd, 1, 0, 0, 0, 0), (0, 0, 0)), ((59, .iastore, 1, 0, 0, 0, 0), (0, 42, 0))] (by decide +kernel) rfl ?_
      rw [e1]
      exact hx_ret0 (by decide +kernel) (h2 c1 c2)
    · have c2 : 16 ≤ (m 42 (x1).toNat) := by have h : ¬ ((m 42 (x1).toNat) < 16) := c2; omega
      exact hx_ret0 (by decide +kernel) (h3 c1 c2)

/-- earn from 0 on -/
theorem hr31_69_0 {xs : List Int32} {n : Nat} {Q : hQ} {m : gx_M} {x1 x2 : Int}
    (h1 : (cPers 31 m x1) → Q none (gx_u m 32 (x1).toNat (if (gx_w ((m 32 (x1).toNat) + x2)) < 99999 then (gx_w ((m 32 (x1).toNat) + x2)) else 99999)))
    (h2 : (¬ (cPers 31 m x1)) → Q none m) : hxn xs (n + 1) yp_m69 0 [(0, .inr (.inl 31)), (1, .inl x1), (2, .inl x2)] [] m Q := by
  refine hx_blks (npc := 2) (L' := [(0, .inr (.inl 31)), (1, .inl x1), (2, .inl x2)]) (st' := [.inl x1, .inr (.inl 31)]) (m' := m) ((0, .aload_n 0, 1, 0, 0, 0, 0), (0, 0, 0)) [((1, .iload_n 1, 1, 0, 0, 0, 0), (0, 0, 0))] (by decide +kernel) rfl ?_
  refine hx_call (E := (2, .invokevirtual 89, 3, 13, 0, 3179, 0)) (M' := yp_m13) [.inr (.inl 31), .inl x1] [] rfl (by decide +kernel) rfl ⟨rfl, rfl⟩ rfl rfl (hs13_31 (fun c1 => ?_) (fun c1 => ?_))
  · have c1 : cPers 31 m x1 := c1
    show hxn xs n yp_m69 5 [(0, .inr (.inl 31)), (1, .inl x1), (2, .inl x2)] [.inl 1] m Q
    refine hx_if .eq 27 (by decide +kernel) (fun c2 => ?_) (fun c2 => ?_)
    · have c2 : (1 : Int) = 0 := c2
      exfalso; omega
    · have c2 : (1 : Int) ≠ 0 := c2
      refine hx_blk (npc := 27) (L' := [(0, .inr (.inl 31)), (1, .inl x1), (2, .inl x2)]) (st' := []) (m' := (gx_u m 32 (x1).toNat (if (gx_w ((m 32 (x1).toNat) + x2)) < 99999 then (gx_w ((m 32 (x1).toNat) + x2)) else 99999))) [((8, .aload_n 0, 1, 0, 0, 0, 0), (0, 0, 0)), ((9, .getfield 15, 3, 2, 5, 1089, 0), (1, 31, 32)), ((12, .iload_n 1, 1, 0, 0, 0, 0), (0, 0, 0)), ((13, .ldc 92, 2, 0, 0, 3184, 99999), (0, 0, 0)), ((15, .aload_n 0, 1, 0, 0, 0, 0), (0, 0, 0)), ((16, .getfield 15, 3, 2, 5, 1089, 0), (1, 31, 32)), ((19, .iload_n 1, 1, 0, 0, 0, 0), (0, 0, 0)), ((20, .iaload, 1, 0, 0, 0, 0), (0, 32, 0)), ((21, .iload_n 2, 1, 0, 0, 0, 0), (0, 0, 0)), ((22, .iadd, 1, 0, 0, 0, 0), (0, 0, 0)), ((23, .invokestatic 93, 3, 1003, 2221, 3185, 1013002222), (0, 0, 0)), ((26, .iastore, 1, 0, 0, 0, 0), (0, 32, 0))] (by decide +kernel) rfl ?_
      exact hx_ret0 (by decide +kernel) (h1 c1)
  · have c1 : ¬ (cPers 31 m x1) := c1
    show hxn xs n yp_m69 5 [(0, .inr (.inl 31)), (1, .inl x1), (2, .inl x2)] [.inl 0] m Q
    refine hx_if .eq 27 (by decide +kernel) (fun c2 => ?_) (fun c2 => ?_)
    · have c2 : (0 : Int) = 0 := c2
      exact hx_ret0 (by decide +kernel) (h2 c1)
    · have c2 : (0 : Int) ≠ 0 := c2
      exfalso; omega

/-- pay from 0 on -/
theorem hr31_68_0 {xs : List Int32} {n : Nat} {Q : hQ} {m : gx_M} {x1 x2 x3 : Int}
    (h1 : (cPers 31 m x1) → hxn xs n yp_m69 0 [(0, .inr (.inl 31)), (1, .inl x2), (2, .inl x3)] [] (gx_u m 32 (x1).toNat (gx_w ((m 32 (x1).toNat) - x3))) (fun r m' => hxn xs n yp_m68 25 [] (hrs r ++ []) m' Q))
    (h2 : (¬ (cPers 31 m x1)) → Q none m) : hxn xs (n + 1) yp_m68 0 [(0, .inr (.inl 31)), (1, .inl x1), (2, .inl x2), (3, .inl x3)] [] m Q := by
  refine hx_blks (npc := 2) (L' := [(0, .inr (.inl 31)), (1, .inl x1), (2, .inl x2), (3, .inl x3)]) (st' := [.inl x1, .inr (.inl 31)]) (m' := m) ((0, .aload_n 0, 1, 0, 0, 0, 0), (0, 0, 0)) [((1, .iload_n 1, 1, 0, 0, 0, 0), (0, 0, 0))] (by decide +kernel) rfl ?_
  refine hx_call (E := (2, .invokevirtual 89, 3, 13, 0, 3179, 0)) (M' := yp_m13) [.inr (.inl 31), .inl x1] [] rfl (by decide +kernel) rfl ⟨rfl, rfl⟩ rfl rfl (hs13_31 (fun c1 => ?_) (fun c1 => ?_))
  · have c1 : cPers 31 m x1 := c1
    show hxn xs n yp_m68 5 [(0, .inr (.inl 31)), (1, .inl x1), (2, .inl x2), (3, .inl x3)] [.inl 1] m Q
    refine hx_if .ne 9 (by decide +kernel) (fun c2 => ?_) (fun c2 => ?_)
    · have c2 : (1 : Int) ≠ 0 := c2
      refine hx_blk (npc := 22) (L' := [(0, .inr (.inl 31)), (1, .inl x1), (2, .inl x2), (3, .inl x3)]) (st' := [.inl x3, .inl x2, .inr (.inl 31)]) (m' := (gx_u m 32 (x1).toNat (gx_w ((m 32 (x1).toNat) - x3)))) [((9, .aload_n 0, 1, 0, 0, 0, 0), (0, 0, 0)), ((10, .getfield 15, 3, 2, 5, 1089, 0), (1, 31, 32)), ((13, .iload_n 1, 1, 0, 0, 0, 0), (0, 0, 0)), ((14, .dup2, 1, 0, 0, 0, 0), (0, 0, 0)), ((15, .iaload, 1, 0, 0, 0, 0), (0, 32, 0)), ((16, .iload_n 3, 1, 0, 0, 0, 0), (0, 0, 0)), ((17, .isub, 1, 0, 0, 0, 0), (0, 0, 0)), ((18, .iastore, 1, 0, 0, 0, 0), (0, 32, 0)), ((19, .aload_n 0, 1, 0, 0, 0, 0), (0, 0, 0)), ((20, .iload_n 2, 1, 0, 0, 0, 0), (0, 0, 0)), ((21, .iload_n 3, 1, 0, 0, 0, 0), (0, 0, 0))] (by decide +kernel) rfl ?_
      exact hx_call (E := (22, .invokevirtual 99, 3, 69, 0, 3180, 0)) (M' := yp_m69) [.inr (.inl 31), .inl x2, .inl x3] [] rfl (by decide +kernel) rfl ⟨rfl, rfl⟩ rfl rfl (hx_mono (h1 c1) (fun r m' h' => hx_pick [] h'))
    · have c2 : (1 : Int) = 0 := by have h : ¬ ((1 : Int) ≠ 0) := c2; omega
      exfalso; omega
  · have c1 : ¬ (cPers 31 m x1) := c1
    show hxn xs n yp_m68 5 [(0, .inr (.inl 31)), (1, .inl x1), (2, .inl x2), (3, .inl x3)] [.inl 0] m Q
    refine hx_if .ne 9 (by decide +kernel) (fun c2 => ?_) (fun c2 => ?_)
    · have c2 : (0 : Int) ≠ 0 := c2
      exfalso; omega
    · have c2 : (0 : Int) = 0 := by have h : ¬ ((0 : Int) ≠ 0) := c2; omega
      exact hx_ret0 (by decide +kernel) (h2 c1)

/-- pay from 25 on -/
theorem hr31_68_25 {xs : List Int32} {n : Nat} {Q : hQ} {m : gx_M}
    (h1 : Q none m) : hxn xs (n + 1) yp_m68 25 [] [] m Q := by
  exact hx_ret0 (by decide +kernel) h1

/-- carryOut from 0 on -/
theorem hr31_67_0 {xs : List Int32} {n : Nat} {Q : hQ} {m : gx_M} {x2 : Int}
    (h1 : (x2 < 0) → Q none m)
    (h2 : (0 ≤ x2) → (16 ≤ x2) → Q none m)
    (h3 : (0 ≤ x2) → (x2 < 16) → (cYear 31 m (m 62 (x2).toNat)) → ((m 64 (x2).toNat) ≠ 91) → hxn xs n yp_m68 0 [(0, .inr (.inl 31)), (1, .inl (m 65 (x2).toNat)), (2, .inl (m 63 (x2).toNat)), (3, .inl (m 66 (x2).toNat))] [] m (fun r m' => hxn xs n yp_m67 92 [(0, .inr (.inl 61)), (1, .inr (.inl 31)), (2, .inl x2), (3, .inl (m 62 (x2).toNat)), (5, .inl (m 65 (x2).toNat))] (hrs r ++ []) m' Q))
    (h4 : (0 ≤ x2) → (x2 < 16) → (cYear 31 m (m 62 (x2).toNat)) → ((m 64 (x2).toNat) = 91) → hxn xs n yp_m68 0 [(0, .inr (.inl 31)), (1, .inl (m 63 (x2).toNat)), (2, .inl (m 65 (x2).toNat)), (3, .inl (m 41 (m 62 (x2).toNat).toNat))] [] m (fun r m' => hxn xs n yp_m67 72 [(1, .inr (.inl 31)), (3, .inl (m 62 (x2).toNat))] (hrs r ++ []) m' Q))
    (h5 : (0 ≤ x2) → (x2 < 16) → (¬ (cYear 31 m (m 62 (x2).toNat))) → Q none m) : hxn xs (n + 1) yp_m67 0 [(0, .inr (.inl 61)), (1, .inr (.inl 31)), (2, .inl x2)] [] m Q := by
  refine hx_blks (npc := 1) (L' := [(0, .inr (.inl 61)), (1, .inr (.inl 31)), (2, .inl x2)]) (st' := [.inl x2]) (m' := m) ((0, .iload_n 2, 1, 0, 0, 0, 0), (0, 0, 0)) [] (by decide +kernel) rfl ?_
  refine hx_if .lt 23 (by decide +kernel) (fun c1 => ?_) (fun c1 => ?_)
  · have c1 : x2 < 0 := c1
    exact hx_ret0 (by decide +kernel) (h1 c1)
  · have c1 : 0 ≤ x2 := by have h : ¬ (x2 < 0) := c1; omega
    refine hx_blk (npc := 7) (L' := [(0, .inr (.inl 61)), (1, .inr (.inl 31)), (2, .inl x2)]) (st' := [.inl 16, .inl x2]) (m' := m) [((4, .iload_n 2, 1, 0, 0, 0, 0), (0, 0, 0)), ((5, .bipush 16, 2, 0, 0, 0, 0), (0, 0, 0))] (by decide +kernel) rfl ?_
    refine hx_cmp .ge 23 (by decide +kernel) (fun c2 => ?_) (fun c2 => ?_)
    · have c2 : 16 ≤ x2 := c2
      exact hx_ret0 (by decide +kernel) (h2 c1 c2)
    · have c2 : x2 < 16 := by have h : ¬ (16 ≤ x2) := c2; omega
      refine hx_blk (npc := 17) (L' := [(0, .inr (.inl 61)), (1, .inr (.inl 31)), (2, .inl x2)]) (st' := [.inl (m 62 (x2).toNat), .inr (.inl 31)]) (m' := m) [((10, .aload_n 1, 1, 0, 0, 0, 0), (0, 0, 0)), ((11, .aload_n 0, 1, 0, 0, 0, 0), (0, 0, 0)), ((12, .getfield 9, 3, 5, 0, 1237, 0), (1, 61, 62)), ((15, .iload_n 2, 1, 0, 0, 0, 0), (0, 0, 0)), ((16, .iaload, 1, 0, 0, 0, 0), (0, 62, 0))] (by decide +kernel) rfl ?_
      refine hx_call (E := (17, .invokevirtual 79, 3, 17, 0, 3117, 0)) (M' := yp_m17) [.inr (.inl 31), .inl (m 62 (x2).toNat)] [] rfl (by decide +kernel) rfl ⟨rfl, rfl⟩ rfl rfl (hs17_31 (fun c3 => ?_) (fun c3 => ?_))
      · have c3 : cYear 31 m (m 62 (x2).toNat) := c3
        show hxn xs n yp_m67 20 [(0, .inr (.inl 61)), (1, .inr (.inl 31)), (2, .inl x2)] [.inl 1] m Q
        refine hx_if .ne 24 (by decide +kernel) (fun c4 => ?_) (fun c4 => ?_)
        · have c4 : (1 : Int) ≠ 0 := c4
          refine hx_blk (npc := 55) (L' := [(0, .inr (.inl 61)), (1, .inr (.inl 31)), (2, .inl x2), (3, .inl (m 62 (x2).toNat)), (4, .inl (m 63 (x2).toNat)), (5, .inl (m 65 (x2).toNat))]) (st' := [.inl 91, .inl (m 64 (x2).toNat)]) (m' := m) [((24, .aload_n 0, 1, 0, 0, 0, 0), (0, 0, 0)), ((25, .getfield 9, 3, 5, 0, 1237, 0), (1, 61, 62)), ((28, .iload_n 2, 1, 0, 0, 0, 0), (0, 0, 0)), ((29, .iaload, 1, 0, 0, 0, 0), (0, 62, 0)), ((30, .istore_n 3, 1, 0, 0, 0, 0), (0, 0, 0)), ((31, .aload_n 0, 1, 0, 0, 0, 0), (0, 0, 0)), ((32, .getfield 15, 3, 5, 1, 1238, 0), (1, 61, 63)), ((35, .iload_n 2, 1, 0, 0, 0, 0), (0, 0, 0)), ((36, .iaload, 1, 0, 0, 0, 0), (0, 63, 0)), ((37, .istore 4, 2, 0, 0, 0, 0), (0, 0, 0)), ((39, .aload_n 0, 1, 0, 0, 0, 0), (0, 0, 0)), ((40, .getfield 21, 3, 5, 3, 2000, 0), (1, 61, 65)), ((43, .iload_n 2, 1, 0, 0, 0, 0), (0, 0, 0)), ((44, .iaload, 1, 0, 0, 0, 0), (0, 65, 0)), ((45, .istore 5, 2, 0, 0, 0, 0), (0, 0, 0)), ((47, .aload_n 0, 1, 0, 0, 0, 0), (0, 0, 0)), ((48, .getfield 18, 3, 5, 2, 1239, 0), (1, 61, 64)), ((51, .iload_n 2, 1, 0, 0, 0, 0), (0, 0, 0)), ((52, .iaload, 1, 0, 0, 0, 0), (0, 64, 0)), ((53, .bipush 91, 2, 0, 0, 0, 0), (0, 0, 0))] (by decide +kernel) rfl ?_
          refine hx_cmp .ne 78 (by decide +kernel) (fun c4 => ?_) (fun c4 => ?_)
          · have c4 : (m 64 (x2).toNat) ≠ 91 := c4
            refine hx_blk (npc := 89) (L' := [(0, .inr (.inl 61)), (1, .inr (.inl 31)), (2, .inl x2), (3, .inl (m 62 (x2).toNat)), (4, .inl (m 63 (x2).toNat)), (5, .inl (m 65 (x2).toNat))]) (st' := [.inl (m 66 (x2).toNat), .inl (m 63 (x2).toNat), .inl (m 65 (x2).toNat), .inr (.inl 31)]) (m' := m) [((78, .aload_n 1, 1, 0, 0, 0, 0), (0, 0, 0)), ((79, .iload 5, 2, 0, 0, 0, 0), (0, 0, 0)), ((81, .iload 4, 2, 0, 0, 0, 0), (0, 0, 0)), ((83, .aload_n 0, 1, 0, 0, 0, 0), (0, 0, 0)), ((84, .getfield 24, 3, 5, 4, 2001, 0), (1, 61, 66)), ((87, .iload_n 2, 1, 0, 0, 0, 0), (0, 0, 0)), ((88, .iaload, 1, 0, 0, 0, 0), (0, 66, 0))] (by decide +kernel) rfl ?_
            exact hx_call (E := (89, .invokevirtual 113, 3, 68, 0, 3175, 0)) (M' := yp_m68) [.inr (.inl 31), .inl (m 65 (x2).toNat), .inl (m 63 (x2).toNat), .inl (m 66 (x2).toNat)] [] rfl (by decide +kernel) rfl ⟨rfl, rfl⟩ rfl rfl (hx_mono (h3 c1 c2 c3 c4) (fun r m' h' => hx_pick [0, 1, 2, 3, 5] h'))
          · have c4 : (m 64 (x2).toNat) = 91 := by have h : ¬ ((m 64 (x2).toNat) ≠ 91) := c4; omega
            refine hx_blk (npc := 69) (L' := [(0, .inr (.inl 61)), (1, .inr (.inl 31)), (2, .inl x2), (3, .inl (m 62 (x2).toNat)), (4, .inl (m 63 (x2).toNat)), (5, .inl (m 65 (x2).toNat))]) (st' := [.inl (m 41 (m 62 (x2).toNat).toNat), .inl (m 65 (x2).toNat), .inl (m 63 (x2).toNat), .inr (.inl 31)]) (m' := m) [((58, .aload_n 1, 1, 0, 0, 0, 0), (0, 0, 0)), ((59, .iload 4, 2, 0, 0, 0, 0), (0, 0, 0)), ((61, .iload 5, 2, 0, 0, 0, 0), (0, 0, 0)), ((63, .aload_n 1, 1, 0, 0, 0, 0), (0, 0, 0)), ((64, .getfield 96, 3, 2, 14, 1129, 0), (1, 31, 41)), ((67, .iload_n 3, 1, 0, 0, 0, 0), (0, 0, 0)), ((68, .iaload, 1, 0, 0, 0, 0), (0, 41, 0))] (by decide +kernel) rfl ?_
            exact hx_call (E := (69, .invokevirtual 113, 3, 68, 0, 3175, 0)) (M' := yp_m68) [.inr (.inl 31), .inl (m 63 (x2).toNat), .inl (m 65 (x2).toNat), .inl (m 41 (m 62 (x2).toNat).toNat)] [] rfl (by decide +kernel) rfl ⟨rfl, rfl⟩ rfl rfl (hx_mono (h4 c1 c2 c3 c4) (fun r m' h' => hx_pick [1, 3] h'))
        · have c4 : (1 : Int) = 0 := by have h : ¬ ((1 : Int) ≠ 0) := c4; omega
          exfalso; omega
      · have c3 : ¬ (cYear 31 m (m 62 (x2).toNat)) := c3
        show hxn xs n yp_m67 20 [(0, .inr (.inl 61)), (1, .inr (.inl 31)), (2, .inl x2)] [.inl 0] m Q
        refine hx_if .ne 24 (by decide +kernel) (fun c4 => ?_) (fun c4 => ?_)
        · have c4 : (0 : Int) ≠ 0 := c4
          exfalso; omega
        · have c4 : (0 : Int) = 0 := by have h : ¬ ((0 : Int) ≠ 0) := c4; omega
          exact hx_ret0 (by decide +kernel) (h5 c1 c2 c3)

/-- carryOut from 72 on -/
theorem hr31_67_72 {xs : List Int32} {n : Nat} {Q : hQ} {m : gx_M} {x3 : Int}
    (h1 : hxn xs n yp_m18 0 [(0, .inr (.inl 31)), (1, .inl x3)] [] m (fun r m' => hxn xs n yp_m67 77 [] (hrs r ++ []) m' Q)) : hxn xs (n + 1) yp_m67 72 [(1, .inr (.inl 31)), (3, .inl x3)] [] m Q := by
  refine hx_blks (npc := 74) (L' := [(1, .inr (.inl 31)), (3, .inl x3)]) (st' := [.inl x3, .inr (.inl 31)]) (m' := m) ((72, .aload_n 1, 1, 0, 0, 0, 0), (0, 0, 0)) [((73, .iload_n 3, 1, 0, 0, 0, 0), (0, 0, 0))] (by decide +kernel) rfl ?_
  exact hx_call (E := (74, .invokevirtual 117, 3, 18, 0, 3186, 0)) (M' := yp_m18) [.inr (.inl 31), .inl x3] [] rfl (by decide +kernel) rfl ⟨rfl, rfl⟩ rfl rfl (hx_mono h1 (fun r m' h' => hx_pick [] h'))

/-- carryOut from 77 on -/
theorem hr31_67_77 {xs : List Int32} {n : Nat} {Q : hQ} {m : gx_M}
    (h1 : Q none m) : hxn xs (n + 1) yp_m67 77 [] [] m Q := by
  exact hx_ret0 (by decide +kernel) h1

/-- carryOut from 92 on -/
theorem hr31_67_92 {xs : List Int32} {n : Nat} {Q : hQ} {m : gx_M} {x2 x3 x5 : Int}
    (h1 : ((m 64 (x2).toNat) ≠ 93) → hxn xs n yp_m16 0 [(0, .inr (.inl 31)), (1, .inl x3), (2, .inl x5)] [] m (fun r m' => hxn xs n yp_m67 126 [] (hrs r ++ []) m' Q))
    (h2 : ((m 64 (x2).toNat) = 93) → hxn xs n yp_m19 0 [(0, .inr (.inl 31)), (1, .inl x3), (2, .inl x5), (3, .inl (m 66 (x2).toNat))] [] m (fun r m' => hxn xs n yp_m67 116 [] (hrs r ++ []) m' Q)) : hxn xs (n + 1) yp_m67 92 [(0, .inr (.inl 61)), (1, .inr (.inl 31)), (2, .inl x2), (3, .inl x3), (5, .inl x5)] [] m Q := by
  refine hx_blks (npc := 100) (L' := [(0, .inr (.inl 61)), (1, .inr (.inl 31)), (2, .inl x2), (3, .inl x3), (5, .inl x5)]) (st' := [.inl 93, .inl (m 64 (x2).toNat)]) (m' := m) ((92, .aload_n 0, 1, 0, 0, 0, 0), (0, 0, 0)) [((93, .getfield 18, 3, 5, 2, 1239, 0), (1, 61, 64)), ((96, .iload_n 2, 1, 0, 0, 0, 0), (0, 0, 0)), ((97, .iaload, 1, 0, 0, 0, 0), (0, 64, 0)), ((98, .bipush 93, 2, 0, 0, 0, 0), (0, 0, 0))] (by decide +kernel) rfl ?_
  refine hx_cmp .ne 119 (by decide +kernel) (fun c1 => ?_) (fun c1 => ?_)
  · have c1 : (m 64 (x2).toNat) ≠ 93 := c1
    refine hx_blk (npc := 123) (L' := [(0, .inr (.inl 61)), (1, .inr (.inl 31)), (2, .inl x2), (3, .inl x3), (5, .inl x5)]) (st' := [.inl x5, .inl x3, .inr (.inl 31)]) (m' := m) [((119, .aload_n 1, 1, 0, 0, 0, 0), (0, 0, 0)), ((120, .iload_n 3, 1, 0, 0, 0, 0), (0, 0, 0)), ((121, .iload 5, 2, 0, 0, 0, 0), (0, 0, 0))] (by decide +kernel) rfl ?_
    exact hx_call (E := (123, .invokevirtual 124, 3, 16, 0, 3188, 0)) (M' := yp_m16) [.inr (.inl 31), .inl x3, .inl x5] [] rfl (by decide +kernel) rfl ⟨rfl, rfl⟩ rfl rfl (hx_mono (h1 c1) (fun r m' h' => hx_pick [] h'))
  · have c1 : (m 64 (x2).toNat) = 93 := by have h : ¬ ((m 64 (x2).toNat) ≠ 93) := c1; omega
    refine hx_blk (npc := 113) (L' := [(0, .inr (.inl 61)), (1, .inr (.inl 31)), (2, .inl x2), (3, .inl x3), (5, .inl x5)]) (st' := [.inl (m 66 (x2).toNat), .inl x5, .inl x3, .inr (.inl 31)]) (m' := m) [((103, .aload_n 1, 1, 0, 0, 0, 0), (0, 0, 0)), ((104, .iload_n 3, 1, 0, 0, 0, 0), (0, 0, 0)), ((105, .iload 5, 2, 0, 0, 0, 0), (0, 0, 0)), ((107, .aload_n 0, 1, 0, 0, 0, 0), (0, 0, 0)), ((108, .getfield 24, 3, 5, 4, 2001, 0), (1, 61, 66)), ((111, .iload_n 2, 1, 0, 0, 0, 0), (0, 0, 0)), ((112, .iaload, 1, 0, 0, 0, 0), (0, 66, 0))] (by decide +kernel) rfl ?_
    exact hx_call (E := (113, .invokevirtual 121, 3, 19, 0, 3187, 0)) (M' := yp_m19) [.inr (.inl 31), .inl x3, .inl x5, .inl (m 66 (x2).toNat)] [] rfl (by decide +kernel) rfl ⟨rfl, rfl⟩ rfl rfl (hx_mono (h2 c1) (fun r m' h' => hx_pick [] h'))

/-- carryOut from 116 on -/
theorem hr31_67_116 {xs : List Int32} {n : Nat} {Q : hQ} {m : gx_M}
    (h1 : Q none m) : hxn xs (n + 1) yp_m67 116 [] [] m Q := by
  refine hx_blks (npc := 126) (L' := []) (st' := []) (m' := m) ((116, .goto 10, 3, 0, 0, 0, 0), (0, 0, 0)) [] (by decide +kernel) rfl ?_
  exact hx_ret0 (by decide +kernel) h1

/-- carryOut from 126 on -/
theorem hr31_67_126 {xs : List Int32} {n : Nat} {Q : hQ} {m : gx_M}
    (h1 : Q none m) : hxn xs (n + 1) yp_m67 126 [] [] m Q := by
  exact hx_ret0 (by decide +kernel) h1

/-- canBe from 0 on -/
theorem hr31_54_0 {xs : List Int32} {n : Nat} {Q : hQ} {m : gx_M} {x3 : Int}
    (h1 : (x3 < 0) → Q (some (.inl 0)) m)
    (h2 : (0 ≤ x3) → ((m 61 5) ≤ x3) → Q (some (.inl 0)) m)
    (h3 : (0 ≤ x3) → (x3 < (m 61 5)) → (x3 < 16) → (cYear 31 m (m 62 (x3).toNat)) → (cPers 31 m (m 63 (x3).toNat)) → (cPers 31 m (m 65 (x3).toNat)) → ((m 38 (m 62 (x3).toNat).toNat) = (m 63 (x3).toNat)) → ((m 64 (x3).toNat) ≠ 91) → ((m 39 (m 62 (x3).toNat).toNat) ≠ (-2)) → Q (some (.inl 0)) m)
    (h4 : (0 ≤ x3) → (x3 < (m 61 5)) → (x3 < 16) → (cYear 31 m (m 62 (x3).toNat)) → (cPers 31 m (m 63 (x3).toNat)) → (cPers 31 m (m 65 (x3).toNat)) → ((m 38 (m 62 (x3).toNat).toNat) = (m 63 (x3).toNat)) → ((m 64 (x3).toNat) ≠ 91) → ((m 39 (m 62 (x3).toNat).toNat) = (-2)) → ((m 32 (m 65 (x3).toNat).toNat) < (m 66 (x3).toNat)) → Q (some (.inl 0)) m)
    (h5 : (0 ≤ x3) → (x3 < (m 61 5)) → (x3 < 16) → (cYear 31 m (m 62 (x3).toNat)) → (cPers 31 m (m 63 (x3).toNat)) → (cPers 31 m (m 65 (x3).toNat)) → ((m 38 (m 62 (x3).toNat).toNat) = (m 63 (x3).toNat)) → ((m 64 (x3).toNat) ≠ 91) → ((m 39 (m 62 (x3).toNat).toNat) = (-2)) → ((m 66 (x3).toNat) ≤ (m 32 (m 65 (x3).toNat).toNat)) → hxn xs n yp_m55 0 [(0, .inr (.inl 44)), (1, .inr (.inl 31)), (2, .inl (m 62 (x3).toNat)), (3, .inl (m 65 (x3).toNat)), (4, .inl (m 66 (x3).toNat))] [] m (fun r m' => hxn xs n yp_m54 174 [] (hrs r ++ []) m' Q))
    (h6 : (0 ≤ x3) → (x3 < (m 61 5)) → (x3 < 16) → (cYear 31 m (m 62 (x3).toNat)) → (cPers 31 m (m 63 (x3).toNat)) → (cPers 31 m (m 65 (x3).toNat)) → ((m 38 (m 62 (x3).toNat).toNat) = (m 63 (x3).toNat)) → ((m 64 (x3).toNat) = 91) → ((m 39 (m 62 (x3).toNat).toNat) ≠ (m 65 (x3).toNat)) → Q (some (.inl 0)) m)
    (h7 : (0 ≤ x3) → (x3 < (m 61 5)) → (x3 < 16) → (cYear 31 m (m 62 (x3).toNat)) → (cPers 31 m (m 63 (x3).toNat)) → (cPers 31 m (m 65 (x3).toNat)) → ((m 38 (m 62 (x3).toNat).toNat) = (m 63 (x3).toNat)) → ((m 64 (x3).toNat) = 91) → ((m 39 (m 62 (x3).toNat).toNat) = (m 65 (x3).toNat)) → ((m 32 (m 63 (x3).toNat).toNat) < (m 41 (m 62 (x3).toNat).toNat)) → Q (some (.inl 0)) m)
    (h8 : (0 ≤ x3) → (x3 < (m 61 5)) → (x3 < 16) → (cYear 31 m (m 62 (x3).toNat)) → (cPers 31 m (m 63 (x3).toNat)) → (cPers 31 m (m 65 (x3).toNat)) → ((m 38 (m 62 (x3).toNat).toNat) = (m 63 (x3).toNat)) → ((m 64 (x3).toNat) = 91) → ((m 39 (m 62 (x3).toNat).toNat) = (m 65 (x3).toNat)) → ((m 41 (m 62 (x3).toNat).toNat) ≤ (m 32 (m 63 (x3).toNat).toNat)) → Q (some (.inl 1)) m)
    (h9 : (0 ≤ x3) → (x3 < (m 61 5)) → (x3 < 16) → (cYear 31 m (m 62 (x3).toNat)) → (cPers 31 m (m 63 (x3).toNat)) → (cPers 31 m (m 65 (x3).toNat)) → ((m 38 (m 62 (x3).toNat).toNat) ≠ (m 63 (x3).toNat)) → Q (some (.inl 0)) m)
    (h10 : (0 ≤ x3) → (x3 < (m 61 5)) → (x3 < 16) → (cYear 31 m (m 62 (x3).toNat)) → (cPers 31 m (m 63 (x3).toNat)) → (¬ (cPers 31 m (m 65 (x3).toNat))) → Q (some (.inl 0)) m)
    (h11 : (0 ≤ x3) → (x3 < (m 61 5)) → (x3 < 16) → (cYear 31 m (m 62 (x3).toNat)) → (¬ (cPers 31 m (m 63 (x3).toNat))) → Q (some (.inl 0)) m)
    (h12 : (0 ≤ x3) → (x3 < (m 61 5)) → (x3 < 16) → (¬ (cYear 31 m (m 62 (x3).toNat))) → Q (some (.inl 0)) m)
    (h13 : (0 ≤ x3) → (x3 < (m 61 5)) → (16 ≤ x3) → Q (some (.inl 0)) m) : hxn xs (n + 1) yp_m54 0 [(0, .inr (.inl 61)), (1, .inr (.inl 31)), (2, .inr (.inl 44)), (3, .inl x3)] [] m Q := by
  refine hx_blks (npc := 1) (L' := [(0, .inr (.inl 61)), (1, .inr (.inl 31)), (2, .inr (.inl 44)), (3, .inl x3)]) (st' := [.inl x3]) (m' := m) ((0, .iload_n 3, 1, 0, 0, 0, 0), (0, 0, 0)) [] (by decide +kernel) rfl ?_
  refine hx_if .lt 18 (by decide +kernel) (fun c1 => ?_) (fun c1 => ?_)
  · have c1 : x3 < 0 := c1
    refine hx_blk (npc := 19) (L' := [(0, .inr (.inl 61)), (1, .inr (.inl 31)), (2, .inr (.inl 44)), (3, .inl x3)]) (st' := [.inl 0]) (m' := m) [((18, .iconst 0, 1, 0, 0, 0, 0), (0, 0, 0))] (by decide +kernel) rfl ?_
    exact hx_reti (by decide +kernel) (h1 c1)
  · have c1 : 0 ≤ x3 := by have h : ¬ (x3 < 0) := c1; omega
    refine hx_blk (npc := 9) (L' := [(0, .inr (.inl 61)), (1, .inr (.inl 31)), (2, .inr (.inl 44)), (3, .inl x3)]) (st' := [.inl (m 61 5), .inl x3]) (m' := m) [((4, .iload_n 3, 1, 0, 0, 0, 0), (0, 0, 0)), ((5, .aload_n 0, 1, 0, 0, 0, 0), (0, 0, 0)), ((6, .getfield 33, 3, 5, 5, 2002, 0), (0, 61, 0))] (by decide +kernel) rfl ?_
    refine hx_cmp .ge 18 (by decide +kernel) (fun c2 => ?_) (fun c2 => ?_)
    · have c2 : (m 61 5) ≤ x3 := c2
      refine hx_blk (npc := 19) (L' := [(0, .inr (.inl 61)), (1, .inr (.inl 31)), (2, .inr (.inl 44)), (3, .inl x3)]) (st' := [.inl 0]) (m' := m) [((18, .iconst 0, 1, 0, 0, 0, 0), (0, 0, 0))] (by decide +kernel) rfl ?_
      exact hx_reti (by decide +kernel) (h2 c1 c2)
    · have c2 : x3 < (m 61 5) := by have h : ¬ ((m 61 5) ≤ x3) := c2; omega
      refine hx_blk (npc := 15) (L' := [(0, .inr (.inl 61)), (1, .inr (.inl 31)), (2, .inr (.inl 44)), (3, .inl x3)]) (st' := [.inl 16, .inl x3]) (m' := m) [((12, .iload_n 3, 1, 0, 0, 0, 0), (0, 0, 0)), ((13, .bipush 16, 2, 0, 0, 0, 0), (0, 0, 0))] (by decide +kernel) rfl ?_
      refine hx_cmp .lt 20 (by decide +kernel) (fun c3 => ?_) (fun c3 => ?_)
      · have c3 : x3 < 16 := c3
        refine hx_blk (npc := 47) (L' := [(0, .inr (.inl 61)), (1, .inr (.inl 31)), (2, .inr (.inl 44)), (3, .inl x3), (4, .inl (m 62 (x3).toNat)), (5, .inl (m 63 (x3).toNat)), (6, .inl (m 65 (x3).toNat))]) (st' := [.inl (m 62 (x3).toNat), .inr (.inl 31)]) (m' := m) [((20, .aload_n 0, 1, 0, 0, 0, 0), (0, 0, 0)), ((21, .getfield 9, 3, 5, 0, 1237, 0), (1, 61, 62)), ((24, .iload_n 3, 1, 0, 0, 0, 0), (0, 0, 0)), ((25, .iaload, 1, 0, 0, 0, 0), (0, 62, 0)), ((26, .istore 4, 2, 0, 0, 0, 0), (0, 0, 0)), ((28, .aload_n 0, 1, 0, 0, 0, 0), (0, 0, 0)), ((29, .getfield 15, 3, 5, 1, 1238, 0), (1, 61, 63)), ((32, .iload_n 3, 1, 0, 0, 0, 0), (0, 0, 0)), ((33, .iaload, 1, 0, 0, 0, 0), (0, 63, 0)), ((34, .istore 5, 2, 0, 0, 0, 0), (0, 0, 0)), ((36, .aload_n 0, 1, 0, 0, 0, 0), (0, 0, 0)), ((37, .getfield 21, 3, 5, 3, 2000, 0), (1, 61, 65)), ((40, .iload_n 3, 1, 0, 0, 0, 0), (0, 0, 0)), ((41, .iaload, 1, 0, 0, 0, 0), (0, 65, 0)), ((42, .istore 6, 2, 0, 0, 0, 0), (0, 0, 0)), ((44, .aload_n 1, 1, 0, 0, 0, 0), (0, 0, 0)), ((45, .iload 4, 2, 0, 0, 0, 0), (0, 0, 0))] (by decide +kernel) rfl ?_
        refine hx_call (E := (47, .invokevirtual 79, 3, 17, 0, 3117, 0)) (M' := yp_m17) [.inr (.inl 31), .inl (m 62 (x3).toNat)] [] rfl (by decide +kernel) rfl ⟨rfl, rfl⟩ rfl rfl (hs17_31 (fun c4 => ?_) (fun c4 => ?_))
        · have c4 : cYear 31 m (m 62 (x3).toNat) := c4
          show hxn xs n yp_m54 50 [(0, .inr (.inl 61)), (1, .inr (.inl 31)), (2, .inr (.inl 44)), (3, .inl x3), (4, .inl (m 62 (x3).toNat)), (5, .inl (m 63 (x3).toNat)), (6, .inl (m 65 (x3).toNat))] [.inl 1] m Q
          refine hx_if .eq 83 (by decide +kernel) (fun c5 => ?_) (fun c5 => ?_)
          · have c5 : (1 : Int) = 0 := c5
            exfalso; omega
          · have c5 : (1 : Int) ≠ 0 := c5
            refine hx_blk (npc := 56) (L' := [(0, .inr (.inl 61)), (1, .inr (.inl 31)), (2, .inr (.inl 44)), (3, .inl x3), (4, .inl (m 62 (x3).toNat)), (5, .inl (m 63 (x3).toNat)), (6, .inl (m 65 (x3).toNat))]) (st' := [.inl (m 63 (x3).toNat), .inr (.inl 31)]) (m' := m) [((53, .aload_n 1, 1, 0, 0, 0, 0), (0, 0, 0)), ((54, .iload 5, 2, 0, 0, 0, 0), (0, 0, 0))] (by decide +kernel) rfl ?_
            refine hx_call (E := (56, .invokevirtual 84, 3, 13, 0, 3118, 0)) (M' := yp_m13) [.inr (.inl 31), .inl (m 63 (x3).toNat)] [] rfl (by decide +kernel) rfl ⟨rfl, rfl⟩ rfl rfl (hs13_31 (fun c5 => ?_) (fun c5 => ?_))
            · have c5 : cPers 31 m (m 63 (x3).toNat) := c5
              show hxn xs n yp_m54 59 [(0, .inr (.inl 61)), (1, .inr (.inl 31)), (2, .inr (.inl 44)), (3, .inl x3), (4, .inl (m 62 (x3).toNat)), (5, .inl (m 63 (x3).toNat)), (6, .inl (m 65 (x3).toNat))] [.inl 1] m Q
              refine hx_if .eq 83 (by decide +kernel) (fun c6 => ?_) (fun c6 => ?_)
              · have c6 : (1 : Int) = 0 := c6
                exfalso; omega
              · have c6 : (1 : Int) ≠ 0 := c6
                refine hx_blk (npc := 65) (L' := [(0, .inr (.inl 61)), (1, .inr (.inl 31)), (2, .inr (.inl 44)), (3, .inl x3), (4, .inl (m 62 (x3).toNat)), (5, .inl (m 63 (x3).toNat)), (6, .inl (m 65 (x3).toNat))]) (st' := [.inl (m 65 (x3).toNat), .inr (.inl 31)]) (m' := m) [((62, .aload_n 1, 1, 0, 0, 0, 0), (0, 0, 0)), ((63, .iload 6, 2, 0, 0, 0, 0), (0, 0, 0))] (by decide +kernel) rfl ?_
                refine hx_call (E := (65, .invokevirtual 84, 3, 13, 0, 3118, 0)) (M' := yp_m13) [.inr (.inl 31), .inl (m 65 (x3).toNat)] [] rfl (by decide +kernel) rfl ⟨rfl, rfl⟩ rfl rfl (hs13_31 (fun c6 => ?_) (fun c6 => ?_))
                · have c6 : cPers 31 m (m 65 (x3).toNat) := c6
                  show hxn xs n yp_m54 68 [(0, .inr (.inl 61)), (1, .inr (.inl 31)), (2, .inr (.inl 44)), (3, .inl x3), (4, .inl (m 62 (x3).toNat)), (5, .inl (m 63 (x3).toNat)), (6, .inl (m 65 (x3).toNat))] [.inl 1] m Q
                  refine hx_if .eq 83 (by decide +kernel) (fun c7 => ?_) (fun c7 => ?_)
                  · have c7 : (1 : Int) = 0 := c7
                    exfalso; omega
                  · have c7 : (1 : Int) ≠ 0 := c7
                    refine hx_blk (npc := 80) (L' := [(0, .inr (.inl 61)), (1, .inr (.inl 31)), (2, .inr (.inl 44)), (3, .inl x3), (4, .inl (m 62 (x3).toNat)), (5, .inl (m 63 (x3).toNat)), (6, .inl (m 65 (x3).toNat))]) (st' := [.inl (m 63 (x3).toNat), .inl (m 38 (m 62 (x3).toNat).toNat)]) (m' := m) [((71, .aload_n 1, 1, 0, 0, 0, 0), (0, 0, 0)), ((72, .getfield 87, 3, 2, 11, 1115, 0), (1, 31, 38)), ((75, .iload 4, 2, 0, 0, 0, 0), (0, 0, 0)), ((77, .iaload, 1, 0, 0, 0, 0), (0, 38, 0)), ((78, .iload 5, 2, 0, 0, 0, 0), (0, 0, 0))] (by decide +kernel) rfl ?_
                    refine hx_cmp .eq 85 (by decide +kernel) (fun c7 => ?_) (fun c7 => ?_)
                    · have c7 : (m 38 (m 62 (x3).toNat).toNat) = (m 63 (x3).toNat) := c7
                      refine hx_blk (npc := 93) (L' := [(0, .inr (.inl 61)), (1, .inr (.inl 31)), (2, .inr (.inl 44)), (3, .inl x3), (4, .inl (m 62 (x3).toNat)), (5, .inl (m 63 (x3).toNat)), (6, .inl (m 65 (x3).toNat))]) (st' := [.inl 91, .inl (m 64 (x3).toNat)]) (m' := m) [((85, .aload_n 0, 1, 0, 0, 0, 0), (0, 0, 0)), ((86, .getfield 18, 3, 5, 2, 1239, 0), (1, 61, 64)), ((89, .iload_n 3, 1, 0, 0, 0, 0), (0, 0, 0)), ((90, .iaload, 1, 0, 0, 0, 0), (0, 64, 0)), ((91, .bipush 91, 2, 0, 0, 0, 0), (0, 0, 0))] (by decide +kernel) rfl ?_
                      refine hx_cmp .ne 131 (by decide +kernel) (fun c8 => ?_) (fun c8 => ?_)
                      · have c8 : (m 64 (x3).toNat) ≠ 91 := c8
                        refine hx_blk (npc := 140) (L' := [(0, .inr (.inl 61)), (1, .inr (.inl 31)), (2, .inr (.inl 44)), (3, .inl x3), (4, .inl (m 62 (x3).toNat)), (5, .inl (m 63 (x3).toNat)), (6, .inl (m 65 (x3).toNat))]) (st' := [.inl (-2), .inl (m 39 (m 62 (x3).toNat).toNat)]) (m' := m) [((131, .aload_n 1, 1, 0, 0, 0, 0), (0, 0, 0)), ((132, .getfield 90, 3, 2, 12, 1121, 0), (1, 31, 39)), ((135, .iload 4, 2, 0, 0, 0, 0), (0, 0, 0)), ((137, .iaload, 1, 0, 0, 0, 0), (0, 39, 0)), ((138, .bipush (-2), 2, 0, 0, 0, 0), (0, 0, 0))] (by decide +kernel) rfl ?_
                        refine hx_cmp .ne 181 (by decide +kernel) (fun c9 => ?_) (fun c9 => ?_)
                        · have c9 : (m 39 (m 62 (x3).toNat).toNat) ≠ (-2) := c9
                          refine hx_blk (npc := 182) (L' := [(0, .inr (.inl 61)), (1, .inr (.inl 31)), (2, .inr (.inl 44)), (3, .inl x3), (4, .inl (m 62 (x3).toNat)), (5, .inl (m 63 (x3).toNat)), (6, .inl (m 65 (x3).toNat))]) (st' := [.inl 0]) (m' := m) [((181, .iconst 0, 1, 0, 0, 0, 0), (0, 0, 0))] (by decide +kernel) rfl ?_
                          exact hx_reti (by decide +kernel) (h3 c1 c2 c3 c4 c5 c6 c7 c8 c9)
                        · have c9 : (m 39 (m 62 (x3).toNat).toNat) = (-2) := by have h : ¬ ((m 39 (m 62 (x3).toNat).toNat) ≠ (-2)) := c9; omega
                          refine hx_blk (npc := 156) (L' := [(0, .inr (.inl 61)), (1, .inr (.inl 31)), (2, .inr (.inl 44)), (3, .inl x3), (4, .inl (m 62 (x3).toNat)), (5, .inl (m 63 (x3).toNat)), (6, .inl (m 65 (x3).toNat))]) (st' := [.inl (m 66 (x3).toNat), .inl (m 32 (m 65 (x3).toNat).toNat)]) (m' := m) [((143, .aload_n 1, 1, 0, 0, 0, 0), (0, 0, 0)), ((144, .getfield 93, 3, 2, 5, 1091, 0), (1, 31, 32)), ((147, .iload 6, 2, 0, 0, 0, 0), (0, 0, 0)), ((149, .iaload, 1, 0, 0, 0, 0), (0, 32, 0)), ((150, .aload_n 0, 1, 0, 0, 0, 0), (0, 0, 0)), ((151, .getfield 24, 3, 5, 4, 2001, 0), (1, 61, 66)), ((154, .iload_n 3, 1, 0, 0, 0, 0), (0, 0, 0)), ((155, .iaload, 1, 0, 0, 0, 0), (0, 66, 0))] (by decide +kernel) rfl ?_
                          refine hx_cmp .lt 181 (by decide +kernel) (fun c10 => ?_) (fun c10 => ?_)
                          · have c10 : (m 32 (m 65 (x3).toNat).toNat) < (m 66 (x3).toNat) := c10
                            refine hx_blk (npc := 182) (L' := [(0, .inr (.inl 61)), (1, .inr (.inl 31)), (2, .inr (.inl 44)), (3, .inl x3), (4, .inl (m 62 (x3).toNat)), (5, .inl (m 63 (x3).toNat)), (6, .inl (m 65 (x3).toNat))]) (st' := [.inl 0]) (m' := m) [((181, .iconst 0, 1, 0, 0, 0, 0), (0, 0, 0))] (by decide +kernel) rfl ?_
                            exact hx_reti (by decide +kernel) (h4 c1 c2 c3 c4 c5 c6 c7 c8 c9 c10)
                          · have c10 : (m 66 (x3).toNat) ≤ (m 32 (m 65 (x3).toNat).toNat) := by have h : ¬ ((m 32 (m 65 (x3).toNat).toNat) < (m 66 (x3).toNat)) := c10; omega
                            refine hx_blk (npc := 171) (L' := [(0, .inr (.inl 61)), (1, .inr (.inl 31)), (2, .inr (.inl 44)), (3, .inl x3), (4, .inl (m 62 (x3).toNat)), (5, .inl (m 63 (x3).toNat)), (6, .inl (m 65 (x3).toNat))]) (st' := [.inl (m 66 (x3).toNat), .inl (m 65 (x3).toNat), .inl (m 62 (x3).toNat), .inr (.inl 31), .inr (.inl 44)]) (m' := m) [((159, .aload_n 2, 1, 0, 0, 0, 0), (0, 0, 0)), ((160, .aload_n 1, 1, 0, 0, 0, 0), (0, 0, 0)), ((161, .iload 4, 2, 0, 0, 0, 0), (0, 0, 0)), ((163, .iload 6, 2, 0, 0, 0, 0), (0, 0, 0)), ((165, .aload_n 0, 1, 0, 0, 0, 0), (0, 0, 0)), ((166, .getfield 24, 3, 5, 4, 2001, 0), (1, 61, 66)), ((169, .iload_n 3, 1, 0, 0, 0, 0), (0, 0, 0)), ((170, .iaload, 1, 0, 0, 0, 0), (0, 66, 0))] (by decide +kernel) rfl ?_
                            exact hx_call (E := (171, .invokevirtual 99, 3, 55, 0, 3119, 0)) (M' := yp_m55) [.inr (.inl 44), .inr (.inl 31), .inl (m 62 (x3).toNat), .inl (m 65 (x3).toNat), .inl (m 66 (x3).toNat)] [] rfl (by decide +kernel) rfl ⟨rfl, rfl⟩ rfl rfl (hx_mono (h5 c1 c2 c3 c4 c5 c6 c7 c8 c9 c10) (fun r m' h' => hx_pick [] h'))
                      · have c8 : (m 64 (x3).toNat) = 91 := by have h : ¬ ((m 64 (x3).toNat) ≠ 91) := c8; omega
                        refine hx_blk (npc := 105) (L' := [(0, .inr (.inl 61)), (1, .inr (.inl 31)), (2, .inr (.inl 44)), (3, .inl x3), (4, .inl (m 62 (x3).toNat)), (5, .inl (m 63 (x3).toNat)), (6, .inl (m 65 (x3).toNat))]) (st' := [.inl (m 65 (x3).toNat), .inl (m 39 (m 62 (x3).toNat).toNat)]) (m' := m) [((96, .aload_n 1, 1, 0, 0, 0, 0), (0, 0, 0)), ((97, .getfield 90, 3, 2, 12, 1121, 0), (1, 31, 39)), ((100, .iload 4, 2, 0, 0, 0, 0), (0, 0, 0)), ((102, .iaload, 1, 0, 0, 0, 0), (0, 39, 0)), ((103, .iload 6, 2, 0, 0, 0, 0), (0, 0, 0))] (by decide +kernel) rfl ?_
                        refine hx_cmp .ne 129 (by decide +kernel) (fun c9 => ?_) (fun c9 => ?_)
                        · have c9 : (m 39 (m 62 (x3).toNat).toNat) ≠ (m 65 (x3).toNat) := c9
                          refine hx_blk (npc := 130) (L' := [(0, .inr (.inl 61)), (1, .inr (.inl 31)), (2, .inr (.inl 44)), (3, .inl x3), (4, .inl (m 62 (x3).toNat)), (5, .inl (m 63 (x3).toNat)), (6, .inl (m 65 (x3).toNat))]) (st' := [.inl 0]) (m' := m) [((129, .iconst 0, 1, 0, 0, 0, 0), (0, 0, 0))] (by decide +kernel) rfl ?_
                          exact hx_reti (by decide +kernel) (h6 c1 c2 c3 c4 c5 c6 c7 c8 c9)
                        · have c9 : (m 39 (m 62 (x3).toNat).toNat) = (m 65 (x3).toNat) := by have h : ¬ ((m 39 (m 62 (x3).toNat).toNat) ≠ (m 65 (x3).toNat)) := c9; omega
                          refine hx_blk (npc := 122) (L' := [(0, .inr (.inl 61)), (1, .inr (.inl 31)), (2, .inr (.inl 44)), (3, .inl x3), (4, .inl (m 62 (x3).toNat)), (5, .inl (m 63 (x3).toNat)), (6, .inl (m 65 (x3).toNat))]) (st' := [.inl (m 41 (m 62 (x3).toNat).toNat), .inl (m 32 (m 63 (x3).toNat).toNat)]) (m' := m) [((108, .aload_n 1, 1, 0, 0, 0, 0), (0, 0, 0)), ((109, .getfield 93, 3, 2, 5, 1091, 0), (1, 31, 32)), ((112, .iload 5, 2, 0, 0, 0, 0), (0, 0, 0)), ((114, .iaload, 1, 0, 0, 0, 0), (0, 32, 0)), ((115, .aload_n 1, 1, 0, 0, 0, 0), (0, 0, 0)), ((116, .getfield 96, 3, 2, 14, 1129, 0), (1, 31, 41)), ((119, .iload 4, 2, 0, 0, 0, 0), (0, 0, 0)), ((121, .iaload, 1, 0, 0, 0, 0), (0, 41, 0))] (by decide +kernel) rfl ?_
                          refine hx_cmp .lt 129 (by decide +kernel) (fun c10 => ?_) (fun c10 => ?_)
                          · have c10 : (m 32 (m 63 (x3).toNat).toNat) < (m 41 (m 62 (x3).toNat).toNat) := c10
                            refine hx_blk (npc := 130) (L' := [(0, .inr (.inl 61)), (1, .inr (.inl 31)), (2, .inr (.inl 44)), (3, .inl x3), (4, .inl (m 62 (x3).toNat)), (5, .inl (m 63 (x3).toNat)), (6, .inl (m 65 (x3).toNat))]) (st' := [.inl 0]) (m' := m) [((129, .iconst 0, 1, 0, 0, 0, 0), (0, 0, 0))] (by decide +kernel) rfl ?_
                            exact hx_reti (by decide +kernel) (h7 c1 c2 c3 c4 c5 c6 c7 c8 c9 c10)
                          · have c10 : (m 41 (m 62 (x3).toNat).toNat) ≤ (m 32 (m 63 (x3).toNat).toNat) := by have h : ¬ ((m 32 (m 63 (x3).toNat).toNat) < (m 41 (m 62 (x3).toNat).toNat)) := c10; omega
                            refine hx_blk (npc := 130) (L' := [(0, .inr (.inl 61)), (1, .inr (.inl 31)), (2, .inr (.inl 44)), (3, .inl x3), (4, .inl (m 62 (x3).toNat)), (5, .inl (m 63 (x3).toNat)), (6, .inl (m 65 (x3).toNat))]) (st' := [.inl 1]) (m' := m) [((125, .iconst 1, 1, 0, 0, 0, 0), (0, 0, 0)), ((126, .goto 4, 3, 0, 0, 0, 0), (0, 0, 0))] (by decide +kernel) rfl ?_
                            exact hx_reti (by decide +kernel) (h8 c1 c2 c3 c4 c5 c6 c7 c8 c9 c10)
                    · have c7 : (m 38 (m 62 (x3).toNat).toNat) ≠ (m 63 (x3).toNat) := c7
                      refine hx_blk (npc := 84) (L' := [(0, .inr (.inl 61)), (1, .inr (.inl 31)), (2, .inr (.inl 44)), (3, .inl x3), (4, .inl (m 62 (x3).toNat)), (5, .inl (m 63 (x3).toNat)), (6, .inl (m 65 (x3).toNat))]) (st' := [.inl 0]) (m' := m) [((83, .iconst 0, 1, 0, 0, 0, 0), (0, 0, 0))] (by decide +kernel) rfl ?_
                      exact hx_reti (by decide +kernel) (h9 c1 c2 c3 c4 c5 c6 c7)
                · have c6 : ¬ (cPers 31 m (m 65 (x3).toNat)) := c6
                  show hxn xs n yp_m54 68 [(0, .inr (.inl 61)), (1, .inr (.inl 31)), (2, .inr (.inl 44)), (3, .inl x3), (4, .inl (m 62 (x3).toNat)), (5, .inl (m 63 (x3).toNat)), (6, .inl (m 65 (x3).toNat))] [.inl 0] m Q
                  refine hx_if .eq 83 (by decide +kernel) (fun c7 => ?_) (fun c7 => ?_)
                  · have c7 : (0 : Int) = 0 := c7
                    refine hx_blk (npc := 84) (L' := [(0, .inr (.inl 61)), (1, .inr (.inl 31)), (2, .inr (.inl 44)), (3, .inl x3), (4, .inl (m 62 (x3).toNat)), (5, .inl (m 63 (x3).toNat)), (6, .inl (m 65 (x3).toNat))]) (st' := [.inl 0]) (m' := m) [((83, .iconst 0, 1, 0, 0, 0, 0), (0, 0, 0))] (by decide +kernel) rfl ?_
                    exact hx_reti (by decide +kernel) (h10 c1 c2 c3 c4 c5 c6)
                  · have c7 : (0 : Int) ≠ 0 := c7
                    exfalso; omega
            · have c5 : ¬ (cPers 31 m (m 63 (x3).toNat)) := c5
              show hxn xs n yp_m54 59 [(0, .inr (.inl 61)), (1, .inr (.inl 31)), (2, .inr (.inl 44)), (3, .inl x3), (4, .inl (m 62 (x3).toNat)), (5, .inl (m 63 (x3).toNat)), (6, .inl (m 65 (x3).toNat))] [.inl 0] m Q
              refine hx_if .eq 83 (by decide +kernel) (fun c6 => ?_) (fun c6 => ?_)
              · have c6 : (0 : Int) = 0 := c6
                refine hx_blk (npc := 84) (L' := [(0, .inr (.inl 61)), (1, .inr (.inl 31)), (2, .inr (.inl 44)), (3, .inl x3), (4, .inl (m 62 (x3).toNat)), (5, .inl (m 63 (x3).toNat)), (6, .inl (m 65 (x3).toNat))]) (st' := [.inl 0]) (m' := m) [((83, .iconst 0, 1, 0, 0, 0, 0), (0, 0, 0))] (by decide +kernel) rfl ?_
                exact hx_reti (by decide +kernel) (h11 c1 c2 c3 c4 c5)
              · have c6 : (0 : Int) ≠ 0 := c6
                exfalso; omega
        · have c4 : ¬ (cYear 31 m (m 62 (x3).toNat)) := c4
          show hxn xs n yp_m54 50 [(0, .inr (.inl 61)), (1, .inr (.inl 31)), (2, .inr (.inl 44)), (3, .inl x3), (4, .inl (m 62 (x3).toNat)), (5, .inl (m 63 (x3).toNat)), (6, .inl (m 65 (x3).toNat))] [.inl 0] m Q
          refine hx_if .eq 83 (by decide +kernel) (fun c5 => ?_) (fun c5 => ?_)
          · have c5 : (0 : Int) = 0 := c5
            refine hx_blk (npc := 84) (L' := [(0, .inr (.inl 61)), (1, .inr (.inl 31)), (2, .inr (.inl 44)), (3, .inl x3), (4, .inl (m 62 (x3).toNat)), (5, .inl (m 63 (x3).toNat)), (6, .inl (m 65 (x3).toNat))]) (st' := [.inl 0]) (m' := m) [((83, .iconst 0, 1, 0, 0, 0, 0), (0, 0, 0))] (by decide +kernel) rfl ?_
            exact hx_reti (by decide +kernel) (h12 c1 c2 c3 c4)
          · have c5 : (0 : Int) ≠ 0 := c5
            exfalso; omega
      · have c3 : 16 ≤ x3 := by have h : ¬ (x3 < 16) := c3; omega
        refine hx_blk (npc := 19) (L' := [(0, .inr (.inl 61)), (1, .inr (.inl 31)), (2, .inr (.inl 44)), (3, .inl x3)]) (st' := [.inl 0]) (m' := m) [((18, .iconst 0, 1, 0, 0, 0, 0), (0, 0, 0))] (by decide +kernel) rfl ?_
        exact hx_reti (by decide +kernel) (h13 c1 c2 c3)

/-- canBe from 174 on -/
theorem hr31_54_174 {xs : List Int32} {n : Nat} {Q : hQ} {m : gx_M} {s0 : Int}
    (h1 : (s0 ≠ 0) → Q (some (.inl 0)) m)
    (h2 : (s0 = 0) → Q (some (.inl 1)) m) : hxn xs (n + 1) yp_m54 174 [] [.inl s0] m Q := by
  refine hx_ifs .ne 181 (by decide +kernel) (fun c1 => ?_) (fun c1 => ?_)
  · have c1 : s0 ≠ 0 := c1
    refine hx_blk (npc := 182) (L' := []) (st' := [.inl 0]) (m' := m) [((181, .iconst 0, 1, 0, 0, 0, 0), (0, 0, 0))] (by decide +kernel) rfl ?_
    exact hx_reti (by decide +kernel) (h1 c1)
  · have c1 : s0 = 0 := by have h : ¬ (s0 ≠ 0) := c1; omega
    refine hx_blk (npc := 182) (L' := []) (st' := [.inl 1]) (m' := m) [((177, .iconst 1, 1, 0, 0, 0, 0), (0, 0, 0)), ((178, .goto 4, 3, 0, 0, 0, 0), (0, 0, 0))] (by decide +kernel) rfl ?_
    exact hx_reti (by decide +kernel) (h2 c1)

/-- perform from 0 on -/
theorem hr31_53_0 {xs : List Int32} {n : Nat} {Q : hQ} {m : gx_M} {x3 : Int}
    (h1 : hxn xs n yp_m54 0 [(0, .inr (.inl 61)), (1, .inr (.inl 31)), (2, .inr (.inl 44)), (3, .inl x3)] [] m (fun r m' => hxn xs n yp_m53 7 [(0, .inr (.inl 61)), (1, .inr (.inl 31)), (3, .inl x3)] (hrs r ++ []) m' Q)) : hxn xs (n + 1) yp_m53 0 [(0, .inr (.inl 61)), (1, .inr (.inl 31)), (2, .inr (.inl 44)), (3, .inl x3)] [] m Q := by
  refine hx_blks (npc := 4) (L' := [(0, .inr (.inl 61)), (1, .inr (.inl 31)), (2, .inr (.inl 44)), (3, .inl x3)]) (st' := [.inl x3, .inr (.inl 44), .inr (.inl 31), .inr (.inl 61)]) (m' := m) ((0, .aload_n 0, 1, 0, 0, 0, 0), (0, 0, 0)) [((1, .aload_n 1, 1, 0, 0, 0, 0), (0, 0, 0)), ((2, .aload_n 2, 1, 0, 0, 0, 0), (0, 0, 0)), ((3, .iload_n 3, 1, 0, 0, 0, 0), (0, 0, 0))] (by decide +kernel) rfl ?_
  exact hx_call (E := (4, .invokevirtual 105, 3, 54, 0, 3113, 0)) (M' := yp_m54) [.inr (.inl 61), .inr (.inl 31), .inr (.inl 44), .inl x3] [] rfl (by decide +kernel) rfl ⟨rfl, rfl⟩ rfl rfl (hx_mono h1 (fun r m' h' => hx_pick [0, 1, 3] h'))

/-- perform from 7 on -/
theorem hr31_53_7 {xs : List Int32} {n : Nat} {Q : hQ} {m : gx_M} {x3 s0 : Int}
    (h1 : (s0 ≠ 0) → hxn xs n yp_m67 0 [(0, .inr (.inl 61)), (1, .inr (.inl 31)), (2, .inl x3)] [] m (fun r m' => hxn xs n yp_m53 18 [] (hrs r ++ []) m' Q))
    (h2 : (s0 = 0) → Q (some (.inl 0)) m) : hxn xs (n + 1) yp_m53 7 [(0, .inr (.inl 61)), (1, .inr (.inl 31)), (3, .inl x3)] [.inl s0] m Q := by
  refine hx_ifs .ne 12 (by decide +kernel) (fun c1 => ?_) (fun c1 => ?_)
  · have c1 : s0 ≠ 0 := c1
    refine hx_blk (npc := 15) (L' := [(0, .inr (.inl 61)), (1, .inr (.inl 31)), (3, .inl x3)]) (st' := [.inl x3, .inr (.inl 31), .inr (.inl 61)]) (m' := m) [((12, .aload_n 0, 1, 0, 0, 0, 0), (0, 0, 0)), ((13, .aload_n 1, 1, 0, 0, 0, 0), (0, 0, 0)), ((14, .iload_n 3, 1, 0, 0, 0, 0), (0, 0, 0))] (by decide +kernel) rfl ?_
    exact hx_call (E := (15, .invokevirtual 109, 3, 67, 0, 3171, 0)) (M' := yp_m67) [.inr (.inl 61), .inr (.inl 31), .inl x3] [] rfl (by decide +kernel) rfl ⟨rfl, rfl⟩ rfl rfl (hx_mono (h1 c1) (fun r m' h' => hx_pick [] h'))
  · have c1 : s0 = 0 := by have h : ¬ (s0 ≠ 0) := c1; omega
    refine hx_blk (npc := 11) (L' := [(0, .inr (.inl 61)), (1, .inr (.inl 31)), (3, .inl x3)]) (st' := [.inl 0]) (m' := m) [((10, .iconst 0, 1, 0, 0, 0, 0), (0, 0, 0))] (by decide +kernel) rfl ?_
    exact hx_reti (by decide +kernel) (h2 c1)

/-- perform from 18 on -/
theorem hr31_53_18 {xs : List Int32} {n : Nat} {Q : hQ} {m : gx_M}
    (h1 : Q (some (.inl 1)) m) : hxn xs (n + 1) yp_m53 18 [] [] m Q := by
  refine hx_blks (npc := 19) (L' := []) (st' := [.inl 1]) (m' := m) ((18, .iconst 1, 1, 0, 0, 0, 0), (0, 0, 0)) [] (by decide +kernel) rfl ?_
  exact hx_reti (by decide +kernel) h1

