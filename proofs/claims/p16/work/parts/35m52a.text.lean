/-! the text as the reference reads it: roads -/
def aHere (m : gx_M) : Int := if m 86 6 ≤ m 86 5 then -1 else gx_and (m 90 (m 86 5).toNat) 255
/-- here from 0 on -/
theorem hs170 {xs : List Int32} {n : Nat} {Q : hQ} {m : gx_M}
    (h : Q (some (.inl (aHere m))) m) : hxn xs n yp_m170 0 [(0, .inr (.inl 86))] [] m Q := by
  refine hx_dn ?_
  refine hx_blks (npc := 8) (L' := [(0, .inr (.inl 86))]) (st' := [.inl (m 86 6), .inl (m 86 5)]) (m' := m) ((0, .aload_n 0, 1, 0, 0, 0, 0), (0, 0, 0)) [((1, .getfield 132, 3, 10, 5, 5118, 0), (0, 86, 0)), ((4, .aload_n 0, 1, 0, 0, 0, 0), (0, 0, 0)), ((5, .getfield 135, 3, 10, 6, 5119, 0), (0, 86, 0))] (by decide +kernel) rfl ?_
  refine hx_cmp .ge 27 (by decide +kernel) (fun c1 => ?_) (fun c1 => ?_)
  · have c1 : (m 86 6) ≤ (m 86 5) := c1
    refine hx_blk (npc := 28) (L' := [(0, .inr (.inl 86))]) (st' := [.inl (-1)]) (m' := m) [((27, .iconst (-1), 1, 0, 0, 0, 0), (0, 0, 0))] (by decide +kernel) rfl ?_
    exact hx_reti (by decide +kernel) (by have e : aHere m = (-1) := (by unfold aHere; (repeat' split) <;> omega); rw [e] at h; exact h)
  · have c1 : (m 86 5) < (m 86 6) := by have h : ¬ ((m 86 6) ≤ (m 86 5)) := c1; omega
    have f1 := gx_and_bd (m 90 (m 86 5).toNat) 255 (by decide)
    refine hx_blk (npc := 28) (L' := [(0, .inr (.inl 86))]) (st' := [.inl (gx_and (m 90 (m 86 5).toNat) 255)]) (m' := m) [((11, .aload_n 0, 1, 0, 0, 0, 0), (0, 0, 0)), ((12, .getfield 19, 3, 10, 3, 5116, 0), (1, 86, 90)), ((15, .aload_n 0, 1, 0, 0, 0, 0), (0, 0, 0)), ((16, .getfield 132, 3, 10, 5, 5118, 0), (0, 86, 0)), ((19, .baload, 1, 0, 0, 0, 0), (0, 90, 0)), ((20, .sipush 255, 3, 0, 0, 0, 0), (0, 0, 0)), ((23, .iand, 1, 0, 0, 0, 0), (0, 0, 0)), ((24, .goto 4, 3, 0, 0, 0, 0), (0, 0, 0))] (by decide +kernel) rfl ?_
    exact hx_reti (by decide +kernel) (by have e : aHere m = (gx_and (m 90 (m 86 5).toNat) 255) := (by unfold aHere; (repeat' split) <;> omega); rw [e] at h; exact h)

/-- isDigit from 0 on -/
theorem hs176 {xs : List Int32} {n : Nat} {Q : hQ} {m : gx_M}
    (h1 : isDg (aHere m) → Q (some (.inl 1)) m) (h0 : ¬ (isDg (aHere m)) → Q (some (.inl 0)) m) : hxn xs n yp_m176 0 [(0, .inr (.inl 86))] [] m Q := by
  refine hx_dn ?_
  refine hx_blks (npc := 1) (L' := [(0, .inr (.inl 86))]) (st' := [.inr (.inl 86)]) (m' := m) ((0, .aload_n 0, 1, 0, 0, 0, 0), (0, 0, 0)) [] (by decide +kernel) rfl ?_
  refine hx_call (E := (1, .invokevirtual 138, 3, 170, 0, 6054, 0)) (M' := yp_m170) [.inr (.inl 86)] [] rfl (by decide +kernel) rfl ⟨rfl, rfl⟩ rfl rfl (hs170 ?_)
  show hxn xs n yp_m176 4 [(0, .inr (.inl 86))] [.inl (aHere m)] m Q
  refine hx_blk (npc := 6) (L' := [(0, .inr (.inl 86))]) (st' := [.inl 48, .inl (aHere m)]) (m' := m) [((4, .bipush 48, 2, 0, 0, 0, 0), (0, 0, 0))] (by decide +kernel) rfl ?_
  refine hx_cmp .lt 22 (by decide +kernel) (fun c1 => ?_) (fun c1 => ?_)
  · have c1 : (aHere m) < 48 := c1
    refine hx_blk (npc := 23) (L' := [(0, .inr (.inl 86))]) (st' := [.inl 0]) (m' := m) [((22, .iconst 0, 1, 0, 0, 0, 0), (0, 0, 0))] (by decide +kernel) rfl ?_
    exact hx_reti (by decide +kernel) (h0 (by unfold isDg; omega))
  · have c1 : 48 ≤ (aHere m) := by have h : ¬ ((aHere m) < 48) := c1; omega
    refine hx_blk (npc := 10) (L' := [(0, .inr (.inl 86))]) (st' := [.inr (.inl 86)]) (m' := m) [((9, .aload_n 0, 1, 0, 0, 0, 0), (0, 0, 0))] (by decide +kernel) rfl ?_
    refine hx_call (E := (10, .invokevirtual 138, 3, 170, 0, 6054, 0)) (M' := yp_m170) [.inr (.inl 86)] [] rfl (by decide +kernel) rfl ⟨rfl, rfl⟩ rfl rfl (hs170 ?_)
    show hxn xs n yp_m176 13 [(0, .inr (.inl 86))] [.inl (aHere m)] m Q
    refine hx_blk (npc := 15) (L' := [(0, .inr (.inl 86))]) (st' := [.inl 57, .inl (aHere m)]) (m' := m) [((13, .bipush 57, 2, 0, 0, 0, 0), (0, 0, 0))] (by decide +kernel) rfl ?_
    refine hx_cmp .gt 22 (by decide +kernel) (fun c2 => ?_) (fun c2 => ?_)
    · have c2 : 57 < (aHere m) := c2
      refine hx_blk (npc := 23) (L' := [(0, .inr (.inl 86))]) (st' := [.inl 0]) (m' := m) [((22, .iconst 0, 1, 0, 0, 0, 0), (0, 0, 0))] (by decide +kernel) rfl ?_
      exact hx_reti (by decide +kernel) (h0 (by unfold isDg; omega))
    · have c2 : (aHere m) ≤ 57 := by have h : ¬ (57 < (aHere m)) := c2; omega
      refine hx_blk (npc := 23) (L' := [(0, .inr (.inl 86))]) (st' := [.inl 1]) (m' := m) [((18, .iconst 1, 1, 0, 0, 0, 0), (0, 0, 0)), ((19, .goto 4, 3, 0, 0, 0, 0), (0, 0, 0))] (by decide +kernel) rfl ?_
      exact hx_reti (by decide +kernel) (h1 (by unfold isDg; omega))

/-- wrongAt from 0 on -/
theorem hs172 {xs : List Int32} {n : Nat} {Q : hQ} {m : gx_M} {x1 x2 : Int}
    (h1 : Q (some (.inl 0)) (gx_u m 86 7 (gx_w ((gx_w ((-1000) * x1)) - x2)))) : hxn xs (n + 1) yp_m172 0 [(0, .inr (.inl 86)), (1, .inl x1), (2, .inl x2)] [] m Q := by
  refine hx_blks (npc := 12) (L' := [(0, .inr (.inl 86)), (1, .inl x1), (2, .inl x2)]) (st' := [.inl 0]) (m' := (gx_u m 86 7 (gx_w ((gx_w ((-1000) * x1)) - x2)))) ((0, .aload_n 0, 1, 0, 0, 0, 0), (0, 0, 0)) [((1, .sipush (-1000), 3, 0, 0, 0, 0), (0, 0, 0)), ((4, .iload_n 1, 1, 0, 0, 0, 0), (0, 0, 0)), ((5, .imul, 1, 0, 0, 0, 0), (0, 0, 0)), ((6, .iload_n 2, 1, 0, 0, 0, 0), (0, 0, 0)), ((7, .isub, 1, 0, 0, 0, 0), (0, 0, 0)), ((8, .putfield 142, 3, 10, 7, 5120, 0), (0, 86, 0)), ((11, .iconst 0, 1, 0, 0, 0, 0), (0, 0, 0))] (by decide +kernel) rfl ?_
  exact hx_reti (by decide +kernel) h1

/-- opens from 0 on -/
theorem hr175_0 {xs : List Int32} {n : Nat} {Q : hQ} {m : gx_M} {x1 : Int}
    (h1 : ((m 86 9) ≠ 6) → Q (some (.inl 1)) (gx_u (gx_u (gx_u (gx_u m 86 9 (gx_w ((m 86 9) + 1))) 92 (m 86 11).toNat (gx_w (1048576 * x1))) 86 11 (gx_w ((m 86 11) + 1))) 86 5 (gx_w ((m 86 5) + 1))))
    (h2 : ((m 86 9) = 6) → hxn xs n yp_m172 0 [(0, .inr (.inl 86)), (1, .inl 5), (2, .inl (m 86 5))] [] m (fun r m' => hxn xs n yp_m175 18 [] (hrs r ++ []) m' Q)) : hxn xs (n + 1) yp_m175 0 [(0, .inr (.inl 86)), (1, .inl x1)] [] m Q := by
  refine hx_blks (npc := 6) (L' := [(0, .inr (.inl 86)), (1, .inl x1)]) (st' := [.inl 6, .inl (m 86 9)]) (m' := m) ((0, .aload_n 0, 1, 0, 0, 0, 0), (0, 0, 0)) [((1, .getfield 159, 3, 10, 9, 5122, 0), (0, 86, 0)), ((4, .bipush 6, 2, 0, 0, 0, 0), (0, 0, 0))] (by decide +kernel) rfl ?_
  refine hx_cmp .ne 19 (by decide +kernel) (fun c1 => ?_) (fun c1 => ?_)
  · have c1 : (m 86 9) ≠ 6 := c1
    refine hx_blk (npc := 63) (L' := [(0, .inr (.inl 86)), (1, .inl x1)]) (st' := [.inl 1]) (m' := (gx_u (gx_u (gx_u (gx_u m 86 9 (gx_w ((m 86 9) + 1))) 92 (m 86 11).toNat (gx_w (1048576 * x1))) 86 11 (gx_w ((m 86 11) + 1))) 86 5 (gx_w ((m 86 5) + 1)))) [((19, .aload_n 0, 1, 0, 0, 0, 0), (0, 0, 0)), ((20, .aload_n 0, 1, 0, 0, 0, 0), (0, 0, 0)), ((21, .getfield 159, 3, 10, 9, 5122, 0), (0, 86, 0)), ((24, .iconst 1, 1, 0, 0, 0, 0), (0, 0, 0)), ((25, .iadd, 1, 0, 0, 0, 0), (0, 0, 0)), ((26, .putfield 159, 3, 10, 9, 5122, 0), (0, 86, 0)), ((29, .aload_n 0, 1, 0, 0, 0, 0), (0, 0, 0)), ((30, .getfield 26, 3, 10, 15, 5128, 0), (1, 86, 92)), ((33, .aload_n 0, 1, 0, 0, 0, 0), (0, 0, 0)), ((34, .getfield 162, 3, 10, 11, 5124, 0), (0, 86, 0)), ((37, .ldc 158, 2, 0, 0, 6077, 1048576), (0, 0, 0)), ((39, .iload_n 1, 1, 0, 0, 0, 0), (0, 0, 0)), ((40, .imul, 1, 0, 0, 0, 0), (0, 0, 0)), ((41, .iastore, 1, 0, 0, 0, 0), (0, 92, 0)), ((42, .aload_n 0, 1, 0, 0, 0, 0), (0, 0, 0)), ((43, .aload_n 0, 1, 0, 0, 0, 0), (0, 0, 0)), ((44, .getfield 162, 3, 10, 11, 5124, 0), (0, 86, 0)), ((47, .iconst 1, 1, 0, 0, 0, 0), (0, 0, 0)), ((48, .iadd, 1, 0, 0, 0, 0), (0, 0, 0)), ((49, .putfield 162, 3, 10, 11, 5124, 0), (0, 86, 0)), ((52, .aload_n 0, 1, 0, 0, 0, 0), (0, 0, 0)), ((53, .aload_n 0, 1, 0, 0, 0, 0), (0, 0, 0)), ((54, .getfield 132, 3, 10, 5, 5118, 0), (0, 86, 0)), ((57, .iconst 1, 1, 0, 0, 0, 0), (0, 0, 0)), ((58, .iadd, 1, 0, 0, 0, 0), (0, 0, 0)), ((59, .putfield 132, 3, 10, 5, 5118, 0), (0, 86, 0)), ((62, .iconst 1, 1, 0, 0, 0, 0), (0, 0, 0))] (by decide +kernel) rfl ?_
    exact hx_reti (by decide +kernel) (h1 c1)
  · have c1 : (m 86 9) = 6 := by have h : ¬ ((m 86 9) ≠ 6) := c1; omega
    refine hx_blk (npc := 15) (L' := [(0, .inr (.inl 86)), (1, .inl x1)]) (st' := [.inl (m 86 5), .inl 5, .inr (.inl 86)]) (m' := m) [((9, .aload_n 0, 1, 0, 0, 0, 0), (0, 0, 0)), ((10, .iconst 5, 1, 0, 0, 0, 0), (0, 0, 0)), ((11, .aload_n 0, 1, 0, 0, 0, 0), (0, 0, 0)), ((12, .getfield 132, 3, 10, 5, 5118, 0), (0, 86, 0))] (by decide +kernel) rfl ?_
    exact hx_call (E := (15, .invokevirtual 145, 3, 172, 0, 6061, 0)) (M' := yp_m172) [.inr (.inl 86), .inl 5, .inl (m 86 5)] [] rfl (by decide +kernel) rfl ⟨rfl, rfl⟩ rfl rfl (hx_mono (h2 c1) (fun r m' h' => hx_pick [] h'))

/-- opens from 18 on -/
theorem hr175_18 {xs : List Int32} {n : Nat} {Q : hQ} {m : gx_M} {s0 : Int}
    (h1 : Q (some (.inl s0)) m) : hxn xs (n + 1) yp_m175 18 [] [.inl s0] m Q := by
  exact hx_reti (by decide +kernel) h1

/-- notes from 0 on -/
theorem hr178_0 {xs : List Int32} {n : Nat} {Q : hQ} {m : gx_M} {x1 x2 : Int}
    (h1 : Q none (gx_u (gx_u m 91 (m 86 10).toNat (gx_w ((gx_w (1048576 * x1)) + x2))) 86 10 (gx_w ((m 86 10) + 1)))) : hxn xs (n + 1) yp_m178 0 [(0, .inr (.inl 86)), (1, .inl x1), (2, .inl x2)] [] m Q := by
  refine hx_blks (npc := 25) (L' := [(0, .inr (.inl 86)), (1, .inl x1), (2, .inl x2)]) (st' := []) (m' := (gx_u (gx_u m 91 (m 86 10).toNat (gx_w ((gx_w (1048576 * x1)) + x2))) 86 10 (gx_w ((m 86 10) + 1)))) ((0, .aload_n 0, 1, 0, 0, 0, 0), (0, 0, 0)) [((1, .getfield 23, 3, 10, 14, 5127, 0), (1, 86, 91)), ((4, .aload_n 0, 1, 0, 0, 0, 0), (0, 0, 0)), ((5, .getfield 155, 3, 10, 10, 5123, 0), (0, 86, 0)), ((8, .ldc 158, 2, 0, 0, 6077, 1048576), (0, 0, 0)), ((10, .iload_n 1, 1, 0, 0, 0, 0), (0, 0, 0)), ((11, .imul, 1, 0, 0, 0, 0), (0, 0, 0)), ((12, .iload_n 2, 1, 0, 0, 0, 0), (0, 0, 0)), ((13, .iadd, 1, 0, 0, 0, 0), (0, 0, 0)), ((14, .iastore, 1, 0, 0, 0, 0), (0, 91, 0)), ((15, .aload_n 0, 1, 0, 0, 0, 0), (0, 0, 0)), ((16, .aload_n 0, 1, 0, 0, 0, 0), (0, 0, 0)), ((17, .getfield 155, 3, 10, 10, 5123, 0), (0, 86, 0)), ((20, .iconst 1, 1, 0, 0, 0, 0), (0, 0, 0)), ((21, .iadd, 1, 0, 0, 0, 0), (0, 0, 0)), ((22, .putfield 155, 3, 10, 10, 5123, 0), (0, 86, 0))] (by decide +kernel) rfl ?_
  exact hx_ret0 (by decide +kernel) h1

/-- factOf from 0 on -/
theorem hr179_0 {xs : List Int32} {n : Nat} {Q : hQ} {m : gx_M} {x0 : Int}
    (h1 : (x0 = 97) → Q (some (.inl 10)) m)
    (h2 : (x0 ≠ 97) → (x0 = 98) → Q (some (.inl (-1))) m)
    (h3 : (x0 ≠ 97) → (x0 ≠ 98) → (x0 = 99) → Q (some (.inl 11)) m)
    (h4 : (x0 ≠ 97) → (x0 ≠ 98) → (x0 ≠ 99) → (x0 = 100) → Q (some (.inl 2)) m)
    (h5 : (x0 ≠ 97) → (x0 ≠ 98) → (x0 ≠ 99) → (x0 ≠ 100) → (x0 = 101) → Q (some (.inl 12)) m)
    (h6 : (x0 ≠ 97) → (x0 ≠ 98) → (x0 ≠ 99) → (x0 ≠ 100) → (x0 ≠ 101) → (x0 = 102) → Q (some (.inl (-1))) m)
    (h7 : (x0 ≠ 97) → (x0 ≠ 98) → (x0 ≠ 99) → (x0 ≠ 100) → (x0 ≠ 101) → (x0 ≠ 102) → (x0 = 103) → Q (some (.inl (-1))) m)
    (h8 : (x0 ≠ 97) → (x0 ≠ 98) → (x0 ≠ 99) → (x0 ≠ 100) → (x0 ≠ 101) → (x0 ≠ 102) → (x0 ≠ 103) → (x0 = 104) → Q (some (.inl 8)) m)
    (h9 : (x0 ≠ 97) → (x0 ≠ 98) → (x0 ≠ 99) → (x0 ≠ 100) → (x0 ≠ 101) → (x0 ≠ 102) → (x0 ≠ 103) → (x0 ≠ 104) → (x0 = 105) → Q (some (.inl (-1))) m)
    (h10 : (x0 ≠ 97) → (x0 ≠ 98) → (x0 ≠ 99) → (x0 ≠ 100) → (x0 ≠ 101) → (x0 ≠ 102) → (x0 ≠ 103) → (x0 ≠ 104) → (x0 ≠ 105) → (x0 = 106) → Q (some (.inl (-1))) m)
    (h11 : (x0 ≠ 97) → (x0 ≠ 98) → (x0 ≠ 99) → (x0 ≠ 100) → (x0 ≠ 101) → (x0 ≠ 102) → (x0 ≠ 103) → (x0 ≠ 104) → (x0 ≠ 105) → (x0 ≠ 106) → (x0 = 107) → Q (some (.inl 7)) m)
    (h12 : (x0 ≠ 97) → (x0 ≠ 98) → (x0 ≠ 99) → (x0 ≠ 100) → (x0 ≠ 101) → (x0 ≠ 102) → (x0 ≠ 103) → (x0 ≠ 104) → (x0 ≠ 105) → (x0 ≠ 106) → (x0 ≠ 107) → (x0 = 108) → Q (some (.inl 3)) m)
    (h13 : (x0 ≠ 97) → (x0 ≠ 98) → (x0 ≠ 99) → (x0 ≠ 100) → (x0 ≠ 101) → (x0 ≠ 102) → (x0 ≠ 103) → (x0 ≠ 104) → (x0 ≠ 105) → (x0 ≠ 106) → (x0 ≠ 107) → (x0 ≠ 108) → (x0 = 109) → Q (some (.inl 6)) m)
    (h14 : (x0 ≠ 97) → (x0 ≠ 98) → (x0 ≠ 99) → (x0 ≠ 100) → (x0 ≠ 101) → (x0 ≠ 102) → (x0 ≠ 103) → (x0 ≠ 104) → (x0 ≠ 105) → (x0 ≠ 106) → (x0 ≠ 107) → (x0 ≠ 108) → (x0 ≠ 109) → (x0 = 110) → Q (some (.inl (-1))) m)
    (h15 : (x0 ≠ 97) → (x0 ≠ 98) → (x0 ≠ 99) → (x0 ≠ 100) → (x0 ≠ 101) → (x0 ≠ 102) → (x0 ≠ 103) → (x0 ≠ 104) → (x0 ≠ 105) → (x0 ≠ 106) → (x0 ≠ 107) → (x0 ≠ 108) → (x0 ≠ 109) → (x0 ≠ 110) → (x0 = 111) → Q (some (.inl 4)) m)
    (h16 : (x0 ≠ 97) → (x0 ≠ 98) → (x0 ≠ 99) → (x0 ≠ 100) → (x0 ≠ 101) → (x0 ≠ 102) → (x0 ≠ 103) → (x0 ≠ 104) → (x0 ≠ 105) → (x0 ≠ 106) → (x0 ≠ 107) → (x0 ≠ 108) → (x0 ≠ 109) → (x0 ≠ 110) → (x0 ≠ 111) → (x0 = 112) → Q (some (.inl 9)) m)
    (h17 : (x0 ≠ 97) → (x0 ≠ 98) → (x0 ≠ 99) → (x0 ≠ 100) → (x0 ≠ 101) → (x0 ≠ 102) → (x0 ≠ 103) → (x0 ≠ 104) → (x0 ≠ 105) → (x0 ≠ 106) → (x0 ≠ 107) → (x0 ≠ 108) → (x0 ≠ 109) → (x0 ≠ 110) → (x0 ≠ 111) → (x0 ≠ 112) → (x0 = 113) → Q (some (.inl (-1))) m)
    (h18 : (x0 ≠ 97) → (x0 ≠ 98) → (x0 ≠ 99) → (x0 ≠ 100) → (x0 ≠ 101) → (x0 ≠ 102) → (x0 ≠ 103) → (x0 ≠ 104) → (x0 ≠ 105) → (x0 ≠ 106) → (x0 ≠ 107) → (x0 ≠ 108) → (x0 ≠ 109) → (x0 ≠ 110) → (x0 ≠ 111) → (x0 ≠ 112) → (x0 ≠ 113) → (x0 = 114) → Q (some (.inl (-1))) m)
    (h19 : (x0 ≠ 97) → (x0 ≠ 98) → (x0 ≠ 99) → (x0 ≠ 100) → (x0 ≠ 101) → (x0 ≠ 102) → (x0 ≠ 103) → (x0 ≠ 104) → (x0 ≠ 105) → (x0 ≠ 106) → (x0 ≠ 107) → (x0 ≠ 108) → (x0 ≠ 109) → (x0 ≠ 110) → (x0 ≠ 111) → (x0 ≠ 112) → (x0 ≠ 113) → (x0 ≠ 114) → (x0 = 115) → Q (some (.inl 5)) m)
    (h20 : (x0 ≠ 97) → (x0 ≠ 98) → (x0 ≠ 99) → (x0 ≠ 100) → (x0 ≠ 101) → (x0 ≠ 102) → (x0 ≠ 103) → (x0 ≠ 104) → (x0 ≠ 105) → (x0 ≠ 106) → (x0 ≠ 107) → (x0 ≠ 108) → (x0 ≠ 109) → (x0 ≠ 110) → (x0 ≠ 111) → (x0 ≠ 112) → (x0 ≠ 113) → (x0 ≠ 114) → (x0 ≠ 115) → (x0 = 116) → Q (some (.inl 0)) m)
    (h21 : (x0 ≠ 97) → (x0 ≠ 98) → (x0 ≠ 99) → (x0 ≠ 100) → (x0 ≠ 101) → (x0 ≠ 102) → (x0 ≠ 103) → (x0 ≠ 104) → (x0 ≠ 105) → (x0 ≠ 106) → (x0 ≠ 107) → (x0 ≠ 108) → (x0 ≠ 109) → (x0 ≠ 110) → (x0 ≠ 111) → (x0 ≠ 112) → (x0 ≠ 113) → (x0 ≠ 114) → (x0 ≠ 115) → (x0 ≠ 116) → (x0 = 117) → Q (some (.inl (-1))) m)
    (h22 : (x0 ≠ 97) → (x0 ≠ 98) → (x0 ≠ 99) → (x0 ≠ 100) → (x0 ≠ 101) → (x0 ≠ 102) → (x0 ≠ 103) → (x0 ≠ 104) → (x0 ≠ 105) → (x0 ≠ 106) → (x0 ≠ 107) → (x0 ≠ 108) → (x0 ≠ 109) → (x0 ≠ 110) → (x0 ≠ 111) → (x0 ≠ 112) → (x0 ≠ 113) → (x0 ≠ 114) → (x0 ≠ 115) → (x0 ≠ 116) → (x0 ≠ 117) → (x0 = 118) → Q (some (.inl (-1))) m)
    (h23 : (x0 ≠ 97) → (x0 ≠ 98) → (x0 ≠ 99) → (x0 ≠ 100) → (x0 ≠ 101) → (x0 ≠ 102) → (x0 ≠ 103) → (x0 ≠ 104) → (x0 ≠ 105) → (x0 ≠ 106) → (x0 ≠ 107) → (x0 ≠ 108) → (x0 ≠ 109) → (x0 ≠ 110) → (x0 ≠ 111) → (x0 ≠ 112) → (x0 ≠ 113) → (x0 ≠ 114) → (x0 ≠ 115) → (x0 ≠ 116) → (x0 ≠ 117) → (x0 ≠ 118) → (x0 = 119) → Q (some (.inl (-1))) m)
    (h24 : (x0 ≠ 97) → (x0 ≠ 98) → (x0 ≠ 99) → (x0 ≠ 100) → (x0 ≠ 101) → (x0 ≠ 102) → (x0 ≠ 103) → (x0 ≠ 104) → (x0 ≠ 105) → (x0 ≠ 106) → (x0 ≠ 107) → (x0 ≠ 108) → (x0 ≠ 109) → (x0 ≠ 110) → (x0 ≠ 111) → (x0 ≠ 112) → (x0 ≠ 113) → (x0 ≠ 114) → (x0 ≠ 115) → (x0 ≠ 116) → (x0 ≠ 117) → (x0 ≠ 118) → (x0 ≠ 119) → (x0 = 120) → Q (some (.inl (-1))) m)
    (h25 : (x0 ≠ 97) → (x0 ≠ 98) → (x0 ≠ 99) → (x0 ≠ 100) → (x0 ≠ 101) → (x0 ≠ 102) → (x0 ≠ 103) → (x0 ≠ 104) → (x0 ≠ 105) → (x0 ≠ 106) → (x0 ≠ 107) → (x0 ≠ 108) → (x0 ≠ 109) → (x0 ≠ 110) → (x0 ≠ 111) → (x0 ≠ 112) → (x0 ≠ 113) → (x0 ≠ 114) → (x0 ≠ 115) → (x0 ≠ 116) → (x0 ≠ 117) → (x0 ≠ 118) → (x0 ≠ 119) → (x0 ≠ 120) → (x0 = 121) → Q (some (.inl 1)) m)
    (h26 : (x0 ≠ 97) → (x0 ≠ 98) → (x0 ≠ 99) → (x0 ≠ 100) → (x0 ≠ 101) → (x0 ≠ 102) → (x0 ≠ 103) → (x0 ≠ 104) → (x0 ≠ 105) → (x0 ≠ 106) → (x0 ≠ 107) → (x0 ≠ 108) → (x0 ≠ 109) → (x0 ≠ 110) → (x0 ≠ 111) → (x0 ≠ 112) → (x0 ≠ 113) → (x0 ≠ 114) → (x0 ≠ 115) → (x0 ≠ 116) → (x0 ≠ 117) → (x0 ≠ 118) → (x0 ≠ 119) → (x0 ≠ 120) → (x0 ≠ 121) → (x0 = 122) → Q (some (.inl 13)) m)
    (h27 : (x0 ≠ 97) → (x0 ≠ 98) → (x0 ≠ 99) → (x0 ≠ 100) → (x0 ≠ 101) → (x0 ≠ 102) → (x0 ≠ 103) → (x0 ≠ 104) → (x0 ≠ 105) → (x0 ≠ 106) → (x0 ≠ 107) → (x0 ≠ 108) → (x0 ≠ 109) → (x0 ≠ 110) → (x0 ≠ 111) → (x0 ≠ 112) → (x0 ≠ 113) → (x0 ≠ 114) → (x0 ≠ 115) → (x0 ≠ 116) → (x0 ≠ 117) → (x0 ≠ 118) → (x0 ≠ 119) → (x0 ≠ 120) → (x0 ≠ 121) → (x0 ≠ 122) → Q (some (.inl (-1))) m) : hxn xs (n + 1) yp_m179 0 [(0, .inl x0)] [] m Q := by
  refine hx_blks (npc := 1) (L' := [(0, .inl x0)]) (st' := [.inl x0]) (m' := m) ((0, .iload_n 0, 1, 0, 0, 0, 0), (0, 0, 0)) [] (by decide +kernel) rfl ?_
  refine hx_tsw 156 [(97, 144), (98, 156), (99, 147), (100, 124), (101, 150), (102, 156), (103, 156), (104, 138), (105, 156), (106, 156), (107, 135), (108, 126), (109, 132), (110, 156), (111, 128), (112, 141), (113, 156), (114, 156), (115, 130), (116, 120), (117, 156), (118, 156), (119, 156), (120, 156), (121, 122), (122, 153)] (by decide +kernel) ?_
  refine hsw_c (fun c1 => ?_) (fun c1 => ?_)
  · have c1 : x0 = 97 := c1
    refine hx_blk (npc := 146) (L' := [(0, .inl x0)]) (st' := [.inl 10]) (m' := m) [((144, .bipush 10, 2, 0, 0, 0, 0), (0, 0, 0))] (by decide +kernel) rfl ?_
    exact hx_reti (by decide +kernel) (h1 c1)
  refine hsw_c (fun c2 => ?_) (fun c2 => ?_)
  · have c2 : x0 = 98 := c2
    refine hx_blk (npc := 157) (L' := [(0, .inl x0)]) (st' := [.inl (-1)]) (m' := m) [((156, .iconst (-1), 1, 0, 0, 0, 0), (0, 0, 0))] (by decide +kernel) rfl ?_
    exact hx_reti (by decide +kernel) (h2 c1 c2)
  refine hsw_c (fun c3 => ?_) (fun c3 => ?_)
  · have c3 : x0 = 99 := c3
    refine hx_blk (npc := 149) (L' := [(0, .inl x0)]) (st' := [.inl 11]) (m' := m) [((147, .bipush 11, 2, 0, 0, 0, 0), (0, 0, 0))] (by decide +kernel) rfl ?_
    exact hx_reti (by decide +kernel) (h3 c1 c2 c3)
  refine hsw_c (fun c4 => ?_) (fun c4 => ?_)
  · have c4 : x0 = 100 := c4
    refine hx_blk (npc := 125) (L' := [(0, .inl x0)]) (st' := [.inl 2]) (m' := m) [((124, .iconst 2, 1, 0, 0, 0, 0), (0, 0, 0))] (by decide +kernel) rfl ?_
    exact hx_reti (by decide +kernel) (h4 c1 c2 c3 c4)
  refine hsw_c (fun c5 => ?_) (fun c5 => ?_)
  · have c5 : x0 = 101 := c5
    refine hx_blk (npc := 152) (L' := [(0, .inl x0)]) (st' := [.inl 12]) (m' := m) [((150, .bipush 12, 2, 0, 0, 0, 0), (0, 0, 0))] (by decide +kernel) rfl ?_
    exact hx_reti (by decide +kernel) (h5 c1 c2 c3 c4 c5)
  refine hsw_c (fun c6 => ?_) (fun c6 => ?_)
  · have c6 : x0 = 102 := c6
    refine hx_blk (npc := 157) (L' := [(0, .inl x0)]) (st' := [.inl (-1)]) (m' := m) [((156, .iconst (-1), 1, 0, 0, 0, 0), (0, 0, 0))] (by decide +kernel) rfl ?_
    exact hx_reti (by decide +kernel) (h6 c1 c2 c3 c4 c5 c6)
  refine hsw_c (fun c7 => ?_) (fun c7 => ?_)
  · have c7 : x0 = 103 := c7
    refine hx_blk (npc := 157) (L' := [(0, .inl x0)]) (st' := [.inl (-1)]) (m' := m) [((156, .iconst (-1), 1, 0, 0, 0, 0), (0, 0, 0))] (by decide +kernel) rfl ?_
    exact hx_reti (by decide +kernel) (h7 c1 c2 c3 c4 c5 c6 c7)
  refine hsw_c (fun c8 => ?_) (fun c8 => ?_)
  · have c8 : x0 = 104 := c8
    refine hx_blk (npc := 140) (L' := [(0, .inl x0)]) (st' := [.inl 8]) (m' := m) [((138, .bipush 8, 2, 0, 0, 0, 0), (0, 0, 0))] (by decide +kernel) rfl ?_
    exact hx_reti (by decide +kernel) (h8 c1 c2 c3 c4 c5 c6 c7 c8)
  refine hsw_c (fun c9 => ?_) (fun c9 => ?_)
  · have c9 : x0 = 105 := c9
    refine hx_blk (npc := 157) (L' := [(0, .inl x0)]) (st' := [.inl (-1)]) (m' := m) [((156, .iconst (-1), 1, 0, 0, 0, 0), (0, 0, 0))] (by decide +kernel) rfl ?_
    exact hx_reti (by decide +kernel) (h9 c1 c2 c3 c4 c5 c6 c7 c8 c9)
  refine hsw_c (fun c10 => ?_) (fun c10 => ?_)
  · have c10 : x0 = 106 := c10
    refine hx_blk (npc := 157) (L' := [(0, .inl x0)]) (st' := [.inl (-1)]) (m' := m) [((156, .iconst (-1), 1, 0, 0, 0, 0), (0, 0, 0))] (by decide +kernel) rfl ?_
    exact hx_reti (by decide +kernel) (h10 c1 c2 c3 c4 c5 c6 c7 c8 c9 c10)
  refine hsw_c (fun c11 => ?_) (fun c11 => ?_)
  · have c11 : x0 = 107 := c11
    refine hx_blk (npc := 137) (L' := [(0, .inl x0)]) (st' := [.inl 7]) (m' := m) [((135, .bipush 7, 2, 0, 0, 0, 0), (0, 0, 0))] (by decide +kernel) rfl ?_
    exact hx_reti (by decide +kernel) (h11 c1 c2 c3 c4 c5 c6 c7 c8 c9 c10 c11)
  refine hsw_c (fun c12 => ?_) (fun c12 => ?_)
  · have c12 : x0 = 108 := c12
    refine hx_blk (npc := 127) (L' := [(0, .inl x0)]) (st' := [.inl 3]) (m' := m) [((126, .iconst 3, 1, 0, 0, 0, 0), (0, 0, 0))] (by decide +kernel) rfl ?_
    exact hx_reti (by decide +kernel) (h12 c1 c2 c3 c4 c5 c6 c7 c8 c9 c10 c11 c12)
  refine hsw_c (fun c13 => ?_) (fun c13 => ?_)
  · have c13 : x0 = 109 := c13
    refine hx_blk (npc := 134) (L' := [(0, .inl x0)]) (st' := [.inl 6]) (m' := m) [((132, .bipush 6, 2, 0, 0, 0, 0), (0, 0, 0))] (by decide +kernel) rfl ?_
    exact hx_reti (by decide +kernel) (h13 c1 c2 c3 c4 c5 c6 c7 c8 c9 c10 c11 c12 c13)
  refine hsw_c (fun c14 => ?_) (fun c14 => ?_)
  · have c14 : x0 = 110 := c14
    refine hx_blk (npc := 157) (L' := [(0, .inl x0)]) (st' := [.inl (-1)]) (m' := m) [((156, .iconst (-1), 1, 0, 0, 0, 0), (0, 0, 0))] (by decide +kernel) rfl ?_
    exact hx_reti (by decide +kernel) (h14 c1 c2 c3 c4 c5 c6 c7 c8 c9 c10 c11 c12 c13 c14)
  refine hsw_c (fun c15 => ?_) (fun c15 => ?_)
  · have c15 : x0 = 111 := c15
    refine hx_blk (npc := 129) (L' := [(0, .inl x0)]) (st' := [.inl 4]) (m' := m) [((128, .iconst 4, 1, 0, 0, 0, 0), (0, 0, 0))] (by decide +kernel) rfl ?_
    exact hx_reti (by decide +kernel) (h15 c1 c2 c3 c4 c5 c6 c7 c8 c9 c10 c11 c12 c13 c14 c15)
  refine hsw_c (fun c16 => ?_) (fun c16 => ?_)
  · have c16 : x0 = 112 := c16
    refine hx_blk (npc := 143) (L' := [(0, .inl x0)]) (st' := [.inl 9]) (m' := m) [((141, .bipush 9, 2, 0, 0, 0, 0), (0, 0, 0))] (by decide +kernel) rfl ?_
    exact hx_reti (by decide +kernel) (h16 c1 c2 c3 c4 c5 c6 c7 c8 c9 c10 c11 c12 c13 c14 c15 c16)
  refine hsw_c (fun c17 => ?_) (fun c17 => ?_)
  · have c17 : x0 = 113 := c17
    refine hx_blk (npc := 157) (L' := [(0, .inl x0)]) (st' := [.inl (-1)]) (m' := m) [((156, .iconst (-1), 1, 0, 0, 0, 0), (0, 0, 0))] (by decide +kernel) rfl ?_
    exact hx_reti (by decide +kernel) (h17 c1 c2 c3 c4 c5 c6 c7 c8 c9 c10 c11 c12 c13 c14 c15 c16 c17)
  refine hsw_c (fun c18 => ?_) (fun c18 => ?_)
  · have c18 : x0 = 114 := c18
    refine hx_blk (npc := 157) (L' := [(0, .inl x0)]) (st' := [.inl (-1)]) (m' := m) [((156, .iconst (-1), 1, 0, 0, 0, 0), (0, 0, 0))] (by decide +kernel) rfl ?_
    exact hx_reti (by decide +kernel) (h18 c1 c2 c3 c4 c5 c6 c7 c8 c9 c10 c11 c12 c13 c14 c15 c16 c17 c18)
  refine hsw_c (fun c19 => ?_) (fun c19 => ?_)
  · have c19 : x0 = 115 := c19
    refine hx_blk (npc := 131) (L' := [(0, .inl x0)]) (st' := [.inl 5]) (m' := m) [((130, .iconst 5, 1, 0, 0, 0, 0), (0, 0, 0))] (by decide +kernel) rfl ?_
    exact hx_reti (by decide +kernel) (h19 c1 c2 c3 c4 c5 c6 c7 c8 c9 c10 c11 c12 c13 c14 c15 c16 c17 c18 c19)
  refine hsw_c (fun c20 => ?_) (fun c20 => ?_)
  · have c20 : x0 = 116 := c20
    refine hx_blk (npc := 121) (L' := [(0, .inl x0)]) (st' := [.inl 0]) (m' := m) [((120, .iconst 0, 1, 0, 0, 0, 0), (0, 0, 0))] (by decide +kernel) rfl ?_
    exact hx_reti (by decide +kernel) (h20 c1 c2 c3 c4 c5 c6 c7 c8 c9 c10 c11 c12 c13 c14 c15 c16 c17 c18 c19 c20)
  refine hsw_c (fun c21 => ?_) (fun c21 => ?_)
  · have c21 : x0 = 117 := c21
    refine hx_blk (npc := 157) (L' := [(0, .inl x0)]) (st' := [.inl (-1)]) (m' := m) [((156, .iconst (-1), 1, 0, 0, 0, 0), (0, 0, 0))] (by decide +kernel) rfl ?_
    exact hx_reti (by decide +kernel) (h21 c1 c2 c3 c4 c5 c6 c7 c8 c9 c10 c11 c12 c13 c14 c15 c16 c17 c18 c19 c20 c21)
  refine hsw_c (fun c22 => ?_) (fun c22 => ?_)
  · have c22 : x0 = 118 := c22
    refine hx_blk (npc := 157) (L' := [(0, .inl x0)]) (st' := [.inl (-1)]) (m' := m) [((156, .iconst (-1), 1, 0, 0, 0, 0), (0, 0, 0))] (by decide +kernel) rfl ?_
    exact hx_reti (by decide +kernel) (h22 c1 c2 c3 c4 c5 c6 c7 c8 c9 c10 c11 c12 c13 c14 c15 c16 c17 c18 c19 c20 c21 c22)
  refine hsw_c (fun c23 => ?_) (fun c23 => ?_)
  · have c23 : x0 = 119 := c23
    refine hx_blk (npc := 157) (L' := [(0, .inl x0)]) (st' := [.inl (-1)]) (m' := m) [((156, .iconst (-1), 1, 0, 0, 0, 0), (0, 0, 0))] (by decide +kernel) rfl ?_
    exact hx_reti (by decide +kernel) (h23 c1 c2 c3 c4 c5 c6 c7 c8 c9 c10 c11 c12 c13 c14 c15 c16 c17 c18 c19 c20 c21 c22 c23)
  refine hsw_c (fun c24 => ?_) (fun c24 => ?_)
  · have c24 : x0 = 120 := c24
    refine hx_blk (npc := 157) (L' := [(0, .inl x0)]) (st' := [.inl (-1)]) (m' := m) [((156, .iconst (-1), 1, 0, 0, 0, 0), (0, 0, 0))] (by decide +kernel) rfl ?_
    exact hx_reti (by decide +kernel) (h24 c1 c2 c3 c4 c5 c6 c7 c8 c9 c10 c11 c12 c13 c14 c15 c16 c17 c18 c19 c20 c21 c22 c23 c24)
  refine hsw_c (fun c25 => ?_) (fun c25 => ?_)
  · have c25 : x0 = 121 := c25
    refine hx_blk (npc := 123) (L' := [(0, .inl x0)]) (st' := [.inl 1]) (m' := m) [((122, .iconst 1, 1, 0, 0, 0, 0), (0, 0, 0))] (by decide +kernel) rfl ?_
    exact hx_reti (by decide +kernel) (h25 c1 c2 c3 c4 c5 c6 c7 c8 c9 c10 c11 c12 c13 c14 c15 c16 c17 c18 c19 c20 c21 c22 c23 c24 c25)
  refine hsw_c (fun c26 => ?_) (fun c26 => ?_)
  · have c26 : x0 = 122 := c26
    refine hx_blk (npc := 155) (L' := [(0, .inl x0)]) (st' := [.inl 13]) (m' := m) [((153, .bipush 13, 2, 0, 0, 0, 0), (0, 0, 0))] (by decide +kernel) rfl ?_
    exact hx_reti (by decide +kernel) (h26 c1 c2 c3 c4 c5 c6 c7 c8 c9 c10 c11 c12 c13 c14 c15 c16 c17 c18 c19 c20 c21 c22 c23 c24 c25 c26)
  refine hsw_n ?_
  refine hx_blk (npc := 157) (L' := [(0, .inl x0)]) (st' := [.inl (-1)]) (m' := m) [((156, .iconst (-1), 1, 0, 0, 0, 0), (0, 0, 0))] (by decide +kernel) rfl ?_
  exact hx_reti (by decide +kernel) (h27 c1 c2 c3 c4 c5 c6 c7 c8 c9 c10 c11 c12 c13 c14 c15 c16 c17 c18 c19 c20 c21 c22 c23 c24 c25 c26)

/-- sumSign from 0 on -/
theorem hr180_0 {xs : List Int32} {n : Nat} {Q : hQ} {m : gx_M} {x0 : Int}
    (h1 : (x0 ≠ 43) → (x0 ≠ 45) → (x0 ≠ 42) → (x0 ≠ 47) → (x0 ≠ 37) → Q (some (.inl (-1))) m)
    (h2 : (x0 ≠ 43) → (x0 ≠ 45) → (x0 ≠ 42) → (x0 ≠ 47) → (x0 = 37) → Q (some (.inl 6)) m)
    (h3 : (x0 ≠ 43) → (x0 ≠ 45) → (x0 ≠ 42) → (x0 = 47) → Q (some (.inl 5)) m)
    (h4 : (x0 ≠ 43) → (x0 ≠ 45) → (x0 = 42) → Q (some (.inl 4)) m)
    (h5 : (x0 ≠ 43) → (x0 = 45) → Q (some (.inl 3)) m)
    (h6 : (x0 = 43) → Q (some (.inl 2)) m) : hxn xs (n + 1) yp_m180 0 [(0, .inl x0)] [] m Q := by
  refine hx_blks (npc := 3) (L' := [(0, .inl x0)]) (st' := [.inl 43, .inl x0]) (m' := m) ((0, .iload_n 0, 1, 0, 0, 0, 0), (0, 0, 0)) [((1, .bipush 43, 2, 0, 0, 0, 0), (0, 0, 0))] (by decide +kernel) rfl ?_
  refine hx_cmp .ne 10 (by decide +kernel) (fun c1 => ?_) (fun c1 => ?_)
  · have c1 : x0 ≠ 43 := c1
    refine hx_blk (npc := 13) (L' := [(0, .inl x0)]) (st' := [.inl 45, .inl x0]) (m' := m) [((10, .iload_n 0, 1, 0, 0, 0, 0), (0, 0, 0)), ((11, .bipush 45, 2, 0, 0, 0, 0), (0, 0, 0))] (by decide +kernel) rfl ?_
    refine hx_cmp .ne 20 (by decide +kernel) (fun c2 => ?_) (fun c2 => ?_)
    · have c2 : x0 ≠ 45 := c2
      refine hx_blk (npc := 23) (L' := [(0, .inl x0)]) (st' := [.inl 42, .inl x0]) (m' := m) [((20, .iload_n 0, 1, 0, 0, 0, 0), (0, 0, 0)), ((21, .bipush 42, 2, 0, 0, 0, 0), (0, 0, 0))] (by decide +kernel) rfl ?_
      refine hx_cmp .ne 30 (by decide +kernel) (fun c3 => ?_) (fun c3 => ?_)
      · have c3 : x0 ≠ 42 := c3
        refine hx_blk (npc := 33) (L' := [(0, .inl x0)]) (st' := [.inl 47, .inl x0]) (m' := m) [((30, .iload_n 0, 1, 0, 0, 0, 0), (0, 0, 0)), ((31, .bipush 47, 2, 0, 0, 0, 0), (0, 0, 0))] (by decide +kernel) rfl ?_
        refine hx_cmp .ne 40 (by decide +kernel) (fun c4 => ?_) (fun c4 => ?_)
        · have c4 : x0 ≠ 47 := c4
          refine hx_blk (npc := 43) (L' := [(0, .inl x0)]) (st' := [.inl 37, .inl x0]) (m' := m) [((40, .iload_n 0, 1, 0, 0, 0, 0), (0, 0, 0)), ((41, .bipush 37, 2, 0, 0, 0, 0), (0, 0, 0))] (by decide +kernel) rfl ?_
          refine hx_cmp .ne 51 (by decide +kernel) (fun c5 => ?_) (fun c5 => ?_)
          · have c5 : x0 ≠ 37 := c5
            refine hx_blk (npc := 52) (L' := [(0, .inl x0)]) (st' := [.inl (-1)]) (m' := m) [((51, .iconst (-1), 1, 0, 0, 0, 0), (0, 0, 0))] (by decide +kernel) rfl ?_
            exact hx_reti (by decide +kernel) (h1 c1 c2 c3 c4 c5)
          · have c5 : x0 = 37 := by have h : ¬ (x0 ≠ 37) := c5; omega
            refine hx_blk (npc := 52) (L' := [(0, .inl x0)]) (st' := [.inl 6]) (m' := m) [((46, .bipush 6, 2, 0, 0, 0, 0), (0, 0, 0)), ((48, .goto 4, 3, 0, 0, 0, 0), (0, 0, 0))] (by decide +kernel) rfl ?_
            exact hx_reti (by decide +kernel) (h2 c1 c2 c3 c4 c5)
        · have c4 : x0 = 47 := by have h : ¬ (x0 ≠ 47) := c4; omega
          refine hx_blk (npc := 52) (L' := [(0, .inl x0)]) (st' := [.inl 5]) (m' := m) [((36, .iconst 5, 1, 0, 0, 0, 0), (0, 0, 0)), ((37, .goto 15, 3, 0, 0, 0, 0), (0, 0, 0))] (by decide +kernel) rfl ?_
          exact hx_reti (by decide +kernel) (h3 c1 c2 c3 c4)
      · have c3 : x0 = 42 := by have h : ¬ (x0 ≠ 42) := c3; omega
        refine hx_blk (npc := 52) (L' := [(0, .inl x0)]) (st' := [.inl 4]) (m' := m) [((26, .iconst 4, 1, 0, 0, 0, 0), (0, 0, 0)), ((27, .goto 25, 3, 0, 0, 0, 0), (0, 0, 0))] (by decide +kernel) rfl ?_
        exact hx_reti (by decide +kernel) (h4 c1 c2 c3)
    · have c2 : x0 = 45 := by have h : ¬ (x0 ≠ 45) := c2; omega
      refine hx_blk (npc := 52) (L' := [(0, .inl x0)]) (st' := [.inl 3]) (m' := m) [((16, .iconst 3, 1, 0, 0, 0, 0), (0, 0, 0)), ((17, .goto 35, 3, 0, 0, 0, 0), (0, 0, 0))] (by decide +kernel) rfl ?_
      exact hx_reti (by decide +kernel) (h5 c1 c2)
  · have c1 : x0 = 43 := by have h : ¬ (x0 ≠ 43) := c1; omega
    refine hx_blk (npc := 52) (L' := [(0, .inl x0)]) (st' := [.inl 2]) (m' := m) [((6, .iconst 2, 1, 0, 0, 0, 0), (0, 0, 0)), ((7, .goto 45, 3, 0, 0, 0, 0), (0, 0, 0))] (by decide +kernel) rfl ?_
    exact hx_reti (by decide +kernel) (h6 c1)

/-- waitTop from 0 on -/
theorem hr182_0 {xs : List Int32} {n : Nat} {Q : hQ} {m : gx_M}
    (h1 : ((m 86 11) ≠ 0) → Q (some (.inl (gx_w (Int.tdiv (m 92 (gx_w ((m 86 11) - 1)).toNat) 1048576)))) m)
    (h2 : ((m 86 11) = 0) → Q (some (.inl (-1))) m) : hxn xs (n + 1) yp_m182 0 [(0, .inr (.inl 86))] [] m Q := by
  refine hx_blks (npc := 4) (L' := [(0, .inr (.inl 86))]) (st' := [.inl (m 86 11)]) (m' := m) ((0, .aload_n 0, 1, 0, 0, 0, 0), (0, 0, 0)) [((1, .getfield 162, 3, 10, 11, 5124, 0), (0, 86, 0))] (by decide +kernel) rfl ?_
  refine hx_if .ne 11 (by decide +kernel) (fun c1 => ?_) (fun c1 => ?_)
  · have c1 : (m 86 11) ≠ 0 := c1
    refine hx_blk (npc := 25) (L' := [(0, .inr (.inl 86))]) (st' := [.inl (gx_w (Int.tdiv (m 92 (gx_w ((m 86 11) - 1)).toNat) 1048576))]) (m' := m) [((11, .aload_n 0, 1, 0, 0, 0, 0), (0, 0, 0)), ((12, .getfield 26, 3, 10, 15, 5128, 0), (1, 86, 92)), ((15, .aload_n 0, 1, 0, 0, 0, 0), (0, 0, 0)), ((16, .getfield 162, 3, 10, 11, 5124, 0), (0, 86, 0)), ((19, .iconst 1, 1, 0, 0, 0, 0), (0, 0, 0)), ((20, .isub, 1, 0, 0, 0, 0), (0, 0, 0)), ((21, .iaload, 1, 0, 0, 0, 0), (0, 92, 0)), ((22, .ldc 158, 2, 0, 0, 6077, 1048576), (0, 0, 0)), ((24, .idiv, 1, 0, 0, 0, 0), (0, 0, 0))] (by decide +kernel) rfl ?_
    exact hx_reti (by decide +kernel) (h1 c1)
  · have c1 : (m 86 11) = 0 := by have h : ¬ ((m 86 11) ≠ 0) := c1; omega
    refine hx_blk (npc := 25) (L' := [(0, .inr (.inl 86))]) (st' := [.inl (-1)]) (m' := m) [((7, .iconst (-1), 1, 0, 0, 0, 0), (0, 0, 0)), ((8, .goto 17, 3, 0, 0, 0, 0), (0, 0, 0))] (by decide +kernel) rfl ?_
    exact hx_reti (by decide +kernel) (h2 c1)

/-- readsNumber from 0 on -/
theorem hr177_0 {xs : List Int32} {n : Nat} {Q : hQ} {m : gx_M}
    (h1 : hxn xs n yp_m177 10 [(0, .inr (.inl 86)), (1, .inl (m 86 5))] [] (gx_u m 86 8 0) Q) : hxn xs (n + 1) yp_m177 0 [(0, .inr (.inl 86))] [] m Q := by
  refine hx_blks (npc := 10) (L' := [(0, .inr (.inl 86)), (1, .inl (m 86 5))]) (st' := []) (m' := (gx_u m 86 8 0)) ((0, .aload_n 0, 1, 0, 0, 0, 0), (0, 0, 0)) [((1, .getfield 132, 3, 10, 5, 5118, 0), (0, 86, 0)), ((4, .istore_n 1, 1, 0, 0, 0, 0), (0, 0, 0)), ((5, .aload_n 0, 1, 0, 0, 0, 0), (0, 0, 0)), ((6, .iconst 0, 1, 0, 0, 0, 0), (0, 0, 0)), ((7, .putfield 148, 3, 10, 8, 5121, 0), (0, 86, 0))] (by decide +kernel) rfl ?_
  exact hx_pick [0, 1] h1

/-- readsNumber from 10 on -/
theorem hr177_10 {xs : List Int32} {n : Nat} {Q : hQ} {m : gx_M} {x1 : Int}
    (h1 : (isDg (aHere m)) → ((m 86 5) ≠ (gx_w (x1 + 5))) → hxn xs n yp_m177 10 [(0, .inr (.inl 86)), (1, .inl x1)] [] (gx_u (gx_u m 86 8 (gx_w ((gx_w ((gx_w (10 * (m 86 8))) + (aHere m))) - 48))) 86 5 (gx_w ((m 86 5) + 1))) Q)
    (h2 : (isDg (aHere m)) → ((m 86 5) = (gx_w (x1 + 5))) → hxn xs n yp_m172 0 [(0, .inr (.inl 86)), (1, .inl 2), (2, .inl (m 86 5))] [] m (fun r m' => hxn xs n yp_m177 36 [] (hrs r ++ []) m' Q))
    (h3 : (¬ (isDg (aHere m))) → Q (some (.inl 1)) m) : hxn xs (n + 1) yp_m177 10 [(0, .inr (.inl 86)), (1, .inl x1)] [] m Q := by
  refine hx_blks (npc := 11) (L' := [(0, .inr (.inl 86)), (1, .inl x1)]) (st' := [.inr (.inl 86)]) (m' := m) ((10, .aload_n 0, 1, 0, 0, 0, 0), (0, 0, 0)) [] (by decide +kernel) rfl ?_
  refine hx_call (E := (11, .invokevirtual 151, 3, 176, 0, 6078, 0)) (M' := yp_m176) [.inr (.inl 86)] [] rfl (by decide +kernel) rfl ⟨rfl, rfl⟩ rfl rfl (hs176 (fun c1 => ?_) (fun c1 => ?_))
  · have c1 : isDg (aHere m) := c1
    show hxn xs n yp_m177 14 [(0, .inr (.inl 86)), (1, .inl x1)] [.inl 1] m Q
    refine hx_if .eq 69 (by decide +kernel) (fun c2 => ?_) (fun c2 => ?_)
    · have c2 : (1 : Int) = 0 := c2
      exfalso; omega
    · have c2 : (1 : Int) ≠ 0 := c2
      refine hx_blk (npc := 24) (L' := [(0, .inr (.inl 86)), (1, .inl x1)]) (st' := [.inl (gx_w (x1 + 5)), .inl (m 86 5)]) (m' := m) [((17, .aload_n 0, 1, 0, 0, 0, 0), (0, 0, 0)), ((18, .getfield 132, 3, 10, 5, 5118, 0), (0, 86, 0)), ((21, .iload_n 1, 1, 0, 0, 0, 0), (0, 0, 0)), ((22, .iconst 5, 1, 0, 0, 0, 0), (0, 0, 0)), ((23, .iadd, 1, 0, 0, 0, 0), (0, 0, 0))] (by decide +kernel) rfl ?_
      refine hx_cmp .ne 37 (by decide +kernel) (fun c2 => ?_) (fun c2 => ?_)
      · have c2 : (m 86 5) ≠ (gx_w (x1 + 5)) := c2
        refine hx_blk (npc := 46) (L' := [(0, .inr (.inl 86)), (1, .inl x1)]) (st' := [.inr (.inl 86), .inl (gx_w (10 * (m 86 8))), .inr (.inl 86)]) (m' := m) [((37, .aload_n 0, 1, 0, 0, 0, 0), (0, 0, 0)), ((38, .bipush 10, 2, 0, 0, 0, 0), (0, 0, 0)), ((40, .aload_n 0, 1, 0, 0, 0, 0), (0, 0, 0)), ((41, .getfield 148, 3, 10, 8, 5121, 0), (0, 86, 0)), ((44, .imul, 1, 0, 0, 0, 0), (0, 0, 0)), ((45, .aload_n 0, 1, 0, 0, 0, 0), (0, 0, 0))] (by decide +kernel) rfl ?_
        refine hx_call (E := (46, .invokevirtual 138, 3, 170, 0, 6054, 0)) (M' := yp_m170) [.inr (.inl 86)] [.inl (gx_w (10 * (m 86 8))), .inr (.inl 86)] rfl (by decide +kernel) rfl ⟨rfl, rfl⟩ rfl rfl (hs170 ?_)
        show hxn xs n yp_m177 49 [(0, .inr (.inl 86)), (1, .inl x1)] [.inl (aHere m), .inl (gx_w (10 * (m 86 8))), .inr (.inl 86)] m Q
        refine hx_blk (npc := 10) (L' := [(0, .inr (.inl 86)), (1, .inl x1)]) (st' := []) (m' := (gx_u (gx_u m 86 8 (gx_w ((gx_w ((gx_w (10 * (m 86 8))) + (aHere m))) - 48))) 86 5 (gx_w ((m 86 5) + 1)))) [((49, .iadd, 1, 0, 0, 0, 0), (0, 0, 0)), ((50, .bipush 48, 2, 0, 0, 0, 0), (0, 0, 0)), ((52, .isub, 1, 0, 0, 0, 0), (0, 0, 0)), ((53, .putfield 148, 3, 10, 8, 5121, 0), (0, 86, 0)), ((56, .aload_n 0, 1, 0, 0, 0, 0), (0, 0, 0)), ((57, .aload_n 0, 1, 0, 0, 0, 0), (0, 0, 0)), ((58, .getfield 132, 3, 10, 5, 5118, 0), (0, 86, 0)), ((61, .iconst 1, 1, 0, 0, 0, 0), (0, 0, 0)), ((62, .iadd, 1, 0, 0, 0, 0), (0, 0, 0)), ((63, .putfield 132, 3, 10, 5, 5118, 0), (0, 86, 0)), ((66, .goto (-56), 3, 0, 0, 0, 0), (0, 0, 0))] (by decide +kernel) rfl ?_
        exact hx_pick [0, 1] (h1 c1 c2)
      · have c2 : (m 86 5) = (gx_w (x1 + 5)) := by have h : ¬ ((m 86 5) ≠ (gx_w (x1 + 5))) := c2; omega
        refine hx_blk (npc := 33) (L' := [(0, .inr (.inl 86)), (1, .inl x1)]) (st' := [.inl (m 86 5), .inl 2, .inr (.inl 86)]) (m' := m) [((27, .aload_n 0, 1, 0, 0, 0, 0), (0, 0, 0)), ((28, .iconst 2, 1, 0, 0, 0, 0), (0, 0, 0)), ((29, .aload_n 0, 1, 0, 0, 0, 0), (0, 0, 0)), ((30, .getfield 132, 3, 10, 5, 5118, 0), (0, 86, 0))] (by decide +kernel) rfl ?_
        exact hx_call (E := (33, .invokevirtual 145, 3, 172, 0, 6061, 0)) (M' := yp_m172) [.inr (.inl 86), .inl 2, .inl (m 86 5)] [] rfl (by decide +kernel) rfl ⟨rfl, rfl⟩ rfl rfl (hx_mono (h2 c1 c2) (fun r m' h' => hx_pick [] h'))
  · have c1 : ¬ (isDg (aHere m)) := c1
    show hxn xs n yp_m177 14 [(0, .inr (.inl 86)), (1, .inl x1)] [.inl 0] m Q
    refine hx_if .eq 69 (by decide +kernel) (fun c2 => ?_) (fun c2 => ?_)
    · have c2 : (0 : Int) = 0 := c2
      refine hx_blk (npc := 70) (L' := [(0, .inr (.inl 86)), (1, .inl x1)]) (st' := [.inl 1]) (m' := m) [((69, .iconst 1, 1, 0, 0, 0, 0), (0, 0, 0))] (by decide +kernel) rfl ?_
      exact hx_reti (by decide +kernel) (h3 c1)
    · have c2 : (0 : Int) ≠ 0 := c2
      exfalso; omega

/-- readsNumber from 36 on -/
theorem hr177_36 {xs : List Int32} {n : Nat} {Q : hQ} {m : gx_M} {s0 : Int}
    (h1 : Q (some (.inl s0)) m) : hxn xs (n + 1) yp_m177 36 [] [.inl s0] m Q := by
  exact hx_reti (by decide +kernel) h1

/-- jumps from 0 on -/
theorem hr188_0 {xs : List Int32} {n : Nat} {Q : hQ} {m : gx_M} {x1 : Int}
    (h1 : hxn xs n yp_m178 0 [(0, .inr (.inl 86)), (1, .inl x1), (2, .inl 0)] [] (gx_u (gx_u m 92 (m 86 11).toNat (gx_w ((gx_w (1048576 * x1)) + (m 86 10)))) 86 11 (gx_w ((m 86 11) + 1))) (fun r m' => hxn xs n yp_m188 34 [(0, .inr (.inl 86))] (hrs r ++ []) m' Q)) : hxn xs (n + 1) yp_m188 0 [(0, .inr (.inl 86)), (1, .inl x1)] [] m Q := by
  refine hx_blks (npc := 31) (L' := [(0, .inr (.inl 86)), (1, .inl x1)]) (st' := [.inl 0, .inl x1, .inr (.inl 86)]) (m' := (gx_u (gx_u m 92 (m 86 11).toNat (gx_w ((gx_w (1048576 * x1)) + (m 86 10)))) 86 11 (gx_w ((m 86 11) + 1)))) ((0, .aload_n 0, 1, 0, 0, 0, 0), (0, 0, 0)) [((1, .getfield 26, 3, 10, 15, 5128, 0), (1, 86, 92)), ((4, .aload_n 0, 1, 0, 0, 0, 0), (0, 0, 0)), ((5, .getfield 162, 3, 10, 11, 5124, 0), (0, 86, 0)), ((8, .ldc 158, 2, 0, 0, 6077, 1048576), (0, 0, 0)), ((10, .iload_n 1, 1, 0, 0, 0, 0), (0, 0, 0)), ((11, .imul, 1, 0, 0, 0, 0), (0, 0, 0)), ((12, .aload_n 0, 1, 0, 0, 0, 0), (0, 0, 0)), ((13, .getfield 155, 3, 10, 10, 5123, 0), (0, 86, 0)), ((16, .iadd, 1, 0, 0, 0, 0), (0, 0, 0)), ((17, .iastore, 1, 0, 0, 0, 0), (0, 92, 0)), ((18, .aload_n 0, 1, 0, 0, 0, 0), (0, 0, 0)), ((19, .aload_n 0, 1, 0, 0, 0, 0), (0, 0, 0)), ((20, .getfield 162, 3, 10, 11, 5124, 0), (0, 86, 0)), ((23, .iconst 1, 1, 0, 0, 0, 0), (0, 0, 0)), ((24, .iadd, 1, 0, 0, 0, 0), (0, 0, 0)), ((25, .putfield 162, 3, 10, 11, 5124, 0), (0, 86, 0)), ((28, .aload_n 0, 1, 0, 0, 0, 0), (0, 0, 0)), ((29, .iload_n 1, 1, 0, 0, 0, 0), (0, 0, 0)), ((30, .iconst 0, 1, 0, 0, 0, 0), (0, 0, 0))] (by decide +kernel) rfl ?_
  exact hx_call (E := (31, .invokevirtual 168, 3, 178, 0, 6086, 0)) (M' := yp_m178) [.inr (.inl 86), .inl x1, .inl 0] [] rfl (by decide +kernel) rfl ⟨rfl, rfl⟩ rfl rfl (hx_mono h1 (fun r m' h' => hx_pick [0] h'))

/-- jumps from 34 on -/
theorem hr188_34 {xs : List Int32} {n : Nat} {Q : hQ} {m : gx_M}
    (h1 : Q none (gx_u m 86 5 (gx_w ((m 86 5) + 1)))) : hxn xs (n + 1) yp_m188 34 [(0, .inr (.inl 86))] [] m Q := by
  refine hx_blks (npc := 44) (L' := [(0, .inr (.inl 86))]) (st' := []) (m' := (gx_u m 86 5 (gx_w ((m 86 5) + 1)))) ((34, .aload_n 0, 1, 0, 0, 0, 0), (0, 0, 0)) [((35, .aload_n 0, 1, 0, 0, 0, 0), (0, 0, 0)), ((36, .getfield 132, 3, 10, 5, 5118, 0), (0, 86, 0)), ((39, .iconst 1, 1, 0, 0, 0, 0), (0, 0, 0)), ((40, .iadd, 1, 0, 0, 0, 0), (0, 0, 0)), ((41, .putfield 132, 3, 10, 5, 5118, 0), (0, 86, 0))] (by decide +kernel) rfl ?_
  exact hx_ret0 (by decide +kernel) h1

/-- takes from 0 on -/
theorem hr189_0 {xs : List Int32} {n : Nat} {Q : hQ} {m : gx_M} {x1 : Int}
    (h1 : ((aHere m) = x1) → Q (some (.inl 1)) (gx_u m 86 5 (gx_w ((m 86 5) + 1))))
    (h2 : ((aHere m) ≠ x1) → hxn xs n yp_m172 0 [(0, .inr (.inl 86)), (1, .inl 1), (2, .inl (m 86 5))] [] m (fun r m' => hxn xs n yp_m189 17 [] (hrs r ++ []) m' Q)) : hxn xs (n + 1) yp_m189 0 [(0, .inr (.inl 86)), (1, .inl x1)] [] m Q := by
  refine hx_blks (npc := 1) (L' := [(0, .inr (.inl 86)), (1, .inl x1)]) (st' := [.inr (.inl 86)]) (m' := m) ((0, .aload_n 0, 1, 0, 0, 0, 0), (0, 0, 0)) [] (by decide +kernel) rfl ?_
  refine hx_call (E := (1, .invokevirtual 138, 3, 170, 0, 6054, 0)) (M' := yp_m170) [.inr (.inl 86)] [] rfl (by decide +kernel) rfl ⟨rfl, rfl⟩ rfl rfl (hs170 ?_)
  show hxn xs n yp_m189 4 [(0, .inr (.inl 86)), (1, .inl x1)] [.inl (aHere m)] m Q
  refine hx_blk (npc := 5) (L' := [(0, .inr (.inl 86)), (1, .inl x1)]) (st' := [.inl x1, .inl (aHere m)]) (m' := m) [((4, .iload_n 1, 1, 0, 0, 0, 0), (0, 0, 0))] (by decide +kernel) rfl ?_
  refine hx_cmp .eq 18 (by decide +kernel) (fun c1 => ?_) (fun c1 => ?_)
  · have c1 : (aHere m) = x1 := c1
    refine hx_blk (npc := 29) (L' := [(0, .inr (.inl 86)), (1, .inl x1)]) (st' := [.inl 1]) (m' := (gx_u m 86 5 (gx_w ((m 86 5) + 1)))) [((18, .aload_n 0, 1, 0, 0, 0, 0), (0, 0, 0)), ((19, .aload_n 0, 1, 0, 0, 0, 0), (0, 0, 0)), ((20, .getfield 132, 3, 10, 5, 5118, 0), (0, 86, 0)), ((23, .iconst 1, 1, 0, 0, 0, 0), (0, 0, 0)), ((24, .iadd, 1, 0, 0, 0, 0), (0, 0, 0)), ((25, .putfield 132, 3, 10, 5, 5118, 0), (0, 86, 0)), ((28, .iconst 1, 1, 0, 0, 0, 0), (0, 0, 0))] (by decide +kernel) rfl ?_
    exact hx_reti (by decide +kernel) (h1 c1)
  · have c1 : (aHere m) ≠ x1 := c1
    refine hx_blk (npc := 14) (L' := [(0, .inr (.inl 86)), (1, .inl x1)]) (st' := [.inl (m 86 5), .inl 1, .inr (.inl 86)]) (m' := m) [((8, .aload_n 0, 1, 0, 0, 0, 0), (0, 0, 0)), ((9, .iconst 1, 1, 0, 0, 0, 0), (0, 0, 0)), ((10, .aload_n 0, 1, 0, 0, 0, 0), (0, 0, 0)), ((11, .getfield 132, 3, 10, 5, 5118, 0), (0, 86, 0))] (by decide +kernel) rfl ?_
    exact hx_call (E := (14, .invokevirtual 145, 3, 172, 0, 6061, 0)) (M' := yp_m172) [.inr (.inl 86), .inl 1, .inl (m 86 5)] [] rfl (by decide +kernel) rfl ⟨rfl, rfl⟩ rfl rfl (hx_mono (h2 c1) (fun r m' h' => hx_pick [] h'))

/-- takes from 17 on -/
theorem hr189_17 {xs : List Int32} {n : Nat} {Q : hQ} {m : gx_M} {s0 : Int}
    (h1 : Q (some (.inl s0)) m) : hxn xs (n + 1) yp_m189 17 [] [.inl s0] m Q := by
  exact hx_reti (by decide +kernel) h1

/-- closesSums from 0 on -/
theorem hr181_0 {xs : List Int32} {n : Nat} {Q : hQ} {m : gx_M} {x1 : Int}
    (h1 : hxn xs n yp_m182 0 [(0, .inr (.inl 86))] [] m (fun r m' => hxn xs n yp_m181 4 [(0, .inr (.inl 86)), (1, .inl x1)] (hrs r ++ []) m' Q)) : hxn xs (n + 1) yp_m181 0 [(0, .inr (.inl 86)), (1, .inl x1)] [] m Q := by
  refine hx_blks (npc := 1) (L' := [(0, .inr (.inl 86)), (1, .inl x1)]) (st' := [.inr (.inl 86)]) (m' := m) ((0, .aload_n 0, 1, 0, 0, 0, 0), (0, 0, 0)) [] (by decide +kernel) rfl ?_
  exact hx_call (E := (1, .invokevirtual 165, 3, 182, 0, 6100, 0)) (M' := yp_m182) [.inr (.inl 86)] [] rfl (by decide +kernel) rfl ⟨rfl, rfl⟩ rfl rfl (hx_mono h1 (fun r m' h' => hx_pick [0, 1] h'))

/-- closesSums from 4 on -/
theorem hr181_4 {xs : List Int32} {n : Nat} {Q : hQ} {m : gx_M} {x1 s0 : Int}
    (h1 : (s0 < 4) → (x1 = 0) → Q none m)
    (h2 : (s0 < 4) → (x1 ≠ 0) → hxn xs n yp_m182 0 [(0, .inr (.inl 86))] [] m (fun r m' => hxn xs n yp_m181 25 [(0, .inr (.inl 86)), (1, .inl x1)] (hrs r ++ []) m' Q))
    (h3 : (4 ≤ s0) → hxn xs n yp_m182 0 [(0, .inr (.inl 86))] [] m (fun r m' => hxn xs n yp_m181 12 [(0, .inr (.inl 86)), (1, .inl x1)] (hrs r ++ []) m' Q)) : hxn xs (n + 1) yp_m181 4 [(0, .inr (.inl 86)), (1, .inl x1)] [.inl s0] m Q := by
  refine hx_blks (npc := 5) (L' := [(0, .inr (.inl 86)), (1, .inl x1)]) (st' := [.inl 4, .inl s0]) (m' := m) ((4, .iconst 4, 1, 0, 0, 0, 0), (0, 0, 0)) [] (by decide +kernel) rfl ?_
  refine hx_cmp .lt 17 (by decide +kernel) (fun c1 => ?_) (fun c1 => ?_)
  · have c1 : s0 < 4 := c1
    refine hx_blk (npc := 18) (L' := [(0, .inr (.inl 86)), (1, .inl x1)]) (st' := [.inl x1]) (m' := m) [((17, .iload_n 1, 1, 0, 0, 0, 0), (0, 0, 0))] (by decide +kernel) rfl ?_
    refine hx_if .eq 59 (by decide +kernel) (fun c2 => ?_) (fun c2 => ?_)
    · have c2 : x1 = 0 := c2
      exact hx_ret0 (by decide +kernel) (h1 c1 c2)
    · have c2 : x1 ≠ 0 := c2
      refine hx_blk (npc := 22) (L' := [(0, .inr (.inl 86)), (1, .inl x1)]) (st' := [.inr (.inl 86)]) (m' := m) [((21, .aload_n 0, 1, 0, 0, 0, 0), (0, 0, 0))] (by decide +kernel) rfl ?_
      exact hx_call (E := (22, .invokevirtual 165, 3, 182, 0, 6100, 0)) (M' := yp_m182) [.inr (.inl 86)] [] rfl (by decide +kernel) rfl ⟨rfl, rfl⟩ rfl rfl (hx_mono (h2 c1 c2) (fun r m' h' => hx_pick [0, 1] h'))
  · have c1 : 4 ≤ s0 := by have h : ¬ (s0 < 4) := c1; omega
    refine hx_blk (npc := 9) (L' := [(0, .inr (.inl 86)), (1, .inl x1)]) (st' := [.inr (.inl 86)]) (m' := m) [((8, .aload_n 0, 1, 0, 0, 0, 0), (0, 0, 0))] (by decide +kernel) rfl ?_
    exact hx_call (E := (9, .invokevirtual 165, 3, 182, 0, 6100, 0)) (M' := yp_m182) [.inr (.inl 86)] [] rfl (by decide +kernel) rfl ⟨rfl, rfl⟩ rfl rfl (hx_mono (h3 c1) (fun r m' h' => hx_pick [0, 1] h'))

/-- closesSums from 12 on -/
theorem hr181_12 {xs : List Int32} {n : Nat} {Q : hQ} {m : gx_M} {x1 s0 : Int}
    (h1 : (s0 ≤ 6) → hxn xs n yp_m182 0 [(0, .inr (.inl 86))] [] m (fun r m' => hxn xs n yp_m181 42 [(0, .inr (.inl 86)), (1, .inl x1)] (hrs r ++ [.inr (.inl 86)]) m' Q))
    (h2 : (6 < s0) → (x1 = 0) → Q none m)
    (h3 : (6 < s0) → (x1 ≠ 0) → hxn xs n yp_m182 0 [(0, .inr (.inl 86))] [] m (fun r m' => hxn xs n yp_m181 25 [(0, .inr (.inl 86)), (1, .inl x1)] (hrs r ++ []) m' Q)) : hxn xs (n + 1) yp_m181 12 [(0, .inr (.inl 86)), (1, .inl x1)] [.inl s0] m Q := by
  refine hx_blks (npc := 14) (L' := [(0, .inr (.inl 86)), (1, .inl x1)]) (st' := [.inl 6, .inl s0]) (m' := m) ((12, .bipush 6, 2, 0, 0, 0, 0), (0, 0, 0)) [] (by decide +kernel) rfl ?_
  refine hx_cmp .le 37 (by decide +kernel) (fun c1 => ?_) (fun c1 => ?_)
  · have c1 : s0 ≤ 6 := c1
    refine hx_blk (npc := 39) (L' := [(0, .inr (.inl 86)), (1, .inl x1)]) (st' := [.inr (.inl 86), .inr (.inl 86)]) (m' := m) [((37, .aload_n 0, 1, 0, 0, 0, 0), (0, 0, 0)), ((38, .aload_n 0, 1, 0, 0, 0, 0), (0, 0, 0))] (by decide +kernel) rfl ?_
    exact hx_call (E := (39, .invokevirtual 165, 3, 182, 0, 6100, 0)) (M' := yp_m182) [.inr (.inl 86)] [.inr (.inl 86)] rfl (by decide +kernel) rfl ⟨rfl, rfl⟩ rfl rfl (hx_mono (h1 c1) (fun r m' h' => hx_pick [0, 1] h'))
  · have c1 : 6 < s0 := by have h : ¬ (s0 ≤ 6) := c1; omega
    refine hx_blk (npc := 18) (L' := [(0, .inr (.inl 86)), (1, .inl x1)]) (st' := [.inl x1]) (m' := m) [((17, .iload_n 1, 1, 0, 0, 0, 0), (0, 0, 0))] (by decide +kernel) rfl ?_
    refine hx_if .eq 59 (by decide +kernel) (fun c2 => ?_) (fun c2 => ?_)
    · have c2 : x1 = 0 := c2
      exact hx_ret0 (by decide +kernel) (h2 c1 c2)
    · have c2 : x1 ≠ 0 := c2
      refine hx_blk (npc := 22) (L' := [(0, .inr (.inl 86)), (1, .inl x1)]) (st' := [.inr (.inl 86)]) (m' := m) [((21, .aload_n 0, 1, 0, 0, 0, 0), (0, 0, 0))] (by decide +kernel) rfl ?_
      exact hx_call (E := (22, .invokevirtual 165, 3, 182, 0, 6100, 0)) (M' := yp_m182) [.inr (.inl 86)] [] rfl (by decide +kernel) rfl ⟨rfl, rfl⟩ rfl rfl (hx_mono (h3 c1 c2) (fun r m' h' => hx_pick [0, 1] h'))

/-- closesSums from 25 on -/
theorem hr181_25 {xs : List Int32} {n : Nat} {Q : hQ} {m : gx_M} {x1 s0 : Int}
    (h1 : (s0 = 2) → hxn xs n yp_m182 0 [(0, .inr (.inl 86))] [] m (fun r m' => hxn xs n yp_m181 42 [(0, .inr (.inl 86)), (1, .inl x1)] (hrs r ++ [.inr (.inl 86)]) m' Q))
    (h2 : (s0 ≠ 2) → hxn xs n yp_m182 0 [(0, .inr (.inl 86))] [] m (fun r m' => hxn xs n yp_m181 33 [(0, .inr (.inl 86)), (1, .inl x1)] (hrs r ++ []) m' Q)) : hxn xs (n + 1) yp_m181 25 [(0, .inr (.inl 86)), (1, .inl x1)] [.inl s0] m Q := by
  refine hx_blks (npc := 26) (L' := [(0, .inr (.inl 86)), (1, .inl x1)]) (st' := [.inl 2, .inl s0]) (m' := m) ((25, .iconst 2, 1, 0, 0, 0, 0), (0, 0, 0)) [] (by decide +kernel) rfl ?_
  refine hx_cmp .eq 37 (by decide +kernel) (fun c1 => ?_) (fun c1 => ?_)
  · have c1 : s0 = 2 := c1
    refine hx_blk (npc := 39) (L' := [(0, .inr (.inl 86)), (1, .inl x1)]) (st' := [.inr (.inl 86), .inr (.inl 86)]) (m' := m) [((37, .aload_n 0, 1, 0, 0, 0, 0), (0, 0, 0)), ((38, .aload_n 0, 1, 0, 0, 0, 0), (0, 0, 0))] (by decide +kernel) rfl ?_
    exact hx_call (E := (39, .invokevirtual 165, 3, 182, 0, 6100, 0)) (M' := yp_m182) [.inr (.inl 86)] [.inr (.inl 86)] rfl (by decide +kernel) rfl ⟨rfl, rfl⟩ rfl rfl (hx_mono (h1 c1) (fun r m' h' => hx_pick [0, 1] h'))
  · have c1 : s0 ≠ 2 := c1
    refine hx_blk (npc := 30) (L' := [(0, .inr (.inl 86)), (1, .inl x1)]) (st' := [.inr (.inl 86)]) (m' := m) [((29, .aload_n 0, 1, 0, 0, 0, 0), (0, 0, 0))] (by decide +kernel) rfl ?_
    exact hx_call (E := (30, .invokevirtual 165, 3, 182, 0, 6100, 0)) (M' := yp_m182) [.inr (.inl 86)] [] rfl (by decide +kernel) rfl ⟨rfl, rfl⟩ rfl rfl (hx_mono (h2 c1) (fun r m' h' => hx_pick [0, 1] h'))

/-- closesSums from 33 on -/
theorem hr181_33 {xs : List Int32} {n : Nat} {Q : hQ} {m : gx_M} {x1 s0 : Int}
    (h1 : (s0 ≠ 3) → Q none m)
    (h2 : (s0 = 3) → hxn xs n yp_m182 0 [(0, .inr (.inl 86))] [] m (fun r m' => hxn xs n yp_m181 42 [(0, .inr (.inl 86)), (1, .inl x1)] (hrs r ++ [.inr (.inl 86)]) m' Q)) : hxn xs (n + 1) yp_m181 33 [(0, .inr (.inl 86)), (1, .inl x1)] [.inl s0] m Q := by
  refine hx_blks (npc := 34) (L' := [(0, .inr (.inl 86)), (1, .inl x1)]) (st' := [.inl 3, .inl s0]) (m' := m) ((33, .iconst 3, 1, 0, 0, 0, 0), (0, 0, 0)) [] (by decide +kernel) rfl ?_
  refine hx_cmp .ne 59 (by decide +kernel) (fun c1 => ?_) (fun c1 => ?_)
  · have c1 : s0 ≠ 3 := c1
    exact hx_ret0 (by decide +kernel) (h1 c1)
  · have c1 : s0 = 3 := by have h : ¬ (s0 ≠ 3) := c1; omega
    refine hx_blk (npc := 39) (L' := [(0, .inr (.inl 86)), (1, .inl x1)]) (st' := [.inr (.inl 86), .inr (.inl 86)]) (m' := m) [((37, .aload_n 0, 1, 0, 0, 0, 0), (0, 0, 0)), ((38, .aload_n 0, 1, 0, 0, 0, 0), (0, 0, 0))] (by decide +kernel) rfl ?_
    exact hx_call (E := (39, .invokevirtual 165, 3, 182, 0, 6100, 0)) (M' := yp_m182) [.inr (.inl 86)] [.inr (.inl 86)] rfl (by decide +kernel) rfl ⟨rfl, rfl⟩ rfl rfl (hx_mono (h2 c1) (fun r m' h' => hx_pick [0, 1] h'))

/-- closesSums from 42 on -/
theorem hr181_42 {xs : List Int32} {n : Nat} {Q : hQ} {m : gx_M} {x1 s1 : Int}
    (h1 : hxn xs n yp_m178 0 [(0, .inr (.inl 86)), (1, .inl s1), (2, .inl 0)] [] m (fun r m' => hxn xs n yp_m181 46 [(0, .inr (.inl 86)), (1, .inl x1)] (hrs r ++ []) m' Q)) : hxn xs (n + 1) yp_m181 42 [(0, .inr (.inl 86)), (1, .inl x1)] [.inl s1, .inr (.inl 86)] m Q := by
  refine hx_blks (npc := 43) (L' := [(0, .inr (.inl 86)), (1, .inl x1)]) (st' := [.inl 0, .inl s1, .inr (.inl 86)]) (m' := m) ((42, .iconst 0, 1, 0, 0, 0, 0), (0, 0, 0)) [] (by decide +kernel) rfl ?_
  exact hx_call (E := (43, .invokevirtual 168, 3, 178, 0, 6086, 0)) (M' := yp_m178) [.inr (.inl 86), .inl s1, .inl 0] [] rfl (by decide +kernel) rfl ⟨rfl, rfl⟩ rfl rfl (hx_mono h1 (fun r m' h' => hx_pick [0, 1] h'))

/-- closesSums from 46 on -/
theorem hr181_46 {xs : List Int32} {n : Nat} {Q : hQ} {m : gx_M} {x1 : Int}
    (h1 : hxn xs n yp_m181 0 [(0, .inr (.inl 86)), (1, .inl x1)] [] (gx_u m 86 11 (gx_w ((m 86 11) - 1))) Q) : hxn xs (n + 1) yp_m181 46 [(0, .inr (.inl 86)), (1, .inl x1)] [] m Q := by
  refine hx_blks (npc := 0) (L' := [(0, .inr (.inl 86)), (1, .inl x1)]) (st' := []) (m' := (gx_u m 86 11 (gx_w ((m 86 11) - 1)))) ((46, .aload_n 0, 1, 0, 0, 0, 0), (0, 0, 0)) [((47, .aload_n 0, 1, 0, 0, 0, 0), (0, 0, 0)), ((48, .getfield 162, 3, 10, 11, 5124, 0), (0, 86, 0)), ((51, .iconst 1, 1, 0, 0, 0, 0), (0, 0, 0)), ((52, .isub, 1, 0, 0, 0, 0), (0, 0, 0)), ((53, .putfield 162, 3, 10, 11, 5124, 0), (0, 86, 0)), ((56, .goto (-56), 3, 0, 0, 0, 0), (0, 0, 0))] (by decide +kernel) rfl ?_
  exact hx_pick [0, 1] h1

/-- endsPiece from 0 on -/
theorem hr186_0 {xs : List Int32} {n : Nat} {Q : hQ} {m : gx_M}
    (h1 : hxn xs n yp_m182 0 [(0, .inr (.inl 86))] [] m (fun r m' => hxn xs n yp_m186 4 [(0, .inr (.inl 86))] (hrs r ++ []) m' Q)) : hxn xs (n + 1) yp_m186 0 [(0, .inr (.inl 86))] [] m Q := by
  refine hx_blks (npc := 1) (L' := [(0, .inr (.inl 86))]) (st' := [.inr (.inl 86)]) (m' := m) ((0, .aload_n 0, 1, 0, 0, 0, 0), (0, 0, 0)) [] (by decide +kernel) rfl ?_
  exact hx_call (E := (1, .invokevirtual 165, 3, 182, 0, 6100, 0)) (M' := yp_m182) [.inr (.inl 86)] [] rfl (by decide +kernel) rfl ⟨rfl, rfl⟩ rfl rfl (hx_mono h1 (fun r m' h' => hx_pick [0] h'))

/-- endsPiece from 4 on -/
theorem hr186_4 {xs : List Int32} {n : Nat} {Q : hQ} {m : gx_M} {s0 : Int}
    (h1 : (s0 ≠ 10) → Q none m)
    (h2 : (s0 = 10) → hxn xs n yp_m178 0 [(0, .inr (.inl 86)), (1, .inl 10), (2, .inl 0)] [] m (fun r m' => hxn xs n yp_m186 16 [(0, .inr (.inl 86))] (hrs r ++ []) m' Q)) : hxn xs (n + 1) yp_m186 4 [(0, .inr (.inl 86))] [.inl s0] m Q := by
  refine hx_blks (npc := 6) (L' := [(0, .inr (.inl 86))]) (st' := [.inl 10, .inl s0]) (m' := m) ((4, .bipush 10, 2, 0, 0, 0, 0), (0, 0, 0)) [] (by decide +kernel) rfl ?_
  refine hx_cmp .ne 39 (by decide +kernel) (fun c1 => ?_) (fun c1 => ?_)
  · have c1 : s0 ≠ 10 := c1
    exact hx_ret0 (by decide +kernel) (h1 c1)
  · have c1 : s0 = 10 := by have h : ¬ (s0 ≠ 10) := c1; omega
    refine hx_blk (npc := 13) (L' := [(0, .inr (.inl 86))]) (st' := [.inl 0, .inl 10, .inr (.inl 86)]) (m' := m) [((9, .aload_n 0, 1, 0, 0, 0, 0), (0, 0, 0)), ((10, .bipush 10, 2, 0, 0, 0, 0), (0, 0, 0)), ((12, .iconst 0, 1, 0, 0, 0, 0), (0, 0, 0))] (by decide +kernel) rfl ?_
    exact hx_call (E := (13, .invokevirtual 168, 3, 178, 0, 6086, 0)) (M' := yp_m178) [.inr (.inl 86), .inl 10, .inl 0] [] rfl (by decide +kernel) rfl ⟨rfl, rfl⟩ rfl rfl (hx_mono (h2 c1) (fun r m' h' => hx_pick [0] h'))

/-- endsPiece from 16 on -/
theorem hr186_16 {xs : List Int32} {n : Nat} {Q : hQ} {m : gx_M}
    (h1 : hxn xs n yp_m186 0 [(0, .inr (.inl 86))] [] (gx_u (gx_u m 86 11 (gx_w ((m 86 11) - 1))) 86 9 (gx_w ((m 86 9) - 1))) Q) : hxn xs (n + 1) yp_m186 16 [(0, .inr (.inl 86))] [] m Q := by
  refine hx_blks (npc := 0) (L' := [(0, .inr (.inl 86))]) (st' := []) (m' := (gx_u (gx_u m 86 11 (gx_w ((m 86 11) - 1))) 86 9 (gx_w ((m 86 9) - 1)))) ((16, .aload_n 0, 1, 0, 0, 0, 0), (0, 0, 0)) [((17, .aload_n 0, 1, 0, 0, 0, 0), (0, 0, 0)), ((18, .getfield 162, 3, 10, 11, 5124, 0), (0, 86, 0)), ((21, .iconst 1, 1, 0, 0, 0, 0), (0, 0, 0)), ((22, .isub, 1, 0, 0, 0, 0), (0, 0, 0)), ((23, .putfield 162, 3, 10, 11, 5124, 0), (0, 86, 0)), ((26, .aload_n 0, 1, 0, 0, 0, 0), (0, 0, 0)), ((27, .aload_n 0, 1, 0, 0, 0, 0), (0, 0, 0)), ((28, .getfield 159, 3, 10, 9, 5122, 0), (0, 86, 0)), ((31, .iconst 1, 1, 0, 0, 0, 0), (0, 0, 0)), ((32, .isub, 1, 0, 0, 0, 0), (0, 0, 0)), ((33, .putfield 159, 3, 10, 9, 5122, 0), (0, 86, 0)), ((36, .goto (-36), 3, 0, 0, 0, 0), (0, 0, 0))] (by decide +kernel) rfl ?_
  exact hx_pick [0] h1

/-- lands from 0 on -/
theorem hr187_0 {xs : List Int32} {n : Nat} {Q : hQ} {m : gx_M} {x1 : Int}
    (h1 : hxn xs n yp_m182 0 [(0, .inr (.inl 86))] [] m (fun r m' => hxn xs n yp_m187 4 [(0, .inr (.inl 86)), (1, .inl x1)] (hrs r ++ []) m' Q)) : hxn xs (n + 1) yp_m187 0 [(0, .inr (.inl 86)), (1, .inl x1)] [] m Q := by
  refine hx_blks (npc := 1) (L' := [(0, .inr (.inl 86)), (1, .inl x1)]) (st' := [.inr (.inl 86)]) (m' := m) ((0, .aload_n 0, 1, 0, 0, 0, 0), (0, 0, 0)) [] (by decide +kernel) rfl ?_
  exact hx_call (E := (1, .invokevirtual 165, 3, 182, 0, 6100, 0)) (M' := yp_m182) [.inr (.inl 86)] [] rfl (by decide +kernel) rfl ⟨rfl, rfl⟩ rfl rfl (hx_mono h1 (fun r m' h' => hx_pick [0, 1] h'))

/-- lands from 4 on -/
theorem hr187_4 {xs : List Int32} {n : Nat} {Q : hQ} {m : gx_M} {x1 s0 : Int}
    (h1 : (s0 = 11) → hxn xs n yp_m187 0 [(0, .inr (.inl 86)), (1, .inl x1)] [] (gx_u (gx_u m 91 (Int.tmod (m 92 (gx_w ((m 86 11) - 1)).toNat) 1048576).toNat (gx_w ((gx_w (1048576 * (gx_w (Int.tdiv (m 91 (Int.tmod (m 92 (gx_w ((m 86 11) - 1)).toNat) 1048576).toNat) 1048576)))) + (m 86 10)))) 86 11 (gx_w ((m 86 11) - 1))) Q)
    (h2 : (s0 ≠ 11) → (x1 = 0) → Q none m)
    (h3 : (s0 ≠ 11) → (x1 ≠ 0) → hxn xs n yp_m182 0 [(0, .inr (.inl 86))] [] m (fun r m' => hxn xs n yp_m187 17 [(0, .inr (.inl 86)), (1, .inl x1)] (hrs r ++ []) m' Q)) : hxn xs (n + 1) yp_m187 4 [(0, .inr (.inl 86)), (1, .inl x1)] [.inl s0] m Q := by
  refine hx_blks (npc := 6) (L' := [(0, .inr (.inl 86)), (1, .inl x1)]) (st' := [.inl 11, .inl s0]) (m' := m) ((4, .bipush 11, 2, 0, 0, 0, 0), (0, 0, 0)) [] (by decide +kernel) rfl ?_
  refine hx_cmp .eq 22 (by decide +kernel) (fun c1 => ?_) (fun c1 => ?_)
  · have c1 : s0 = 11 := c1
    refine hx_blk (npc := 0) (L' := [(0, .inr (.inl 86)), (1, .inl x1), (2, .inl (Int.tmod (m 92 (gx_w ((m 86 11) - 1)).toNat) 1048576))]) (st' := []) (m' := (gx_u (gx_u m 91 (Int.tmod (m 92 (gx_w ((m 86 11) - 1)).toNat) 1048576).toNat (gx_w ((gx_w (1048576 * (gx_w (Int.tdiv (m 91 (Int.tmod (m 92 (gx_w ((m 86 11) - 1)).toNat) 1048576).toNat) 1048576)))) + (m 86 10)))) 86 11 (gx_w ((m 86 11) - 1)))) [((22, .aload_n 0, 1, 0, 0, 0, 0), (0, 0, 0)), ((23, .getfield 26, 3, 10, 15, 5128, 0), (1, 86, 92)), ((26, .aload_n 0, 1, 0, 0, 0, 0), (0, 0, 0)), ((27, .getfield 162, 3, 10, 11, 5124, 0), (0, 86, 0)), ((30, .iconst 1, 1, 0, 0, 0, 0), (0, 0, 0)), ((31, .isub, 1, 0, 0, 0, 0), (0, 0, 0)), ((32, .iaload, 1, 0, 0, 0, 0), (0, 92, 0)), ((33, .ldc 158, 2, 0, 0, 6077, 1048576), (0, 0, 0)), ((35, .irem, 1, 0, 0, 0, 0), (0, 0, 0)), ((36, .istore_n 2, 1, 0, 0, 0, 0), (0, 0, 0)), ((37, .aload_n 0, 1, 0, 0, 0, 0), (0, 0, 0)), ((38, .getfield 23, 3, 10, 14, 5127, 0), (1, 86, 91)), ((41, .iload_n 2, 1, 0, 0, 0, 0), (0, 0, 0)), ((42, .ldc 158, 2, 0, 0, 6077, 1048576), (0, 0, 0)), ((44, .aload_n 0, 1, 0, 0, 0, 0), (0, 0, 0)), ((45, .getfield 23, 3, 10, 14, 5127, 0), (1, 86, 91)), ((48, .iload_n 2, 1, 0, 0, 0, 0), (0, 0, 0)), ((49, .iaload, 1, 0, 0, 0, 0), (0, 91, 0)), ((50, .ldc 158, 2, 0, 0, 6077, 1048576), (0, 0, 0)), ((52, .idiv, 1, 0, 0, 0, 0), (0, 0, 0)), ((53, .imul, 1, 0, 0, 0, 0), (0, 0, 0)), ((54, .aload_n 0, 1, 0, 0, 0, 0), (0, 0, 0)), ((55, .getfield 155, 3, 10, 10, 5123, 0), (0, 86, 0)), ((58, .iadd, 1, 0, 0, 0, 0), (0, 0, 0)), ((59, .iastore, 1, 0, 0, 0, 0), (0, 91, 0)), ((60, .aload_n 0, 1, 0, 0, 0, 0), (0, 0, 0)), ((61, .aload_n 0, 1, 0, 0, 0, 0), (0, 0, 0)), ((62, .getfield 162, 3, 10, 11, 5124, 0), (0, 86, 0)), ((65, .iconst 1, 1, 0, 0, 0, 0), (0, 0, 0)), ((66, .isub, 1, 0, 0, 0, 0), (0, 0, 0)), ((67, .putfield 162, 3, 10, 11, 5124, 0), (0, 86, 0)), ((70, .goto (-70), 3, 0, 0, 0, 0), (0, 0, 0))] (by decide +kernel) rfl ?_
    exact hx_pick [0, 1] (h1 c1)
  · have c1 : s0 ≠ 11 := c1
    refine hx_blk (npc := 10) (L' := [(0, .inr (.inl 86)), (1, .inl x1)]) (st' := [.inl x1]) (m' := m) [((9, .iload_n 1, 1, 0, 0, 0, 0), (0, 0, 0))] (by decide +kernel) rfl ?_
    refine hx_if .eq 73 (by decide +kernel) (fun c2 => ?_) (fun c2 => ?_)
    · have c2 : x1 = 0 := c2
      exact hx_ret0 (by decide +kernel) (h2 c1 c2)
    · have c2 : x1 ≠ 0 := c2
      refine hx_blk (npc := 14) (L' := [(0, .inr (.inl 86)), (1, .inl x1)]) (st' := [.inr (.inl 86)]) (m' := m) [((13, .aload_n 0, 1, 0, 0, 0, 0), (0, 0, 0))] (by decide +kernel) rfl ?_
      exact hx_call (E := (14, .invokevirtual 165, 3, 182, 0, 6100, 0)) (M' := yp_m182) [.inr (.inl 86)] [] rfl (by decide +kernel) rfl ⟨rfl, rfl⟩ rfl rfl (hx_mono (h3 c1 c2) (fun r m' h' => hx_pick [0, 1] h'))

/-- lands from 17 on -/
theorem hr187_17 {xs : List Int32} {n : Nat} {Q : hQ} {m : gx_M} {x1 s0 : Int}
    (h1 : (s0 ≠ 12) → Q none m)
    (h2 : (s0 = 12) → hxn xs n yp_m187 0 [(0, .inr (.inl 86)), (1, .inl x1)] [] (gx_u (gx_u m 91 (Int.tmod (m 92 (gx_w ((m 86 11) - 1)).toNat) 1048576).toNat (gx_w ((gx_w (1048576 * (gx_w (Int.tdiv (m 91 (Int.tmod (m 92 (gx_w ((m 86 11) - 1)).toNat) 1048576).toNat) 1048576)))) + (m 86 10)))) 86 11 (gx_w ((m 86 11) - 1))) Q) : hxn xs (n + 1) yp_m187 17 [(0, .inr (.inl 86)), (1, .inl x1)] [.inl s0] m Q := by
  refine hx_blks (npc := 19) (L' := [(0, .inr (.inl 86)), (1, .inl x1)]) (st' := [.inl 12, .inl s0]) (m' := m) ((17, .bipush 12, 2, 0, 0, 0, 0), (0, 0, 0)) [] (by decide +kernel) rfl ?_
  refine hx_cmp .ne 73 (by decide +kernel) (fun c1 => ?_) (fun c1 => ?_)
  · have c1 : s0 ≠ 12 := c1
    exact hx_ret0 (by decide +kernel) (h1 c1)
  · have c1 : s0 = 12 := by have h : ¬ (s0 ≠ 12) := c1; omega
    refine hx_blk (npc := 0) (L' := [(0, .inr (.inl 86)), (1, .inl x1), (2, .inl (Int.tmod (m 92 (gx_w ((m 86 11) - 1)).toNat) 1048576))]) (st' := []) (m' := (gx_u (gx_u m 91 (Int.tmod (m 92 (gx_w ((m 86 11) - 1)).toNat) 1048576).toNat (gx_w ((gx_w (1048576 * (gx_w (Int.tdiv (m 91 (Int.tmod (m 92 (gx_w ((m 86 11) - 1)).toNat) 1048576).toNat) 1048576)))) + (m 86 10)))) 86 11 (gx_w ((m 86 11) - 1)))) [((22, .aload_n 0, 1, 0, 0, 0, 0), (0, 0, 0)), ((23, .getfield 26, 3, 10, 15, 5128, 0), (1, 86, 92)), ((26, .aload_n 0, 1, 0, 0, 0, 0), (0, 0, 0)), ((27, .getfield 162, 3, 10, 11, 5124, 0), (0, 86, 0)), ((30, .iconst 1, 1, 0, 0, 0, 0), (0, 0, 0)), ((31, .isub, 1, 0, 0, 0, 0), (0, 0, 0)), ((32, .iaload, 1, 0, 0, 0, 0), (0, 92, 0)), ((33, .ldc 158, 2, 0, 0, 6077, 1048576), (0, 0, 0)), ((35, .irem, 1, 0, 0, 0, 0), (0, 0, 0)), ((36, .istore_n 2, 1, 0, 0, 0, 0), (0, 0, 0)), ((37, .aload_n 0, 1, 0, 0, 0, 0), (0, 0, 0)), ((38, .getfield 23, 3, 10, 14, 5127, 0), (1, 86, 91)), ((41, .iload_n 2, 1, 0, 0, 0, 0), (0, 0, 0)), ((42, .ldc 158, 2, 0, 0, 6077, 1048576), (0, 0, 0)), ((44, .aload_n 0, 1, 0, 0, 0, 0), (0, 0, 0)), ((45, .getfield 23, 3, 10, 14, 5127, 0), (1, 86, 91)), ((48, .iload_n 2, 1, 0, 0, 0, 0), (0, 0, 0)), ((49, .iaload, 1, 0, 0, 0, 0), (0, 91, 0)), ((50, .ldc 158, 2, 0, 0, 6077, 1048576), (0, 0, 0)), ((52, .idiv, 1, 0, 0, 0, 0), (0, 0, 0)), ((53, .imul, 1, 0, 0, 0, 0), (0, 0, 0)), ((54, .aload_n 0, 1, 0, 0, 0, 0), (0, 0, 0)), ((55, .getfield 155, 3, 10, 10, 5123, 0), (0, 86, 0)), ((58, .iadd, 1, 0, 0, 0, 0), (0, 0, 0)), ((59, .iastore, 1, 0, 0, 0, 0), (0, 91, 0)), ((60, .aload_n 0, 1, 0, 0, 0, 0), (0, 0, 0)), ((61, .aload_n 0, 1, 0, 0, 0, 0), (0, 0, 0)), ((62, .getfield 162, 3, 10, 11, 5124, 0), (0, 86, 0)), ((65, .iconst 1, 1, 0, 0, 0, 0), (0, 0, 0)), ((66, .isub, 1, 0, 0, 0, 0), (0, 0, 0)), ((67, .putfield 162, 3, 10, 11, 5124, 0), (0, 86, 0)), ((70, .goto (-70), 3, 0, 0, 0, 0), (0, 0, 0))] (by decide +kernel) rfl ?_
    exact hx_pick [0, 1] (h2 c1)

/-- hasOpenSum from 0 on -/
theorem hr183_0 {xs : List Int32} {n : Nat} {Q : hQ} {m : gx_M} {x1 : Int}
    (h1 : hxn xs n yp_m183 2 [(0, .inr (.inl 86)), (2, .inl x1)] [] m Q) : hxn xs (n + 1) yp_m183 0 [(0, .inr (.inl 86)), (1, .inl x1)] [] m Q := by
  refine hx_blks (npc := 2) (L' := [(0, .inr (.inl 86)), (1, .inl x1), (2, .inl x1)]) (st' := []) (m' := m) ((0, .iload_n 1, 1, 0, 0, 0, 0), (0, 0, 0)) [((1, .istore_n 2, 1, 0, 0, 0, 0), (0, 0, 0))] (by decide +kernel) rfl ?_
  exact hx_pick [0, 2] h1

/-- hasOpenSum from 2 on -/
theorem hr183_2 {xs : List Int32} {n : Nat} {Q : hQ} {m : gx_M} {x2 : Int} (r_x2 : 0 ≤ x2 ∧ x2 ≤ 300)
    (h1 : ((m 86 11) ≤ x2) → Q (some (.inl 0)) m)
    (h2 : (x2 < (m 86 11)) → ((gx_w (Int.tdiv (m 92 (x2).toNat) 1048576)) ≠ 14) → hxn xs n yp_m183 2 [(0, .inr (.inl 86)), (2, .inl (x2 + 1))] [] m Q)
    (h3 : (x2 < (m 86 11)) → ((gx_w (Int.tdiv (m 92 (x2).toNat) 1048576)) = 14) → Q (some (.inl 1)) m) : hxn xs (n + 1) yp_m183 2 [(0, .inr (.inl 86)), (2, .inl x2)] [] m Q := by
  refine hx_blks (npc := 7) (L' := [(0, .inr (.inl 86)), (2, .inl x2)]) (st' := [.inl (m 86 11), .inl x2]) (m' := m) ((2, .iload_n 2, 1, 0, 0, 0, 0), (0, 0, 0)) [((3, .aload_n 0, 1, 0, 0, 0, 0), (0, 0, 0)), ((4, .getfield 162, 3, 10, 11, 5124, 0), (0, 86, 0))] (by decide +kernel) rfl ?_
  refine hx_cmp .ge 32 (by decide +kernel) (fun c1 => ?_) (fun c1 => ?_)
  · have c1 : (m 86 11) ≤ x2 := c1
    refine hx_blk (npc := 33) (L' := [(0, .inr (.inl 86)), (2, .inl x2)]) (st' := [.inl 0]) (m' := m) [((32, .iconst 0, 1, 0, 0, 0, 0), (0, 0, 0))] (by decide +kernel) rfl ?_
    exact hx_reti (by decide +kernel) (h1 c1)
  · have c1 : x2 < (m 86 11) := by have h : ¬ ((m 86 11) ≤ x2) := c1; omega
    refine hx_blk (npc := 21) (L' := [(0, .inr (.inl 86)), (2, .inl x2)]) (st' := [.inl 14, .inl (gx_w (Int.tdiv (m 92 (x2).toNat) 1048576))]) (m' := m) [((10, .aload_n 0, 1, 0, 0, 0, 0), (0, 0, 0)), ((11, .getfield 26, 3, 10, 15, 5128, 0), (1, 86, 92)), ((14, .iload_n 2, 1, 0, 0, 0, 0), (0, 0, 0)), ((15, .iaload, 1, 0, 0, 0, 0), (0, 92, 0)), ((16, .ldc 158, 2, 0, 0, 6077, 1048576), (0, 0, 0)), ((18, .idiv, 1, 0, 0, 0, 0), (0, 0, 0)), ((19, .bipush 14, 2, 0, 0, 0, 0), (0, 0, 0))] (by decide +kernel) rfl ?_
    refine hx_cmp .ne 26 (by decide +kernel) (fun c2 => ?_) (fun c2 => ?_)
    · have c2 : (gx_w (Int.tdiv (m 92 (x2).toNat) 1048576)) ≠ 14 := c2
      have e1 : gx_w (x2 + 1) = x2 + 1 := gx_w_id (by omega) (by omega)
      refine hx_blk (npc := 2) (L' := [(0, .inr (.inl 86)), (2, .inl (gx_w (x2 + 1)))]) (st' := []) (m' := m) [((26, .iinc 2 1, 3, 0, 0, 0, 0), (0, 0, 0)), ((29, .goto (-27), 3, 0, 0, 0, 0), (0, 0, 0))] (by decide +kernel) rfl ?_
      rw [e1]
      exact hx_pick [0, 2] (h2 c1 c2)
    · have c2 : (gx_w (Int.tdiv (m 92 (x2).toNat) 1048576)) = 14 := by have h : ¬ ((gx_w (Int.tdiv (m 92 (x2).toNat) 1048576)) ≠ 14) := c2; omega
      refine hx_blk (npc := 25) (L' := [(0, .inr (.inl 86)), (2, .inl x2)]) (st' := [.inl 1]) (m' := m) [((24, .iconst 1, 1, 0, 0, 0, 0), (0, 0, 0))] (by decide +kernel) rfl ?_
      exact hx_reti (by decide +kernel) (h3 c1 c2)

