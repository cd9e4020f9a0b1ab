section
/-! the text as the reference reads it: roads -/
def aHere (m : gx_M) : Int := if m 86 6 ≤ m 86 5 then -1 else gx_and (m 90 (m 86 5).toNat) 255
/-- here from 0 on -/
theorem hs170 {xs : List Int32} {n : Nat} {Q : hQ} {m : gx_M}
    (h : Q (some (.inl (aHere m))) m) : hxn xs n yp_m170 0 [(0, .inr (.inl 86))] [] m Q := by
  refine hx_dn ?_
  refine hx_blks (npc := 8) (L' := [(0, .inr (.inl 86))]) (st' := [.inl (m 86 6), .inl (m 86 5)]) (m' := m) ((0, .aload_n 0, 1, 0, 0, 0, 0), (0, 0, 0)) [((1, .getfield 132, 3, 10, 5, 5118, 0), (0, 86, 0)), ((4, .aload_n 0, 1, 0, 0, 0, 0), (0, 0, 0)), ((5, .getfield 135, 3, 10, 6, 5119, 0), (0, 86, 0))] (by decide +kernel) rfl ?_
  refine hx_cmp .ge 27 (by decide +kernel) (fun c1 => ?_) (fun c1 => ?_)
  · have c1 : (m 86 6) ≤ (m 86 5) := c1
    refine hx_blk (npc := 28) (L' := [(0, .inr (.inl 86))]) (st' := [.inl (-1)]) (m' := m) [((27, .iconst (-1), 1, 0, 0, 0, 0), (0, 0, 0))] (by decide +kernel) rfl ?_
    exact hx_reti (by decide +kernel) (by have e : aHere m = (-1) := (by unfold aHere; (repeat' split) <;> omega); rw [e] at h; exact h)
  · have c1 : (m 86 5) < (m 86 6) := by have h : ¬ ((m 86 6) ≤ (m 86 5)) := c1; omega
    have f1 := gx_and_bd (m 90 (m 86 5).toNat) 255 (by decide)
    refine hx_blk (npc := 28) (L' := [(0, .inr (.inl 86))]) (st' := [.inl (gx_and (m 90 (m 86 5).toNat) 255)]) (m' := m) [((11, .aload_n 0, 1, 0, 0, 0, 0), (0, 0, 0)), ((12, .getfield 19, 3, 10, 3, 5116, 0), (1, 86, 90)), ((15, .aload_n 0, 1, 0, 0, 0, 0), (0, 0, 0)), ((16, .getfield 132, 3, 10, 5, 5118, 0), (0, 86, 0)), ((19, .baload, 1, 0, 0, 0, 0), (0, 90, 0)), ((20, .sipush 255, 3, 0, 0, 0, 0), (0, 0, 0)), ((23, .iand, 1, 0, 0, 0, 0), (0, 0, 0)), ((24, .goto 4, 3, 0, 0, 0, 0), (0, 0, 0))] (by decide +kernel) rfl ?_
    exact hx_reti (by decide +kernel) (by have e : aHere m = (gx_and (m 90 (m 86 5).toNat) 255) := (by unfold aHere; (repeat' split) <;> omega); rw [e] at h; exact h)

/-- isDigit from 0 on -/
theorem hs176 {xs : List Int32} {n : Nat} {Q : hQ} {m : gx_M}
    (h1 : isDg (aHere m) → Q (some (.inl 1)) m) (h0 : ¬ (isDg (aHere m)) → Q (some (.inl 0)) m) : hxn xs n yp_m176 0 [(0, .inr (.inl 86))] [] m Q := by
  refine hx_dn ?_
  refine hx_blks (npc := 1) (L' := [(0, .inr (.inl 86))]) (st' := [.inr (.inl 86)]) (m' := m) ((0, .aload_n 0, 1, 0, 0, 0, 0), (0, 0, 0)) [] (by decide +kernel) rfl ?_
  refine hx_call (E := (1, .invokevirtual 138, 3, 170, 0, 6054, 0)) (M' := yp_m170) [.inr (.inl 86)] [] rfl (by decide +kernel) rfl ⟨rfl, rfl⟩ rfl rfl (hs170 ?_)
  show hxn xs n yp_m176 4 [(0, .inr (.inl 86))] [.inl (aHere m)] m Q
  refine hx_blk (npc := 6) (L' := [(0, .inr (.inl 86))]) (st' := [.inl 48, .inl (aHere m)]) (m' := m) [((4, .bipush 48, 2, 0, 0, 0, 0), (0, 0, 0))] (by decide +kernel) rfl ?_
  refine hx_cmp .lt 22 (by decide +kernel) (fun c1 => ?_) (fun c1 => ?_)
  · have c1 : (aHere m) < 48 := c1
    refine hx_blk (npc := 23) (L' := [(0, .inr (.inl 86))]) (st' := [.inl 0]) (m' := m) [((22, .iconst 0, 1, 0, 0, 0, 0), (0, 0, 0))] (by decide +kernel) rfl ?_
    exact hx_reti (by decide +kernel) (h0 (by unfold isDg; omega))
  · have c1 : 48 ≤ (aHere m) := by have h : ¬ ((aHere m) < 48) := c1; omega
    refine hx_blk (npc := 10) (L' := [(0, .inr (.inl 86))]) (st' := [.inr (.inl 86)]) (m' := m) [((9, .aload_n 0, 1, 0, 0, 0, 0), (0, 0, 0))] (by decide +kernel) rfl ?_
    refine hx_call (E := (10, .invokevirtual 138, 3, 170, 0, 6054, 0)) (M' := yp_m170) [.inr (.inl 86)] [] rfl (by decide +kernel) rfl ⟨rfl, rfl⟩ rfl rfl (hs170 ?_)
    show hxn xs n yp_m176 13 [(0, .inr (.inl 86))] [.inl (aHere m)] m Q
    refine hx_blk (npc := 15) (L' := [(0, .inr (.inl 86))]) (st' := [.inl 57, .inl (aHere m)]) (m' := m) [((13, .bipush 57, 2, 0, 0, 0, 0), (0, 0, 0))] (by decide +kernel) rfl ?_
    refine hx_cmp .gt 22 (by decide +kernel) (fun c2 => ?_) (fun c2 => ?_)
    · have c2 : 57 < (aHere m) := c2
      refine hx_blk (npc := 23) (L' := [(0, .inr (.inl 86))]) (st' := [.inl 0]) (m' := m) [((22, .iconst 0, 1, 0, 0, 0, 0), (0, 0, 0))] (by decide +kernel) rfl ?_
      exact hx_reti (by decide +kernel) (h0 (by unfold isDg; omega))
    · have c2 : (aHere m) ≤ 57 := by have h : ¬ (57 < (aHere m)) := c2; omega
      refine hx_blk (npc := 23) (L' := [(0, .inr (.inl 86))]) (st' := [.inl 1]) (m' := m) [((18, .iconst 1, 1, 0, 0, 0, 0), (0, 0, 0)), ((19, .goto 4, 3, 0, 0, 0, 0), (0, 0, 0))] (by decide +kernel) rfl ?_
      exact hx_reti (by decide +kernel) (h1 (by unfold isDg; omega))

/-- wrongAt from 0 on -/
theorem hs172 {xs : List Int32} {n : Nat} {Q : hQ} {m : gx_M} {x1 x2 : Int}
    (h1 : Q (some (.inl 0)) (gx_u m 86 7 (gx_w ((gx_w ((-1000) * x1)) - x2)))) : hxn xs (n + 1) yp_m172 0 [(0, .inr (.inl 86)), (1, .inl x1), (2, .inl x2)] [] m Q := by
  refine hx_blks (npc := 12) (L' := [(0, .inr (.inl 86)), (1, .inl x1), (2, .inl x2)]) (st' := [.inl 0]) (m' := (gx_u m 86 7 (gx_w ((gx_w ((-1000) * x1)) - x2)))) ((0, .aload_n 0, 1, 0, 0, 0, 0), (0, 0, 0)) [((1, .sipush (-1000), 3, 0, 0, 0, 0), (0, 0, 0)), ((4, .iload_n 1, 1, 0, 0, 0, 0), (0, 0, 0)), ((5, .imul, 1, 0, 0, 0, 0), (0, 0, 0)), ((6, .iload_n 2, 1, 0, 0, 0, 0), (0, 0, 0)), ((7, .isub, 1, 0, 0, 0, 0), (0, 0, 0)), ((8, .putfield 142, 3, 10, 7, 5120, 0), (0, 86, 0)), ((11, .iconst 0, 1, 0, 0, 0, 0), (0, 0, 0))] (by decide +kernel) rfl ?_
  exact hx_reti (by decide +kernel) h1

/-- opens from 0 on -/
theorem hr175_0 {xs : List Int32} {n : Nat} {Q : hQ} {m : gx_M} {x1 : Int}
    (h1 : ((m 86 9) ≠ 6) → Q (some (.inl 1)) (gx_u (gx_u (gx_u (gx_u m 86 9 (gx_w ((m 86 9) + 1))) 92 (m 86 11).toNat (gx_w (1048576 * x1))) 86 11 (gx_w ((m 86 11) + 1))) 86 5 (gx_w ((m 86 5) + 1))))
    (h2 : ((m 86 9) = 6) → hxn xs n yp_m172 0 [(0, .inr (.inl 86)), (1, .inl 5), (2, .inl (m 86 5))] [] m (fun r m' => hxn xs n yp_m175 18 [] (hrs r ++ []) m' Q)) : hxn xs (n + 1) yp_m175 0 [(0, .inr (.inl 86)), (1, .inl x1)] [] m Q := by
  refine hx_blks (npc := 6) (L' := [(0, .inr (.inl 86)), (1, .inl x1)]) (st' := [.inl 6, .inl (m 86 9)]) (m' := m) ((0, .aload_n 0, 1, 0, 0, 0, 0), (0, 0, 0)) [((1, .getfield 159, 3, 10, 9, 5122, 0), (0, 86, 0)), ((4, .bipush 6, 2, 0, 0, 0, 0), (0, 0, 0))] (by decide +kernel) rfl ?_
  refine hx_cmp .ne 19 (by decide +kernel) (fun c1 => ?_) (fun c1 => ?_)
  · have c1 : (m 86 9) ≠ 6 := c1
    refine hx_blk (npc := 63) (L' := [(0, .inr (.inl 86)), (1, .inl x1)]) (st' := [.inl 1]) (m' := (gx_u (gx_u (gx_u (gx_u m 86 9 (gx_w ((m 86 9) + 1))) 92 (m 86 11).toNat (gx_w (1048576 * x1))) 86 11 (gx_w ((m 86 11) + 1))) 86 5 (gx_w ((m 86 5) + 1)))) [((19, .aload_n 0, 1, 0, 0, 0, 0), (0, 0, 0)), ((20, .aload_n 0, 1, 0, 0, 0, 0), (0, 0, 0)), ((21, .getfield 159, 3, 10, 9, 5122, 0), (0, 86, 0)), ((24, .iconst 1, 1, 0, 0, 0, 0), (0, 0, 0)), ((25, .iadd, 1, 0, 0, 0, 0), (0, 0, 0)), ((26, .putfield 159, 3, 10, 9, 5122, 0), (0, 86, 0)), ((29, .aload_n 0, 1, 0, 0, 0, 0), (0, 0, 0)), ((30, .getfield 26, 3, 10, 15, 5128, 0), (1, 86, 92)), ((33, .aload_n 0, 1, 0, 0, 0, 0), (0, 0, 0)), ((34, .getfield 162, 3, 10, 11, 5124, 0), (0, 86, 0)), ((37, .ldc 158, 2, 0, 0, 6077, 1048576), (0, 0, 0)), ((39, .iload_n 1, 1, 0, 0, 0, 0), (0, 0, 0)), ((40, .imul, 1, 0, 0, 0, 0), (0, 0, 0)), ((41, .iastore, 1, 0, 0, 0, 0), (0, 92, 0)), ((42, .aload_n 0, 1, 0, 0, 0, 0), (0, 0, 0)), ((43, .aload_n 0, 1, 0, 0, 0, 0), (0, 0, 0)), ((44, .getfield 162, 3, 10, 11, 5124, 0), (0, 86, 0)), ((47, .iconst 1, 1, 0, 0, 0, 0), (0, 0, 0)), ((48, .iadd, 1, 0, 0, 0, 0), (0, 0, 0)), ((49, .putfield 162, 3, 10, 11, 5124, 0), (0, 86, 0)), ((52, .aload_n 0, 1, 0, 0, 0, 0), (0, 0, 0)), ((53, .aload_n 0, 1, 0, 0, 0, 0), (0, 0, 0)), ((54, .getfield 132, 3, 10, 5, 5118, 0), (0, 86, 0)), ((57, .iconst 1, 1, 0, 0, 0, 0), (0, 0, 0)), ((58, .iadd, 1, 0, 0, 0, 0), (0, 0, 0)), ((59, .putfield 132, 3, 10, 5, 5118, 0), (0, 86, 0)), ((62, .iconst 1, 1, 0, 0, 0, 0), (0, 0, 0))] (by decide +kernel) rfl ?_
    exact hx_reti (by decide +kernel) (h1 c1)
  · have c1 : (m 86 9) = 6 := by have h : ¬ ((m 86 9) ≠ 6) := c1; omega
    refine hx_blk (npc := 15) (L' := [(0, .inr (.inl 86)), (1, .inl x1)]) (st' := [.inl (m 86 5), .inl 5, .inr (.inl 86)]) (m' := m) [((9, .aload_n 0, 1, 0, 0, 0, 0), (0, 0, 0)), ((10, .iconst 5, 1, 0, 0, 0, 0), (0, 0, 0)), ((11, .aload_n 0, 1, 0, 0, 0, 0), (0, 0, 0)), ((12, .getfield 132, 3, 10, 5, 5118, 0), (0, 86, 0))] (by decide +kernel) rfl ?_
    exact hx_call (E := (15, .invokevirtual 145, 3, 172, 0, 6061, 0)) (M' := yp_m172) [.inr (.inl 86), .inl 5, .inl (m 86 5)] [] rfl (by decide +kernel) rfl ⟨rfl, rfl⟩ rfl rfl (hx_mono (h2 c1) (fun r m' h' => hx_pick [] h'))

/-- opens from 18 on -/
theorem hr175_18 {xs : List Int32} {n : Nat} {Q : hQ} {m : gx_M} {s0 : Int}
    (h1 : Q (some (.inl s0)) m) : hxn xs (n + 1) yp_m175 18 [] [.inl s0] m Q := by
  exact hx_reti (by decide +kernel) h1

/-- notes from 0 on -/
theorem hr178_0 {xs : List Int32} {n : Nat} {Q : hQ} {m : gx_M} {x1 x2 : Int}
    (h1 : Q none (gx_u (gx_u m 91 (m 86 10).toNat (gx_w ((gx_w (1048576 * x1)) + x2))) 86 10 (gx_w ((m 86 10) + 1)))) : hxn xs (n + 1) yp_m178 0 [(0, .inr (.inl 86)), (1, .inl x1), (2, .inl x2)] [] m Q := by
  refine hx_blks (npc := 25) (L' := [(0, .inr (.inl 86)), (1, .inl x1), (2, .inl x2)]) (st' := []) (m' := (gx_u (gx_u m 91 (m 86 10).toNat (gx_w ((gx_w (1048576 * x1)) + x2))) 86 10 (gx_w ((m 86 10) + 1)))) ((0, .aload_n 0, 1, 0, 0, 0, 0), (0, 0, 0)) [((1, .getfield 23, 3, 10, 14, 5127, 0), (1, 86, 91)), ((4, .aload_n 0, 1, 0, 0, 0, 0), (0, 0, 0)), ((5, .getfield 155, 3, 10, 10, 5123, 0), (0, 86, 0)), ((8, .ldc 158, 2, 0, 0, 6077, 1048576), (0, 0, 0)), ((10, .iload_n 1, 1, 0, 0, 0, 0), (0, 0, 0)), ((11, .imul, 1, 0, 0, 0, 0), (0, 0, 0)), ((12, .iload_n 2, 1, 0, 0, 0, 0), (0, 0, 0)), ((13, .iadd, 1, 0, 0, 0, 0), (0, 0, 0)), ((14, .iastore, 1, 0, 0, 0, 0), (0, 91, 0)), ((15, .aload_n 0, 1, 0, 0, 0, 0), (0, 0, 0)), ((16, .aload_n 0, 1, 0, 0, 0, 0), (0, 0, 0)), ((17, .getfield 155, 3, 10, 10, 5123, 0), (0, 86, 0)), ((20, .iconst 1, 1, 0, 0, 0, 0), (0, 0, 0)), ((21, .iadd, 1, 0, 0, 0, 0), (0, 0, 0)), ((22, .putfield 155, 3, 10, 10, 5123, 0), (0, 86, 0))] (by decide +kernel) rfl ?_
  exact hx_ret0 (by decide +kernel) h1

/-- factOf from 0 on -/
theorem hr179_0 {xs : List Int32} {n : Nat} {Q : hQ} {m : gx_M} {x0 : Int}
    (h1 : (x0 = 97) → Q (some (.inl 10)) m)
    (h2 : (x0 ≠ 97) → (x0 = 98) → Q (some (.inl (-1))) m)
    (h3 : (x0 ≠ 97) → (x0 ≠ 98) → (x0 = 99) → Q (some (.inl 11)) m)
    (h4 : (x0 ≠ 97) → (x0 ≠ 98) → (x0 ≠ 99) → (x0 = 100) → Q (some (.inl 2)) m)
    (h5 : (x0 ≠ 97) → (x0 ≠ 98) → (x0 ≠ 99) → (x0 ≠ 100) → (x0 = 101) → Q (some (.inl 12)) m)
    (h6 : (x0 ≠ 97) → (x0 ≠ 98) → (x0 ≠ 99) → (x0 ≠ 100) → (x0 ≠ 101) → (x0 = 102) → Q (some (.inl (-1))) m)
    (h7 : (x0 ≠ 97) → (x0 ≠ 98) → (x0 ≠ 99) → (x0 ≠ 100) → (x0 ≠ 101) → (x0 ≠ 102) → (x0 = 103) → Q (some (.inl (-1))) m)
    (h8 : (x0 ≠ 97) → (x0 ≠ 98) → (x0 ≠ 99) → (x0 ≠ 100) → (x0 ≠ 101) → (x0 ≠ 102) → (x0 ≠ 103) → (x0 = 104) → Q (some (.inl 8)) m)
    (h9 : (x0 ≠ 97) → (x0 ≠ 98) → (x0 ≠ 99) → (x0 ≠ 100) → (x0 ≠ 101) → (x0 ≠ 102) → (x0 ≠ 103) → (x0 ≠ 104) → (x0 = 105) → Q (some (.inl (-1))) m)
    (h10 : (x0 ≠ 97) → (x0 ≠ 98) → (x0 ≠ 99) → (x0 ≠ 100) → (x0 ≠ 101) → (x0 ≠ 102) → (x0 ≠ 103) → (x0 ≠ 104) → (x0 ≠ 105) → (x0 = 106) → Q (some (.inl (-1))) m)
    (h11 : (x0 ≠ 97) → (x0 ≠ 98) → (x0 ≠ 99) → (x0 ≠ 100) → (x0 ≠ 101) → (x0 ≠ 102) → (x0 ≠ 103) → (x0 ≠ 104) → (x0 ≠ 105) → (x0 ≠ 106) → (x0 = 107) → Q (some (.inl 7)) m)
    (h12 : (x0 ≠ 97) → (x0 ≠ 98) → (x0 ≠ 99) → (x0 ≠ 100) → (x0 ≠ 101) → (x0 ≠ 102) → (x0 ≠ 103) → (x0 ≠ 104) → (x0 ≠ 105) → (x0 ≠ 106) → (x0 ≠ 107) → (x0 = 108) → Q (some (.inl 3)) m)
    (h13 : (x0 ≠ 97) → (x0 ≠ 98) → (x0 ≠ 99) → (x0 ≠ 100) → (x0 ≠ 101) → (x0 ≠ 102) → (x0 ≠ 103) → (x0 ≠ 104) → (x0 ≠ 105) → (x0 ≠ 106) → (x0 ≠ 107) → (x0 ≠ 108) → (x0 = 109) → Q (some (.inl 6)) m)
    (h14 : (x0 ≠ 97) → (x0 ≠ 98) → (x0 ≠ 99) → (x0 ≠ 100) → (x0 ≠ 101) → (x0 ≠ 102) → (x0 ≠ 103) → (x0 ≠ 104) → (x0 ≠ 105) → (x0 ≠ 106) → (x0 ≠ 107) → (x0 ≠ 108) → (x0 ≠ 109) → (x0 = 110) → Q (some (.inl (-1))) m)
    (h15 : (x0 ≠ 97) → (x0 ≠ 98) → (x0 ≠ 99) → (x0 ≠ 100) → (x0 ≠ 101) → (x0 ≠ 102) → (x0 ≠ 103) → (x0 ≠ 104) → (x0 ≠ 105) → (x0 ≠ 106) → (x0 ≠ 107) → (x0 ≠ 108) → (x0 ≠ 109) → (x0 ≠ 110) → (x0 = 111) → Q (some (.inl 4)) m)
    (h16 : (x0 ≠ 97) → (x0 ≠ 98) → (x0 ≠ 99) → (x0 ≠ 100) → (x0 ≠ 101) → (x0 ≠ 102) → (x0 ≠ 103) → (x0 ≠ 104) → (x0 ≠ 105) → (x0 ≠ 106) → (x0 ≠ 107) → (x0 ≠ 108) → (x0 ≠ 109) → (x0 ≠ 110) → (x0 ≠ 111) → (x0 = 112) → Q (some (.inl 9)) m)
    (h17 : (x0 ≠ 97) → (x0 ≠ 98) → (x0 ≠ 99) → (x0 ≠ 100) → (x0 ≠ 101) → (x0 ≠ 102) → (x0 ≠ 103) → (x0 ≠ 104) → (x0 ≠ 105) → (x0 ≠ 106) → (x0 ≠ 107) → (x0 ≠ 108) → (x0 ≠ 109) → (x0 ≠ 110) → (x0 ≠ 111) → (x0 ≠ 112) → (x0 = 113) → Q (some (.inl (-1))) m)
    (h18 : (x0 ≠ 97) → (x0 ≠ 98) → (x0 ≠ 99) → (x0 ≠ 100) → (x0 ≠ 101) → (x0 ≠ 102) → (x0 ≠ 103) → (x0 ≠ 104) → (x0 ≠ 105) → (x0 ≠ 106) → (x0 ≠ 107) → (x0 ≠ 108) → (x0 ≠ 109) → (x0 ≠ 110) → (x0 ≠ 111) → (x0 ≠ 112) → (x0 ≠ 113) → (x0 = 114) → Q (some (.inl (-1))) m)
    (h19 : (x0 ≠ 97) → (x0 ≠ 98) → (x0 ≠ 99) → (x0 ≠ 100) → (x0 ≠ 101) → (x0 ≠ 102) → (x0 ≠ 103) → (x0 ≠ 104) → (x0 ≠ 105) → (x0 ≠ 106) → (x0 ≠ 107) → (x0 ≠ 108) → (x0 ≠ 109) → (x0 ≠ 110) → (x0 ≠ 111) → (x0 ≠ 112) → (x0 ≠ 113) → (x0 ≠ 114) → (x0 = 115) → Q (some (.inl 5)) m)
    (h20 : (x0 ≠ 97) → (x0 ≠ 98) → (x0 ≠ 99) → (x0 ≠ 100) → (x0 ≠ 101) → (x0 ≠ 102) → (x0 ≠ 103) → (x0 ≠ 104) → (x0 ≠ 105) → (x0 ≠ 106) → (x0 ≠ 107) → (x0 ≠ 108) → (x0 ≠ 109) → (x0 ≠ 110) → (x0 ≠ 111) → (x0 ≠ 112) → (x0 ≠ 113) → (x0 ≠ 114) → (x0 ≠ 115) → (x0 = 116) → Q (some (.inl 0)) m)
    (h21 : (x0 ≠ 97) → (x0 ≠ 98) → (x0 ≠ 99) → (x0 ≠ 100) → (x0 ≠ 101) → (x0 ≠ 102) → (x0 ≠ 103) → (x0 ≠ 104) → (x0 ≠ 105) → (x0 ≠ 106) → (x0 ≠ 107) → (x0 ≠ 108) → (x0 ≠ 109) → (x0 ≠ 110) → (x0 ≠ 111) → (x0 ≠ 112) → (x0 ≠ 113) → (x0 ≠ 114) → (x0 ≠ 115) → (x0 ≠ 116) → (x0 = 117) → Q (some (.inl (-1))) m)
    (h22 : (x0 ≠ 97) → (x0 ≠ 98) → (x0 ≠ 99) → (x0 ≠ 100) → (x0 ≠ 101) → (x0 ≠ 102) → (x0 ≠ 103) → (x0 ≠ 104) → (x0 ≠ 105) → (x0 ≠ 106) → (x0 ≠ 107) → (x0 ≠ 108) → (x0 ≠ 109) → (x0 ≠ 110) → (x0 ≠ 111) → (x0 ≠ 112) → (x0 ≠ 113) → (x0 ≠ 114) → (x0 ≠ 115) → (x0 ≠ 116) → (x0 ≠ 117) → (x0 = 118) → Q (some (.inl (-1))) m)
    (h23 : (x0 ≠ 97) → (x0 ≠ 98) → (x0 ≠ 99) → (x0 ≠ 100) → (x0 ≠ 101) → (x0 ≠ 102) → (x0 ≠ 103) → (x0 ≠ 104) → (x0 ≠ 105) → (x0 ≠ 106) → (x0 ≠ 107) → (x0 ≠ 108) → (x0 ≠ 109) → (x0 ≠ 110) → (x0 ≠ 111) → (x0 ≠ 112) → (x0 ≠ 113) → (x0 ≠ 114) → (x0 ≠ 115) → (x0 ≠ 116) → (x0 ≠ 117) → (x0 ≠ 118) → (x0 = 119) → Q (some (.inl (-1))) m)
    (h24 : (x0 ≠ 97) → (x0 ≠ 98) → (x0 ≠ 99) → (x0 ≠ 100) → (x0 ≠ 101) → (x0 ≠ 102) → (x0 ≠ 103) → (x0 ≠ 104) → (x0 ≠ 105) → (x0 ≠ 106) → (x0 ≠ 107) → (x0 ≠ 108) → (x0 ≠ 109) → (x0 ≠ 110) → (x0 ≠ 111) → (x0 ≠ 112) → (x0 ≠ 113) → (x0 ≠ 114) → (x0 ≠ 115) → (x0 ≠ 116) → (x0 ≠ 117) → (x0 ≠ 118) → (x0 ≠ 119) → (x0 = 120) → Q (some (.inl (-1))) m)
    (h25 : (x0 ≠ 97) → (x0 ≠ 98) → (x0 ≠ 99) → (x0 ≠ 100) → (x0 ≠ 101) → (x0 ≠ 102) → (x0 ≠ 103) → (x0 ≠ 104) → (x0 ≠ 105) → (x0 ≠ 106) → (x0 ≠ 107) → (x0 ≠ 108) → (x0 ≠ 109) → (x0 ≠ 110) → (x0 ≠ 111) → (x0 ≠ 112) → (x0 ≠ 113) → (x0 ≠ 114) → (x0 ≠ 115) → (x0 ≠ 116) → (x0 ≠ 117) → (x0 ≠ 118) → (x0 ≠ 119) → (x0 ≠ 120) → (x0 = 121) → Q (some (.inl 1)) m)
    (h26 : (x0 ≠ 97) → (x0 ≠ 98) → (x0 ≠ 99) → (x0 ≠ 100) → (x0 ≠ 101) → (x0 ≠ 102) → (x0 ≠ 103) → (x0 ≠ 104) → (x0 ≠ 105) → (x0 ≠ 106) → (x0 ≠ 107) → (x0 ≠ 108) → (x0 ≠ 109) → (x0 ≠ 110) → (x0 ≠ 111) → (x0 ≠ 112) → (x0 ≠ 113) → (x0 ≠ 114) → (x0 ≠ 115) → (x0 ≠ 116) → (x0 ≠ 117) → (x0 ≠ 118) → (x0 ≠ 119) → (x0 ≠ 120) → (x0 ≠ 121) → (x0 = 122) → Q (some (.inl 13)) m)
    (h27 : (x0 ≠ 97) → (x0 ≠ 98) → (x0 ≠ 99) → (x0 ≠ 100) → (x0 ≠ 101) → (x0 ≠ 102) → (x0 ≠ 103) → (x0 ≠ 104) → (x0 ≠ 105) → (x0 ≠ 106) → (x0 ≠ 107) → (x0 ≠ 108) → (x0 ≠ 109) → (x0 ≠ 110) → (x0 ≠ 111) → (x0 ≠ 112) → (x0 ≠ 113) → (x0 ≠ 114) → (x0 ≠ 115) → (x0 ≠ 116) → (x0 ≠ 117) → (x0 ≠ 118) → (x0 ≠ 119) → (x0 ≠ 120) → (x0 ≠ 121) → (x0 ≠ 122) → Q (some (.inl (-1))) m) : hxn xs (n + 1) yp_m179 0 [(0, .inl x0)] [] m Q := by
  refine hx_blks (npc := 1) (L' := [(0, .inl x0)]) (st' := [.inl x0]) (m' := m) ((0, .iload_n 0, 1, 0, 0, 0, 0), (0, 0, 0)) [] (by decide +kernel) rfl ?_
  refine hx_tsw 156 [(97, 144), (98, 156), (99, 147), (100, 124), (101, 150), (102, 156), (103, 156), (104, 138), (105, 156), (106, 156), (107, 135), (108, 126), (109, 132), (110, 156), (111, 128), (112, 141), (113, 156), (114, 156), (115, 130), (116, 120), (117, 156), (118, 156), (119, 156), (120, 156), (121, 122), (122, 153)] (by decide +kernel) ?_
  refine hsw_c (fun c1 => ?_) (fun c1 => ?_)
  · have c1 : x0 = 97 := c1
    refine hx_blk (npc := 146) (L' := [(0, .inl x0)]) (st' := [.inl 10]) (m' := m) [((144, .bipush 10, 2, 0, 0, 0, 0), (0, 0, 0))] (by decide +kernel) rfl ?_
    exact hx_reti (by decide +kernel) (h1 c1)
  refine hsw_c (fun c2 => ?_) (fun c2 => ?_)
  · have c2 : x0 = 98 := c2
    refine hx_blk (npc := 157) (L' := [(0, .inl x0)]) (st' := [.inl (-1)]) (m' := m) [((156, .iconst (-1), 1, 0, 0, 0, 0), (0, 0, 0))] (by decide +kernel) rfl ?_
    exact hx_reti (by decide +kernel) (h2 c1 c2)
  refine hsw_c (fun c3 => ?_) (fun c3 => ?_)
  · have c3 : x0 = 99 := c3
    refine hx_blk (npc := 149) (L' := [(0, .inl x0)]) (st' := [.inl 11]) (m' := m) [((147, .bipush 11, 2, 0, 0, 0, 0), (0, 0, 0))] (by decide +kernel) rfl ?_
    exact hx_reti (by decide +kernel) (h3 c1 c2 c3)
  refine hsw_c (fun c4 => ?_) (fun c4 => ?_)
  · have c4 : x0 = 100 := c4
    refine hx_blk (npc := 125) (L' := [(0, .inl x0)]) (st' := [.inl 2]) (m' := m) [((124, .iconst 2, 1, 0, 0, 0, 0), (0, 0, 0))] (by decide +kernel) rfl ?_
    exact hx_reti (by decide +kernel) (h4 c1 c2 c3 c4)
  refine hsw_c (fun c5 => ?_) (fun c5 => ?_)
  · have c5 : x0 = 101 := c5
    refine hx_blk (npc := 152) (L' := [(0, .inl x0)]) (st' := [.inl 12]) (m' := m) [((150, .bipush 12, 2, 0, 0, 0, 0), (0, 0, 0))] (by decide +kernel) rfl ?_
    exact hx_reti (by decide +kernel) (h5 c1 c2 c3 c4 c5)
  refine hsw_c (fun c6 => ?_) (fun c6 => ?_)
  · have c6 : x0 = 102 := c6
    refine hx_blk (npc := 157) (L' := [(0, .inl x0)]) (st' := [.inl (-1)]) (m' := m) [((156, .iconst (-1), 1, 0, 0, 0, 0), (0, 0, 0))] (by decide +kernel) rfl ?_
    exact hx_reti (by decide +kernel) (h6 c1 c2 c3 c4 c5 c6)
  refine hsw_c (fun c7 => ?_) (fun c7 => ?_)
  · have c7 : x0 = 103 := c7
    refine hx_blk (npc := 157) (L' := [(0, .inl x0)]) (st' := [.inl (-1)]) (m' := m) [((156, .iconst (-1), 1, 0, 0, 0, 0), (0, 0, 0))] (by decide +kernel) rfl ?_
    exact hx_reti (by decide +kernel) (h7 c1 c2 c3 c4 c5 c6 c7)
  refine hsw_c (fun c8 => ?_) (fun c8 => ?_)
  · have c8 : x0 = 104 := c8
    refine hx_blk (npc := 140) (L' := [(0, .inl x0)]) (st' := [.inl 8]) (m' := m) [((138, .bipush 8, 2, 0, 0, 0, 0), (0, 0, 0))] (by decide +kernel) rfl ?_
    exact hx_reti (by decide +kernel) (h8 c1 c2 c3 c4 c5 c6 c7 c8)
  refine hsw_c (fun c9 => ?_) (fun c9 => ?_)
  · have c9 : x0 = 105 := c9
    refine hx_blk (npc := 157) (L' := [(0, .inl x0)]) (st' := [.inl (-1)]) (m' := m) [((156, .iconst (-1), 1, 0, 0, 0, 0), (0, 0, 0))] (by decide +kernel) rfl ?_
    exact hx_reti (by decide +kernel) (h9 c1 c2 c3 c4 c5 c6 c7 c8 c9)
  refine hsw_c (fun c10 => ?_) (fun c10 => ?_)
  · have c10 : x0 = 106 := c10
    refine hx_blk (npc := 157) (L' := [(0, .inl x0)]) (st' := [.inl (-1)]) (m' := m) [((156, .iconst (-1), 1, 0, 0, 0, 0), (0, 0, 0))] (by decide +kernel) rfl ?_
    exact hx_reti (by decide +kernel) (h10 c1 c2 c3 c4 c5 c6 c7 c8 c9 c10)
  refine hsw_c (fun c11 => ?_) (fun c11 => ?_)
  · have c11 : x0 = 107 := c11
    refine hx_blk (npc := 137) (L' := [(0, .inl x0)]) (st' := [.inl 7]) (m' := m) [((135, .bipush 7, 2, 0, 0, 0, 0), (0, 0, 0))] (by decide +kernel) rfl ?_
    exact hx_reti (by decide +kernel) (h11 c1 c2 c3 c4 c5 c6 c7 c8 c9 c10 c11)
  refine hsw_c (fun c12 => ?_) (fun c12 => ?_)
  · have c12 : x0 = 108 := c12
    refine hx_blk (npc := 127) (L' := [(0, .inl x0)]) (st' := [.inl 3]) (m' := m) [((126, .iconst 3, 1, 0, 0, 0, 0), (0, 0, 0))] (by decide +kernel) rfl ?_
    exact hx_reti (by decide +kernel) (h12 c1 c2 c3 c4 c5 c6 c7 c8 c9 c10 c11 c12)
  refine hsw_c (fun c13 => ?_) (fun c13 => ?_)
  · have c13 : x0 = 109 := c13
    refine hx_blk (npc := 134) (L' := [(0, .inl x0)]) (st' := [.inl 6]) (m' := m) [((132, .bipush 6, 2, 0, 0, 0, 0), (0, 0, 0))] (by decide +kernel) rfl ?_
    exact hx_reti (by decide +kernel) (h13 c1 c2 c3 c4 c5 c6 c7 c8 c9 c10 c11 c12 c13)
  refine hsw_c (fun c14 => ?_) (fun c14 => ?_)
  · have c14 : x0 = 110 := c14
    refine hx_blk (npc := 157) (L' := [(0, .inl x0)]) (st' := [.inl (-1)]) (m' := m) [((156, .iconst (-1), 1, 0, 0, 0, 0), (0, 0, 0))] (by decide +kernel) rfl ?_
    exact hx_reti (by decide +kernel) (h14 c1 c2 c3 c4 c5 c6 c7 c8 c9 c10 c11 c12 c13 c14)
  refine hsw_c (fun c15 => ?_) (fun c15 => ?_)
  · have c15 : x0 = 111 := c15
    refine hx_blk (npc := 129) (L' := [(0, .inl x0)]) (st' := [.inl 4]) (m' := m) [((128, .iconst 4, 1, 0, 0, 0, 0), (0, 0, 0))] (by decide +kernel) rfl ?_
    exact hx_reti (by decide +kernel) (h15 c1 c2 c3 c4 c5 c6 c7 c8 c9 c10 c11 c12 c13 c14 c15)
  refine hsw_c (fun c16 => ?_) (fun c16 => ?_)
  · have c16 : x0 = 112 := c16
    refine hx_blk (npc := 143) (L' := [(0, .inl x0)]) (st' := [.inl 9]) (m' := m) [((141, .bipush 9, 2, 0, 0, 0, 0), (0, 0, 0))] (by decide +kernel) rfl ?_
    exact hx_reti (by decide +kernel) (h16 c1 c2 c3 c4 c5 c6 c7 c8 c9 c10 c11 c12 c13 c14 c15 c16)
  refine hsw_c (fun c17 => ?_) (fun c17 => ?_)
  · have c17 : x0 = 113 := c17
    refine hx_blk (npc := 157) (L' := [(0, .inl x0)]) (st' := [.inl (-1)]) (m' := m) [((156, .iconst (-1), 1, 0, 0, 0, 0), (0, 0, 0))] (by decide +kernel) rfl ?_
    exact hx_reti (by decide +kernel) (h17 c1 c2 c3 c4 c5 c6 c7 c8 c9 c10 c11 c12 c13 c14 c15 c16 c17)
  refine hsw_c (fun c18 => ?_) (fun c18 => ?_)
  · have c18 : x0 = 114 := c18
    refine hx_blk (npc := 157) (L' := [(0, .inl x0)]) (st' := [.inl (-1)]) (m' := m) [((156, .iconst (-1), 1, 0, 0, 0, 0), (0, 0, 0))] (by decide +kernel) rfl ?_
    exact hx_reti (by decide +kernel) (h18 c1 c2 c3 c4 c5 c6 c7 c8 c9 c10 c11 c12 c13 c14 c15 c16 c17 c18)
  refine hsw_c (fun c19 => ?_) (fun c19 => ?_)
  · have c19 : x0 = 115 := c19
    refine hx_blk (npc := 131) (L' := [(0, .inl x0)]) (st' := [.inl 5]) (m' := m) [((130, .iconst 5, 1, 0, 0, 0, 0), (0, 0, 0))] (by decide +kernel) rfl ?_
    exact hx_reti (by decide +kernel) (h19 c1 c2 c3 c4 c5 c6 c7 c8 c9 c10 c11 c12 c13 c14 c15 c16 c17 c18 c19)
  refine hsw_c (fun c20 => ?_) (fun c20 => ?_)
  · have c20 : x0 = 116 := c20
    refine hx_blk (npc := 121) (L' := [(0, .inl x0)]) (st' := [.inl 0]) (m' := m) [((120, .iconst 0, 1, 0, 0, 0, 0), (0, 0, 0))] (by decide +kernel) rfl ?_
    exact hx_reti (by decide +kernel) (h20 c1 c2 c3 c4 c5 c6 c7 c8 c9 c10 c11 c12 c13 c14 c15 c16 c17 c18 c19 c20)
  refine hsw_c (fun c21 => ?_) (fun c21 => ?_)
  · have c21 : x0 = 117 := c21
    refine hx_blk (npc := 157) (L' := [(0, .inl x0)]) (st' := [.inl (-1)]) (m' := m) [((156, .iconst (-1), 1, 0, 0, 0, 0), (0, 0, 0))] (by decide +kernel) rfl ?_
    exact hx_reti (by decide +kernel) (h21 c1 c2 c3 c4 c5 c6 c7 c8 c9 c10 c11 c12 c13 c14 c15 c16 c17 c18 c19 c20 c21)
  refine hsw_c (fun c22 => ?_) (fun c22 => ?_)
  · have c22 : x0 = 118 := c22
    refine hx_blk (npc := 157) (L' := [(0, .inl x0)]) (st' := [.inl (-1)]) (m' := m) [((156, .iconst (-1), 1, 0, 0, 0, 0), (0, 0, 0))] (by decide +kernel) rfl ?_
    exact hx_reti (by decide +kernel) (h22 c1 c2 c3 c4 c5 c6 c7 c8 c9 c10 c11 c12 c13 c14 c15 c16 c17 c18 c19 c20 c21 c22)
  refine hsw_c (fun c23 => ?_) (fun c23 => ?_)
  · have c23 : x0 = 119 := c23
    refine hx_blk (npc := 157) (L' := [(0, .inl x0)]) (st' := [.inl (-1)]) (m' := m) [((156, .iconst (-1), 1, 0, 0, 0, 0), (0, 0, 0))] (by decide +kernel) rfl ?_
    exact hx_reti (by decide +kernel) (h23 c1 c2 c3 c4 c5 c6 c7 c8 c9 c10 c11 c12 c13 c14 c15 c16 c17 c18 c19 c20 c21 c22 c23)
  refine hsw_c (fun c24 => ?_) (fun c24 => ?_)
  · have c24 : x0 = 120 := c24
    refine hx_blk (npc := 157) (L' := [(0, .inl x0)]) (st' := [.inl (-1)]) (m' := m) [((156, .iconst (-1), 1, 0, 0, 0, 0), (0, 0, 0))] (by decide +kernel) rfl ?_
    exact hx_reti (by decide +kernel) (h24 c1 c2 c3 c4 c5 c6 c7 c8 c9 c10 c11 c12 c13 c14 c15 c16 c17 c18 c19 c20 c21 c22 c23 c24)
  refine hsw_c (fun c25 => ?_) (fun c25 => ?_)
  · have c25 : x0 = 121 := c25
    refine hx_blk (npc := 123) (L' := [(0, .inl x0)]) (st' := [.inl 1]) (m' := m) [((122, .iconst 1, 1, 0, 0, 0, 0), (0, 0, 0))] (by decide +kernel) rfl ?_
    exact hx_reti (by decide +kernel) (h25 c1 c2 c3 c4 c5 c6 c7 c8 c9 c10 c11 c12 c13 c14 c15 c16 c17 c18 c19 c20 c21 c22 c23 c24 c25)
  refine hsw_c (fun c26 => ?_) (fun c26 => ?_)
  · have c26 : x0 = 122 := c26
    refine hx_blk (npc := 155) (L' := [(0, .inl x0)]) (st' := [.inl 13]) (m' := m) [((153, .bipush 13, 2, 0, 0, 0, 0), (0, 0, 0))] (by decide +kernel) rfl ?_
    exact hx_reti (by decide +kernel) (h26 c1 c2 c3 c4 c5 c6 c7 c8 c9 c10 c11 c12 c13 c14 c15 c16 c17 c18 c19 c20 c21 c22 c23 c24 c25 c26)
  refine hsw_n ?_
  refine hx_blk (npc := 157) (L' := [(0, .inl x0)]) (st' := [.inl (-1)]) (m' := m) [((156, .iconst (-1), 1, 0, 0, 0, 0), (0, 0, 0))] (by decide +kernel) rfl ?_
  exact hx_reti (by decide +kernel) (h27 c1 c2 c3 c4 c5 c6 c7 c8 c9 c10 c11 c12 c13 c14 c15 c16 c17 c18 c19 c20 c21 c22 c23 c24 c25 c26)

/-- sumSign from 0 on -/
theorem hr180_0 {xs : List Int32} {n : Nat} {Q : hQ} {m : gx_M} {x0 : Int}
    (h1 : (x0 ≠ 43) → (x0 ≠ 45) → (x0 ≠ 42) → (x0 ≠ 47) → (x0 ≠ 37) → Q (some (.inl (-1))) m)
    (h2 : (x0 ≠ 43) → (x0 ≠ 45) → (x0 ≠ 42) → (x0 ≠ 47) → (x0 = 37) → Q (some (.inl 6)) m)
    (h3 : (x0 ≠ 43) → (x0 ≠ 45) → (x0 ≠ 42) → (x0 = 47) → Q (some (.inl 5)) m)
    (h4 : (x0 ≠ 43) → (x0 ≠ 45) → (x0 = 42) → Q (some (.inl 4)) m)
    (h5 : (x0 ≠ 43) → (x0 = 45) → Q (some (.inl 3)) m)
    (h6 : (x0 = 43) → Q (some (.inl 2)) m) : hxn xs (n + 1) yp_m180 0 [(0, .inl x0)] [] m Q := by
  refine hx_blks (npc := 3) (L' := [(0, .inl x0)]) (st' := [.inl 43, .inl x0]) (m' := m) ((0, .iload_n 0, 1, 0, 0, 0, 0), (0, 0, 0)) [((1, .bipush 43, 2, 0, 0, 0, 0), (0, 0, 0))] (by decide +kernel) rfl ?_
  refine hx_cmp .ne 10 (by decide +kernel) (fun c1 => ?_) (fun c1 => ?_)
  · have c1 : x0 ≠ 43 := c1
    refine hx_blk (npc := 13) (L' := [(0, .inl x0)]) (st' := [.inl 45, .inl x0]) (m' := m) [((10, .iload_n 0, 1, 0, 0, 0, 0), (0, 0, 0)), ((11, .bipush 45, 2, 0, 0, 0, 0), (0, 0, 0))] (by decide +kernel) rfl ?_
    refine hx_cmp .ne 20 (by decide +kernel) (fun c2 => ?_) (fun c2 => ?_)
    · have c2 : x0 ≠ 45 := c2
      refine hx_blk (npc := 23) (L' := [(0, .inl x0)]) (st' := [.inl 42, .inl x0]) (m' := m) [((20, .iload_n 0, 1, 0, 0, 0, 0), (0, 0, 0)), ((21, .bipush 42, 2, 0, 0, 0, 0), (0, 0, 0))] (by decide +kernel) rfl ?_
      refine hx_cmp .ne 30 (by decide +kernel) (fun c3 => ?_) (fun c3 => ?_)
      · have c3 : x0 ≠ 42 := c3
        refine hx_blk (npc := 33) (L' := [(0, .inl x0)]) (st' := [.inl 47, .inl x0]) (m' := m) [((30, .iload_n 0, 1, 0, 0, 0, 0), (0, 0, 0)), ((31, .bipush 47, 2, 0, 0, 0, 0), (0, 0, 0))] (by decide +kernel) rfl ?_
        refine hx_cmp .ne 40 (by decide +kernel) (fun c4 => ?_) (fun c4 => ?_)
        · have c4 : x0 ≠ 47 := c4
          refine hx_blk (npc := 43) (L' := [(0, .inl x0)]) (st' := [.inl 37, .inl x0]) (m' := m) [((40, .iload_n 0, 1, 0, 0, 0, 0), (0, 0, 0)), ((41, .bipush 37, 2, 0, 0, 0, 0), (0, 0, 0))] (by decide +kernel) rfl ?_
          refine hx_cmp .ne 51 (by decide +kernel) (fun c5 => ?_) (fun c5 => ?_)
          · have c5 : x0 ≠ 37 := c5
            refine hx_blk (npc := 52) (L' := [(0, .inl x0)]) (st' := [.inl (-1)]) (m' := m) [((51, .iconst (-1), 1, 0, 0, 0, 0), (0, 0, 0))] (by decide +kernel) rfl ?_
            exact hx_reti (by decide +kernel) (h1 c1 c2 c3 c4 c5)
          · have c5 : x0 = 37 := by have h : ¬ (x0 ≠ 37) := c5; omega
            refine hx_blk (npc := 52) (L' := [(0, .inl x0)]) (st' := [.inl 6]) (m' := m) [((46, .bipush 6, 2, 0, 0, 0, 0), (0, 0, 0)), ((48, .goto 4, 3, 0, 0, 0, 0), (0, 0, 0))] (by decide +kernel) rfl ?_
            exact hx_reti (by decide +kernel) (h2 c1 c2 c3 c4 c5)
        · have c4 : x0 = 47 := by have h : ¬ (x0 ≠ 47) := c4; omega
          refine hx_blk (npc := 52) (L' := [(0, .inl x0)]) (st' := [.inl 5]) (m' := m) [((36, .iconst 5, 1, 0, 0, 0, 0), (0, 0, 0)), ((37, .goto 15, 3, 0, 0, 0, 0), (0, 0, 0))] (by decide +kernel) rfl ?_
          exact hx_reti (by decide +kernel) (h3 c1 c2 c3 c4)
      · have c3 : x0 = 42 := by have h : ¬ (x0 ≠ 42) := c3; omega
        refine hx_blk (npc := 52) (L' := [(0, .inl x0)]) (st' := [.inl 4]) (m' := m) [((26, .iconst 4, 1, 0, 0, 0, 0), (0, 0, 0)), ((27, .goto 25, 3, 0, 0, 0, 0), (0, 0, 0))] (by decide +kernel) rfl ?_
        exact hx_reti (by decide +kernel) (h4 c1 c2 c3)
    · have c2 : x0 = 45 := by have h : ¬ (x0 ≠ 45) := c2; omega
      refine hx_blk (npc := 52) (L' := [(0, .inl x0)]) (st' := [.inl 3]) (m' := m) [((16, .iconst 3, 1, 0, 0, 0, 0), (0, 0, 0)), ((17, .goto 35, 3, 0, 0, 0, 0), (0, 0, 0))] (by decide +kernel) rfl ?_
      exact hx_reti (by decide +kernel) (h5 c1 c2)
  · have c1 : x0 = 43 := by have h : ¬ (x0 ≠ 43) := c1; omega
    refine hx_blk (npc := 52) (L' := [(0, .inl x0)]) (st' := [.inl 2]) (m' := m) [((6, .iconst 2, 1, 0, 0, 0, 0), (0, 0, 0)), ((7, .goto 45, 3, 0, 0, 0, 0), (0, 0, 0))] (by decide +kernel) rfl ?_
    exact hx_reti (by decide +kernel) (h6 c1)

/-- waitTop from 0 on -/
theorem hr182_0 {xs : List Int32} {n : Nat} {Q : hQ} {m : gx_M}
    (h1 : ((m 86 11) ≠ 0) → Q (some (.inl (gx_w (Int.tdiv (m 92 (gx_w ((m 86 11) - 1)).toNat) 1048576)))) m)
    (h2 : ((m 86 11) = 0) → Q (some (.inl (-1))) m) : hxn xs (n + 1) yp_m182 0 [(0, .inr (.inl 86))] [] m Q := by
  refine hx_blks (npc := 4) (L' := [(0, .inr (.inl 86))]) (st' := [.inl (m 86 11)]) (m' := m) ((0, .aload_n 0, 1, 0, 0, 0, 0), (0, 0, 0)) [((1, .getfield 162, 3, 10, 11, 5124, 0), (0, 86, 0))] (by decide +kernel) rfl ?_
  refine hx_if .ne 11 (by decide +kernel) (fun c1 => ?_) (fun c1 => ?_)
  · have c1 : (m 86 11) ≠ 0 := c1
    refine hx_blk (npc := 25) (L' := [(0, .inr (.inl 86))]) (st' := [.inl (gx_w (Int.tdiv (m 92 (gx_w ((m 86 11) - 1)).toNat) 1048576))]) (m' := m) [((11, .aload_n 0, 1, 0, 0, 0, 0), (0, 0, 0)), ((12, .getfield 26, 3, 10, 15, 5128, 0), (1, 86, 92)), ((15, .aload_n 0, 1, 0, 0, 0, 0), (0, 0, 0)), ((16, .getfield 162, 3, 10, 11, 5124, 0), (0, 86, 0)), ((19, .iconst 1, 1, 0, 0, 0, 0), (0, 0, 0)), ((20, .isub, 1, 0, 0, 0, 0), (0, 0, 0)), ((21, .iaload, 1, 0, 0, 0, 0), (0, 92, 0)), ((22, .ldc 158, 2, 0, 0, 6077, 1048576), (0, 0, 0)), ((24, .idiv, 1, 0, 0, 0, 0), (0, 0, 0))] (by decide +kernel) rfl ?_
    exact hx_reti (by decide +kernel) (h1 c1)
  · have c1 : (m 86 11) = 0 := by have h : ¬ ((m 86 11) ≠ 0) := c1; omega
    refine hx_blk (npc := 25) (L' := [(0, .inr (.inl 86))]) (st' := [.inl (-1)]) (m' := m) [((7, .iconst (-1), 1, 0, 0, 0, 0), (0, 0, 0)), ((8, .goto 17, 3, 0, 0, 0, 0), (0, 0, 0))] (by decide +kernel) rfl ?_
    exact hx_reti (by decide +kernel) (h2 c1)

/-- readsNumber from 0 on -/
theorem hr177_0 {xs : List Int32} {n : Nat} {Q : hQ} {m : gx_M}
    (h1 : hxn xs n yp_m177 10 [(0, .inr (.inl 86)), (1, .inl (m 86 5))] [] (gx_u m 86 8 0) Q) : hxn xs (n + 1) yp_m177 0 [(0, .inr (.inl 86))] [] m Q := by
  refine hx_blks (npc := 10) (L' := [(0, .inr (.inl 86)), (1, .inl (m 86 5))]) (st' := []) (m' := (gx_u m 86 8 0)) ((0, .aload_n 0, 1, 0, 0, 0, 0), (0, 0, 0)) [((1, .getfield 132, 3, 10, 5, 5118, 0), (0, 86, 0)), ((4, .istore_n 1, 1, 0, 0, 0, 0), (0, 0, 0)), ((5, .aload_n 0, 1, 0, 0, 0, 0), (0, 0, 0)), ((6, .iconst 0, 1, 0, 0, 0, 0), (0, 0, 0)), ((7, .putfield 148, 3, 10, 8, 5121, 0), (0, 86, 0))] (by decide +kernel) rfl ?_
  exact hx_pick [0, 1] h1

/-- readsNumber from 10 on -/
theorem hr177_10 {xs : List Int32} {n : Nat} {Q : hQ} {m : gx_M} {x1 : Int}
    (h1 : (isDg (aHere m)) → ((m 86 5) ≠ (gx_w (x1 + 5))) → hxn xs n yp_m177 10 [(0, .inr (.inl 86)), (1, .inl x1)] [] (gx_u (gx_u m 86 8 (gx_w ((gx_w ((gx_w (10 * (m 86 8))) + (aHere m))) - 48))) 86 5 (gx_w ((m 86 5) + 1))) Q)
    (h2 : (isDg (aHere m)) → ((m 86 5) = (gx_w (x1 + 5))) → hxn xs n yp_m172 0 [(0, .inr (.inl 86)), (1, .inl 2), (2, .inl (m 86 5))] [] m (fun r m' => hxn xs n yp_m177 36 [] (hrs r ++ []) m' Q))
    (h3 : (¬ (isDg (aHere m))) → Q (some (.inl 1)) m) : hxn xs (n + 1) yp_m177 10 [(0, .inr (.inl 86)), (1, .inl x1)] [] m Q := by
  refine hx_blks (npc := 11) (L' := [(0, .inr (.inl 86)), (1, .inl x1)]) (st' := [.inr (.inl 86)]) (m' := m) ((10, .aload_n 0, 1, 0, 0, 0, 0), (0, 0, 0)) [] (by decide +kernel) rfl ?_
  refine hx_call (E := (11, .invokevirtual 151, 3, 176, 0, 6078, 0)) (M' := yp_m176) [.inr (.inl 86)] [] rfl (by decide +kernel) rfl ⟨rfl, rfl⟩ rfl rfl (hs176 (fun c1 => ?_) (fun c1 => ?_))
  · have c1 : isDg (aHere m) := c1
    show hxn xs n yp_m177 14 [(0, .inr (.inl 86)), (1, .inl x1)] [.inl 1] m Q
    refine hx_if .eq 69 (by decide +kernel) (fun c2 => ?_) (fun c2 => ?_)
    · have c2 : (1 : Int) = 0 := c2
      exfalso; omega
    · have c2 : (1 : Int) ≠ 0 := c2
      refine hx_blk (npc := 24) (L' := [(0, .inr (.inl 86)), (1, .inl x1)]) (st' := [.inl (gx_w (x1 + 5)), .inl (m 86 5)]) (m' := m) [((17, .aload_n 0, 1, 0, 0, 0, 0), (0, 0, 0)), ((18, .getfield 132, 3, 10, 5, 5118, 0), (0, 86, 0)), ((21, .iload_n 1, 1, 0, 0, 0, 0), (0, 0, 0)), ((22, .iconst 5, 1, 0, 0, 0, 0), (0, 0, 0)), ((23, .iadd, 1, 0, 0, 0, 0), (0, 0, 0))] (by decide +kernel) rfl ?_
      refine hx_cmp .ne 37 (by decide +kernel) (fun c2 => ?_) (fun c2 => ?_)
      · have c2 : (m 86 5) ≠ (gx_w (x1 + 5)) := c2
        refine hx_blk (npc := 46) (L' := [(0, .inr (.inl 86)), (1, .inl x1)]) (st' := [.inr (.inl 86), .inl (gx_w (10 * (m 86 8))), .inr (.inl 86)]) (m' := m) [((37, .aload_n 0, 1, 0, 0, 0, 0), (0, 0, 0)), ((38, .bipush 10, 2, 0, 0, 0, 0), (0, 0, 0)), ((40, .aload_n 0, 1, 0, 0, 0, 0), (0, 0, 0)), ((41, .getfield 148, 3, 10, 8, 5121, 0), (0, 86, 0)), ((44, .imul, 1, 0, 0, 0, 0), (0, 0, 0)), ((45, .aload_n 0, 1, 0, 0, 0, 0), (0, 0, 0))] (by decide +kernel) rfl ?_
        refine hx_call (E := (46, .invokevirtual 138, 3, 170, 0, 6054, 0)) (M' := yp_m170) [.inr (.inl 86)] [.inl (gx_w (10 * (m 86 8))), .inr (.inl 86)] rfl (by decide +kernel) rfl ⟨rfl, rfl⟩ rfl rfl (hs170 ?_)
        show hxn xs n yp_m177 49 [(0, .inr (.inl 86)), (1, .inl x1)] [.inl (aHere m), .inl (gx_w (10 * (m 86 8))), .inr (.inl 86)] m Q
        refine hx_blk (npc := 10) (L' := [(0, .inr (.inl 86)), (1, .inl x1)]) (st' := []) (m' := (gx_u (gx_u m 86 8 (gx_w ((gx_w ((gx_w (10 * (m 86 8))) + (aHere m))) - 48))) 86 5 (gx_w ((m 86 5) + 1)))) [((49, .iadd, 1, 0, 0, 0, 0), (0, 0, 0)), ((50, .bipush 48, 2, 0, 0, 0, 0), (0, 0, 0)), ((52, .isub, 1, 0, 0, 0, 0), (0, 0, 0)), ((53, .putfield 148, 3, 10, 8, 5121, 0), (0, 86, 0)), ((56, .aload_n 0, 1, 0, 0, 0, 0), (0, 0, 0)), ((57, .aload_n 0, 1, 0, 0, 0, 0), (0, 0, 0)), ((58, .getfield 132, 3, 10, 5, 5118, 0), (0, 86, 0)), ((61, .iconst 1, 1, 0, 0, 0, 0), (0, 0, 0)), ((62, .iadd, 1, 0, 0, 0, 0), (0, 0, 0)), ((63, .putfield 132, 3, 10, 5, 5118, 0), (0, 86, 0)), ((66, .goto (-56), 3, 0, 0, 0, 0), (0, 0, 0))] (by decide +kernel) rfl ?_
        exact hx_pick [0, 1] (h1 c1 c2)
      · have c2 : (m 86 5) = (gx_w (x1 + 5)) := by have h : ¬ ((m 86 5) ≠ (gx_w (x1 + 5))) := c2; omega
        refine hx_blk (npc := 33) (L' := [(0, .inr (.inl 86)), (1, .inl x1)]) (st' := [.inl (m 86 5), .inl 2, .inr (.inl 86)]) (m' := m) [((27, .aload_n 0, 1, 0, 0, 0, 0), (0, 0, 0)), ((28, .iconst 2, 1, 0, 0, 0, 0), (0, 0, 0)), ((29, .aload_n 0, 1, 0, 0, 0, 0), (0, 0, 0)), ((30, .getfield 132, 3, 10, 5, 5118, 0), (0, 86, 0))] (by decide +kernel) rfl ?_
        exact hx_call (E := (33, .invokevirtual 145, 3, 172, 0, 6061, 0)) (M' := yp_m172) [.inr (.inl 86), .inl 2, .inl (m 86 5)] [] rfl (by decide +kernel) rfl ⟨rfl, rfl⟩ rfl rfl (hx_mono (h2 c1 c2) (fun r m' h' => hx_pick [] h'))
  · have c1 : ¬ (isDg (aHere m)) := c1
    show hxn xs n yp_m177 14 [(0, .inr (.inl 86)), (1, .inl x1)] [.inl 0] m Q
    refine hx_if .eq 69 (by decide +kernel) (fun c2 => ?_) (fun c2 => ?_)
    · have c2 : (0 : Int) = 0 := c2
      refine hx_blk (npc := 70) (L' := [(0, .inr (.inl 86)), (1, .inl x1)]) (st' := [.inl 1]) (m' := m) [((69, .iconst 1, 1, 0, 0, 0, 0), (0, 0, 0))] (by decide +kernel) rfl ?_
      exact hx_reti (by decide +kernel) (h3 c1)
    · have c2 : (0 : Int) ≠ 0 := c2
      exfalso; omega

/-- readsNumber from 36 on -/
theorem hr177_36 {xs : List Int32} {n : Nat} {Q : hQ} {m : gx_M} {s0 : Int}
    (h1 : Q (some (.inl s0)) m) : hxn xs (n + 1) yp_m177 36 [] [.inl s0] m Q := by
  exact hx_reti (by decide +kernel) h1

/-- jumps from 0 on -/
theorem hr188_0 {xs : List Int32} {n : Nat} {Q : hQ} {m : gx_M} {x1 : Int}
    (h1 : hxn xs n yp_m178 0 [(0, .inr (.inl 86)), (1, .inl x1), (2, .inl 0)] [] (gx_u (gx_u m 92 (m 86 11).toNat (gx_w ((gx_w (1048576 * x1)) + (m 86 10)))) 86 11 (gx_w ((m 86 11) + 1))) (fun r m' => hxn xs n yp_m188 34 [(0, .inr (.inl 86))] (hrs r ++ []) m' Q)) : hxn xs (n + 1) yp_m188 0 [(0, .inr (.inl 86)), (1, .inl x1)] [] m Q := by
  refine hx_blks (npc := 31) (L' := [(0, .inr (.inl 86)), (1, .inl x1)]) (st' := [.inl 0, .inl x1, .inr (.inl 86)]) (m' := (gx_u (gx_u m 92 (m 86 11).toNat (gx_w ((gx_w (1048576 * x1)) + (m 86 10)))) 86 11 (gx_w ((m 86 11) + 1)))) ((0, .aload_n 0, 1, 0, 0, 0, 0), (0, 0, 0)) [((1, .getfield 26, 3, 10, 15, 5128, 0), (1, 86, 92)), ((4, .aload_n 0, 1, 0, 0, 0, 0), (0, 0, 0)), ((5, .getfield 162, 3, 10, 11, 5124, 0), (0, 86, 0)), ((8, .ldc 158, 2, 0, 0, 6077, 1048576), (0, 0, 0)), ((10, .iload_n 1, 1, 0, 0, 0, 0), (0, 0, 0)), ((11, .imul, 1, 0, 0, 0, 0), (0, 0, 0)), ((12, .aload_n 0, 1, 0, 0, 0, 0), (0, 0, 0)), ((13, .getfield 155, 3, 10, 10, 5123, 0), (0, 86, 0)), ((16, .iadd, 1, 0, 0, 0, 0), (0, 0, 0)), ((17, .iastore, 1, 0, 0, 0, 0), (0, 92, 0)), ((18, .aload_n 0, 1, 0, 0, 0, 0), (0, 0, 0)), ((19, .aload_n 0, 1, 0, 0, 0, 0), (0, 0, 0)), ((20, .getfield 162, 3, 10, 11, 5124, 0), (0, 86, 0)), ((23, .iconst 1, 1, 0, 0, 0, 0), (0, 0, 0)), ((24, .iadd, 1, 0, 0, 0, 0), (0, 0, 0)), ((25, .putfield 162, 3, 10, 11, 5124, 0), (0, 86, 0)), ((28, .aload_n 0, 1, 0, 0, 0, 0), (0, 0, 0)), ((29, .iload_n 1, 1, 0, 0, 0, 0), (0, 0, 0)), ((30, .iconst 0, 1, 0, 0, 0, 0), (0, 0, 0))] (by decide +kernel) rfl ?_
  exact hx_call (E := (31, .invokevirtual 168, 3, 178, 0, 6086, 0)) (M' := yp_m178) [.inr (.inl 86), .inl x1, .inl 0] [] rfl (by decide +kernel) rfl ⟨rfl, rfl⟩ rfl rfl (hx_mono h1 (fun r m' h' => hx_pick [0] h'))

/-- jumps from 34 on -/
theorem hr188_34 {xs : List Int32} {n : Nat} {Q : hQ} {m : gx_M}
    (h1 : Q none (gx_u m 86 5 (gx_w ((m 86 5) + 1)))) : hxn xs (n + 1) yp_m188 34 [(0, .inr (.inl 86))] [] m Q := by
  refine hx_blks (npc := 44) (L' := [(0, .inr (.inl 86))]) (st' := []) (m' := (gx_u m 86 5 (gx_w ((m 86 5) + 1)))) ((34, .aload_n 0, 1, 0, 0, 0, 0), (0, 0, 0)) [((35, .aload_n 0, 1, 0, 0, 0, 0), (0, 0, 0)), ((36, .getfield 132, 3, 10, 5, 5118, 0), (0, 86, 0)), ((39, .iconst 1, 1, 0, 0, 0, 0), (0, 0, 0)), ((40, .iadd, 1, 0, 0, 0, 0), (0, 0, 0)), ((41, .putfield 132, 3, 10, 5, 5118, 0), (0, 86, 0))] (by decide +kernel) rfl ?_
  exact hx_ret0 (by decide +kernel) h1

/-- takes from 0 on -/
theorem hr189_0 {xs : List Int32} {n : Nat} {Q : hQ} {m : gx_M} {x1 : Int}
    (h1 : ((aHere m) = x1) → Q (some (.inl 1)) (gx_u m 86 5 (gx_w ((m 86 5) + 1))))
    (h2 : ((aHere m) ≠ x1) → hxn xs n yp_m172 0 [(0, .inr (.inl 86)), (1, .inl 1), (2, .inl (m 86 5))] [] m (fun r m' => hxn xs n yp_m189 17 [] (hrs r ++ []) m' Q)) : hxn xs (n + 1) yp_m189 0 [(0, .inr (.inl 86)), (1, .inl x1)] [] m Q := by
  refine hx_blks (npc := 1) (L' := [(0, .inr (.inl 86)), (1, .inl x1)]) (st' := [.inr (.inl 86)]) (m' := m) ((0, .aload_n 0, 1, 0, 0, 0, 0), (0, 0, 0)) [] (by decide +kernel) rfl ?_
  refine hx_call (E := (1, .invokevirtual 138, 3, 170, 0, 6054, 0)) (M' := yp_m170) [.inr (.inl 86)] [] rfl (by decide +kernel) rfl ⟨rfl, rfl⟩ rfl rfl (hs170 ?_)
  show hxn xs n yp_m189 4 [(0, .inr (.inl 86)), (1, .inl x1)] [.inl (aHere m)] m Q
  refine hx_blk (npc := 5) (L' := [(0, .inr (.inl 86)), (1, .inl x1)]) (st' := [.inl x1, .inl (aHere m)]) (m' := m) [((4, .iload_n 1, 1, 0, 0, 0, 0), (0, 0, 0))] (by decide +kernel) rfl ?_
  refine hx_cmp .eq 18 (by decide +kernel) (fun c1 => ?_) (fun c1 => ?_)
  · have c1 : (aHere m) = x1 := c1
    refine hx_blk (npc := 29) (L' := [(0, .inr (.inl 86)), (1, .inl x1)]) (st' := [.inl 1]) (m' := (gx_u m 86 5 (gx_w ((m 86 5) + 1)))) [((18, .aload_n 0, 1, 0, 0, 0, 0), (0, 0, 0)), ((19, .aload_n 0, 1, 0, 0, 0, 0), (0, 0, 0)), ((20, .getfield 132, 3, 10, 5, 5118, 0), (0, 86, 0)), ((23, .iconst 1, 1, 0, 0, 0, 0), (0, 0, 0)), ((24, .iadd, 1, 0, 0, 0, 0), (0, 0, 0)), ((25, .putfield 132, 3, 10, 5, 5118, 0), (0, 86, 0)), ((28, .iconst 1, 1, 0, 0, 0, 0), (0, 0, 0))] (by decide +kernel) rfl ?_
    exact hx_reti (by decide +kernel) (h1 c1)
  · have c1 : (aHere m) ≠ x1 := c1
    refine hx_blk (npc := 14) (L' := [(0, .inr (.inl 86)), (1, .inl x1)]) (st' := [.inl (m 86 5), .inl 1, .inr (.inl 86)]) (m' := m) [((8, .aload_n 0, 1, 0, 0, 0, 0), (0, 0, 0)), ((9, .iconst 1, 1, 0, 0, 0, 0), (0, 0, 0)), ((10, .aload_n 0, 1, 0, 0, 0, 0), (0, 0, 0)), ((11, .getfield 132, 3, 10, 5, 5118, 0), (0, 86, 0))] (by decide +kernel) rfl ?_
    exact hx_call (E := (14, .invokevirtual 145, 3, 172, 0, 6061, 0)) (M' := yp_m172) [.inr (.inl 86), .inl 1, .inl (m 86 5)] [] rfl (by decide +kernel) rfl ⟨rfl, rfl⟩ rfl rfl (hx_mono (h2 c1) (fun r m' h' => hx_pick [] h'))

/-- takes from 17 on -/
theorem hr189_17 {xs : List Int32} {n : Nat} {Q : hQ} {m : gx_M} {s0 : Int}
    (h1 : Q (some (.inl s0)) m) : hxn xs (n + 1) yp_m189 17 [] [.inl s0] m Q := by
  exact hx_reti (by decide +kernel) h1

/-- closesSums from 0 on -/
theorem hr181_0 {xs : List Int32} {n : Nat} {Q : hQ} {m : gx_M} {x1 : Int}
    (h1 : hxn xs n yp_m182 0 [(0, .inr (.inl 86))] [] m (fun r m' => hxn xs n yp_m181 4 [(0, .inr (.inl 86)), (1, .inl x1)] (hrs r ++ []) m' Q)) : hxn xs (n + 1) yp_m181 0 [(0, .inr (.inl 86)), (1, .inl x1)] [] m Q := by
  refine hx_blks (npc := 1) (L' := [(0, .inr (.inl 86)), (1, .inl x1)]) (st' := [.inr (.inl 86)]) (m' := m) ((0, .aload_n 0, 1, 0, 0, 0, 0), (0, 0, 0)) [] (by decide +kernel) rfl ?_
  exact hx_call (E := (1, .invokevirtual 165, 3, 182, 0, 6100, 0)) (M' := yp_m182) [.inr (.inl 86)] [] rfl (by decide +kernel) rfl ⟨rfl, rfl⟩ rfl rfl (hx_mono h1 (fun r m' h' => hx_pick [0, 1] h'))

/-- closesSums from 4 on -/
theorem hr181_4 {xs : List Int32} {n : Nat} {Q : hQ} {m : gx_M} {x1 s0 : Int}
    (h1 : (s0 < 4) → (x1 = 0) → Q none m)
    (h2 : (s0 < 4) → (x1 ≠ 0) → hxn xs n yp_m182 0 [(0, .inr (.inl 86))] [] m (fun r m' => hxn xs n yp_m181 25 [(0, .inr (.inl 86)), (1, .inl x1)] (hrs r ++ []) m' Q))
    (h3 : (4 ≤ s0) → hxn xs n yp_m182 0 [(0, .inr (.inl 86))] [] m (fun r m' => hxn xs n yp_m181 12 [(0, .inr (.inl 86)), (1, .inl x1)] (hrs r ++ []) m' Q)) : hxn xs (n + 1) yp_m181 4 [(0, .inr (.inl 86)), (1, .inl x1)] [.inl s0] m Q := by
  refine hx_blks (npc := 5) (L' := [(0, .inr (.inl 86)), (1, .inl x1)]) (st' := [.inl 4, .inl s0]) (m' := m) ((4, .iconst 4, 1, 0, 0, 0, 0), (0, 0, 0)) [] (by decide +kernel) rfl ?_
  refine hx_cmp .lt 17 (by decide +kernel) (fun c1 => ?_) (fun c1 => ?_)
  · have c1 : s0 < 4 := c1
    refine hx_blk (npc := 18) (L' := [(0, .inr (.inl 86)), (1, .inl x1)]) (st' := [.inl x1]) (m' := m) [((17, .iload_n 1, 1, 0, 0, 0, 0), (0, 0, 0))] (by decide +kernel) rfl ?_
    refine hx_if .eq 59 (by decide +kernel) (fun c2 => ?_) (fun c2 => ?_)
    · have c2 : x1 = 0 := c2
      exact hx_ret0 (by decide +kernel) (h1 c1 c2)
    · have c2 : x1 ≠ 0 := c2
      refine hx_blk (npc := 22) (L' := [(0, .inr (.inl 86)), (1, .inl x1)]) (st' := [.inr (.inl 86)]) (m' := m) [((21, .aload_n 0, 1, 0, 0, 0, 0), (0, 0, 0))] (by decide +kernel) rfl ?_
      exact hx_call (E := (22, .invokevirtual 165, 3, 182, 0, 6100, 0)) (M' := yp_m182) [.inr (.inl 86)] [] rfl (by decide +kernel) rfl ⟨rfl, rfl⟩ rfl rfl (hx_mono (h2 c1 c2) (fun r m' h' => hx_pick [0, 1] h'))
  · have c1 : 4 ≤ s0 := by have h : ¬ (s0 < 4) := c1; omega
    refine hx_blk (npc := 9) (L' := [(0, .inr (.inl 86)), (1, .inl x1)]) (st' := [.inr (.inl 86)]) (m' := m) [((8, .aload_n 0, 1, 0, 0, 0, 0), (0, 0, 0))] (by decide +kernel) rfl ?_
    exact hx_call (E := (9, .invokevirtual 165, 3, 182, 0, 6100, 0)) (M' := yp_m182) [.inr (.inl 86)] [] rfl (by decide +kernel) rfl ⟨rfl, rfl⟩ rfl rfl (hx_mono (h3 c1) (fun r m' h' => hx_pick [0, 1] h'))

/-- closesSums from 12 on -/
theorem hr181_12 {xs : List Int32} {n : Nat} {Q : hQ} {m : gx_M} {x1 s0 : Int}
    (h1 : (s0 ≤ 6) → hxn xs n yp_m182 0 [(0, .inr (.inl 86))] [] m (fun r m' => hxn xs n yp_m181 42 [(0, .inr (.inl 86)), (1, .inl x1)] (hrs r ++ [.inr (.inl 86)]) m' Q))
    (h2 : (6 < s0) → (x1 = 0) → Q none m)
    (h3 : (6 < s0) → (x1 ≠ 0) → hxn xs n yp_m182 0 [(0, .inr (.inl 86))] [] m (fun r m' => hxn xs n yp_m181 25 [(0, .inr (.inl 86)), (1, .inl x1)] (hrs r ++ []) m' Q)) : hxn xs (n + 1) yp_m181 12 [(0, .inr (.inl 86)), (1, .inl x1)] [.inl s0] m Q := by
  refine hx_blks (npc := 14) (L' := [(0, .inr (.inl 86)), (1, .inl x1)]) (st' := [.inl 6, .inl s0]) (m' := m) ((12, .bipush 6, 2, 0, 0, 0, 0), (0, 0, 0)) [] (by decide +kernel) rfl ?_
  refine hx_cmp .le 37 (by decide +kernel) (fun c1 => ?_) (fun c1 => ?_)
  · have c1 : s0 ≤ 6 := c1
    refine hx_blk (npc := 39) (L' := [(0, .inr (.inl 86)), (1, .inl x1)]) (st' := [.inr (.inl 86), .inr (.inl 86)]) (m' := m) [((37, .aload_n 0, 1, 0, 0, 0, 0), (0, 0, 0)), ((38, .aload_n 0, 1, 0, 0, 0, 0), (0, 0, 0))] (by decide +kernel) rfl ?_
    exact hx_call (E := (39, .invokevirtual 165, 3, 182, 0, 6100, 0)) (M' := yp_m182) [.inr (.inl 86)] [.inr (.inl 86)] rfl (by decide +kernel) rfl ⟨rfl, rfl⟩ rfl rfl (hx_mono (h1 c1) (fun r m' h' => hx_pick [0, 1] h'))
  · have c1 : 6 < s0 := by have h : ¬ (s0 ≤ 6) := c1; omega
    refine hx_blk (npc := 18) (L' := [(0, .inr (.inl 86)), (1, .inl x1)]) (st' := [.inl x1]) (m' := m) [((17, .iload_n 1, 1, 0, 0, 0, 0), (0, 0, 0))] (by decide +kernel) rfl ?_
    refine hx_if .eq 59 (by decide +kernel) (fun c2 => ?_) (fun c2 => ?_)
    · have c2 : x1 = 0 := c2
      exact hx_ret0 (by decide +kernel) (h2 c1 c2)
    · have c2 : x1 ≠ 0 := c2
      refine hx_blk (npc := 22) (L' := [(0, .inr (.inl 86)), (1, .inl x1)]) (st' := [.inr (.inl 86)]) (m' := m) [((21, .aload_n 0, 1, 0, 0, 0, 0), (0, 0, 0))] (by decide +kernel) rfl ?_
      exact hx_call (E := (22, .invokevirtual 165, 3, 182, 0, 6100, 0)) (M' := yp_m182) [.inr (.inl 86)] [] rfl (by decide +kernel) rfl ⟨rfl, rfl⟩ rfl rfl (hx_mono (h3 c1 c2) (fun r m' h' => hx_pick [0, 1] h'))

/-- closesSums from 25 on -/
theorem hr181_25 {xs : List Int32} {n : Nat} {Q : hQ} {m : gx_M} {x1 s0 : Int}
    (h1 : (s0 = 2) → hxn xs n yp_m182 0 [(0, .inr (.inl 86))] [] m (fun r m' => hxn xs n yp_m181 42 [(0, .inr (.inl 86)), (1, .inl x1)] (hrs r ++ [.inr (.inl 86)]) m' Q))
    (h2 : (s0 ≠ 2) → hxn xs n yp_m182 0 [(0, .inr (.inl 86))] [] m (fun r m' => hxn xs n yp_m181 33 [(0, .inr (.inl 86)), (1, .inl x1)] (hrs r ++ []) m' Q)) : hxn xs (n + 1) yp_m181 25 [(0, .inr (.inl 86)), (1, .inl x1)] [.inl s0] m Q := by
  refine hx_blks (npc := 26) (L' := [(0, .inr (.inl 86)), (1, .inl x1)]) (st' := [.inl 2, .inl s0]) (m' := m) ((25, .iconst 2, 1, 0, 0, 0, 0), (0, 0, 0)) [] (by decide +kernel) rfl ?_
  refine hx_cmp .eq 37 (by decide +kernel) (fun c1 => ?_) (fun c1 => ?_)
  · have c1 : s0 = 2 := c1
    refine hx_blk (npc := 39) (L' := [(0, .inr (.inl 86)), (1, .inl x1)]) (st' := [.inr (.inl 86), .inr (.inl 86)]) (m' := m) [((37, .aload_n 0, 1, 0, 0, 0, 0), (0, 0, 0)), ((38, .aload_n 0, 1, 0, 0, 0, 0), (0, 0, 0))] (by decide +kernel) rfl ?_
    exact hx_call (E := (39, .invokevirtual 165, 3, 182, 0, 6100, 0)) (M' := yp_m182) [.inr (.inl 86)] [.inr (.inl 86)] rfl (by decide +kernel) rfl ⟨rfl, rfl⟩ rfl rfl (hx_mono (h1 c1) (fun r m' h' => hx_pick [0, 1] h'))
  · have c1 : s0 ≠ 2 := c1
    refine hx_blk (npc := 30) (L' := [(0, .inr (.inl 86)), (1, .inl x1)]) (st' := [.inr (.inl 86)]) (m' := m) [((29, .aload_n 0, 1, 0, 0, 0, 0), (0, 0, 0))] (by decide +kernel) rfl ?_
    exact hx_call (E := (30, .invokevirtual 165, 3, 182, 0, 6100, 0)) (M' := yp_m182) [.inr (.inl 86)] [] rfl (by decide +kernel) rfl ⟨rfl, rfl⟩ rfl rfl (hx_mono (h2 c1) (fun r m' h' => hx_pick [0, 1] h'))

/-- closesSums from 33 on -/
theorem hr181_33 {xs : List Int32} {n : Nat} {Q : hQ} {m : gx_M} {x1 s0 : Int}
    (h1 : (s0 ≠ 3) → Q none m)
    (h2 : (s0 = 3) → hxn xs n yp_m182 0 [(0, .inr (.inl 86))] [] m (fun r m' => hxn xs n yp_m181 42 [(0, .inr (.inl 86)), (1, .inl x1)] (hrs r ++ [.inr (.inl 86)]) m' Q)) : hxn xs (n + 1) yp_m181 33 [(0, .inr (.inl 86)), (1, .inl x1)] [.inl s0] m Q := by
  refine hx_blks (npc := 34) (L' := [(0, .inr (.inl 86)), (1, .inl x1)]) (st' := [.inl 3, .inl s0]) (m' := m) ((33, .iconst 3, 1, 0, 0, 0, 0), (0, 0, 0)) [] (by decide +kernel) rfl ?_
  refine hx_cmp .ne 59 (by decide +kernel) (fun c1 => ?_) (fun c1 => ?_)
  · have c1 : s0 ≠ 3 := c1
    exact hx_ret0 (by decide +kernel) (h1 c1)
  · have c1 : s0 = 3 := by have h : ¬ (s0 ≠ 3) := c1; omega
    refine hx_blk (npc := 39) (L' := [(0, .inr (.inl 86)), (1, .inl x1)]) (st' := [.inr (.inl 86), .inr (.inl 86)]) (m' := m) [((37, .aload_n 0, 1, 0, 0, 0, 0), (0, 0, 0)), ((38, .aload_n 0, 1, 0, 0, 0, 0), (0, 0, 0))] (by decide +kernel) rfl ?_
    exact hx_call (E := (39, .invokevirtual 165, 3, 182, 0, 6100, 0)) (M' := yp_m182) [.inr (.inl 86)] [.inr (.inl 86)] rfl (by decide +kernel) rfl ⟨rfl, rfl⟩ rfl rfl (hx_mono (h2 c1) (fun r m' h' => hx_pick [0, 1] h'))

/-- closesSums from 42 on -/
theorem hr181_42 {xs : List Int32} {n : Nat} {Q : hQ} {m : gx_M} {x1 s1 : Int}
    (h1 : hxn xs n yp_m178 0 [(0, .inr (.inl 86)), (1, .inl s1), (2, .inl 0)] [] m (fun r m' => hxn xs n yp_m181 46 [(0, .inr (.inl 86)), (1, .inl x1)] (hrs r ++ []) m' Q)) : hxn xs (n + 1) yp_m181 42 [(0, .inr (.inl 86)), (1, .inl x1)] [.inl s1, .inr (.inl 86)] m Q := by
  refine hx_blks (npc := 43) (L' := [(0, .inr (.inl 86)), (1, .inl x1)]) (st' := [.inl 0, .inl s1, .inr (.inl 86)]) (m' := m) ((42, .iconst 0, 1, 0, 0, 0, 0), (0, 0, 0)) [] (by decide +kernel) rfl ?_
  exact hx_call (E := (43, .invokevirtual 168, 3, 178, 0, 6086, 0)) (M' := yp_m178) [.inr (.inl 86), .inl s1, .inl 0] [] rfl (by decide +kernel) rfl ⟨rfl, rfl⟩ rfl rfl (hx_mono h1 (fun r m' h' => hx_pick [0, 1] h'))

/-- closesSums from 46 on -/
theorem hr181_46 {xs : List Int32} {n : Nat} {Q : hQ} {m : gx_M} {x1 : Int}
    (h1 : hxn xs n yp_m181 0 [(0, .inr (.inl 86)), (1, .inl x1)] [] (gx_u m 86 11 (gx_w ((m 86 11) - 1))) Q) : hxn xs (n + 1) yp_m181 46 [(0, .inr (.inl 86)), (1, .inl x1)] [] m Q := by
  refine hx_blks (npc := 0) (L' := [(0, .inr (.inl 86)), (1, .inl x1)]) (st' := []) (m' := (gx_u m 86 11 (gx_w ((m 86 11) - 1)))) ((46, .aload_n 0, 1, 0, 0, 0, 0), (0, 0, 0)) [((47, .aload_n 0, 1, 0, 0, 0, 0), (0, 0, 0)), ((48, .getfield 162, 3, 10, 11, 5124, 0), (0, 86, 0)), ((51, .iconst 1, 1, 0, 0, 0, 0), (0, 0, 0)), ((52, .isub, 1, 0, 0, 0, 0), (0, 0, 0)), ((53, .putfield 162, 3, 10, 11, 5124, 0), (0, 86, 0)), ((56, .goto (-56), 3, 0, 0, 0, 0), (0, 0, 0))] (by decide +kernel) rfl ?_
  exact hx_pick [0, 1] h1

/-- endsPiece from 0 on -/
theorem hr186_0 {xs : List Int32} {n : Nat} {Q : hQ} {m : gx_M}
    (h1 : hxn xs n yp_m182 0 [(0, .inr (.inl 86))] [] m (fun r m' => hxn xs n yp_m186 4 [(0, .inr (.inl 86))] (hrs r ++ []) m' Q)) : hxn xs (n + 1) yp_m186 0 [(0, .inr (.inl 86))] [] m Q := by
  refine hx_blks (npc := 1) (L' := [(0, .inr (.inl 86))]) (st' := [.inr (.inl 86)]) (m' := m) ((0, .aload_n 0, 1, 0, 0, 0, 0), (0, 0, 0)) [] (by decide +kernel) rfl ?_
  exact hx_call (E := (1, .invokevirtual 165, 3, 182, 0, 6100, 0)) (M' := yp_m182) [.inr (.inl 86)] [] rfl (by decide +kernel) rfl ⟨rfl, rfl⟩ rfl rfl (hx_mono h1 (fun r m' h' => hx_pick [0] h'))

/-- endsPiece from 4 on -/
theorem hr186_4 {xs : List Int32} {n : Nat} {Q : hQ} {m : gx_M} {s0 : Int}
    (h1 : (s0 ≠ 10) → Q none m)
    (h2 : (s0 = 10) → hxn xs n yp_m178 0 [(0, .inr (.inl 86)), (1, .inl 10), (2, .inl 0)] [] m (fun r m' => hxn xs n yp_m186 16 [(0, .inr (.inl 86))] (hrs r ++ []) m' Q)) : hxn xs (n + 1) yp_m186 4 [(0, .inr (.inl 86))] [.inl s0] m Q := by
  refine hx_blks (npc := 6) (L' := [(0, .inr (.inl 86))]) (st' := [.inl 10, .inl s0]) (m' := m) ((4, .bipush 10, 2, 0, 0, 0, 0), (0, 0, 0)) [] (by decide +kernel) rfl ?_
  refine hx_cmp .ne 39 (by decide +kernel) (fun c1 => ?_) (fun c1 => ?_)
  · have c1 : s0 ≠ 10 := c1
    exact hx_ret0 (by decide +kernel) (h1 c1)
  · have c1 : s0 = 10 := by have h : ¬ (s0 ≠ 10) := c1; omega
    refine hx_blk (npc := 13) (L' := [(0, .inr (.inl 86))]) (st' := [.inl 0, .inl 10, .inr (.inl 86)]) (m' := m) [((9, .aload_n 0, 1, 0, 0, 0, 0), (0, 0, 0)), ((10, .bipush 10, 2, 0, 0, 0, 0), (0, 0, 0)), ((12, .iconst 0, 1, 0, 0, 0, 0), (0, 0, 0))] (by decide +kernel) rfl ?_
    exact hx_call (E := (13, .invokevirtual 168, 3, 178, 0, 6086, 0)) (M' := yp_m178) [.inr (.inl 86), .inl 10, .inl 0] [] rfl (by decide +kernel) rfl ⟨rfl, rfl⟩ rfl rfl (hx_mono (h2 c1) (fun r m' h' => hx_pick [0] h'))

/-- endsPiece from 16 on -/
theorem hr186_16 {xs : List Int32} {n : Nat} {Q : hQ} {m : gx_M}
    (h1 : hxn xs n yp_m186 0 [(0, .inr (.inl 86))] [] (gx_u (gx_u m 86 11 (gx_w ((m 86 11) - 1))) 86 9 (gx_w ((m 86 9) - 1))) Q) : hxn xs (n + 1) yp_m186 16 [(0, .inr (.inl 86))] [] m Q := by
  refine hx_blks (npc := 0) (L' := [(0, .inr (.inl 86))]) (st' := []) (m' := (gx_u (gx_u m 86 11 (gx_w ((m 86 11) - 1))) 86 9 (gx_w ((m 86 9) - 1)))) ((16, .aload_n 0, 1, 0, 0, 0, 0), (0, 0, 0)) [((17, .aload_n 0, 1, 0, 0, 0, 0), (0, 0, 0)), ((18, .getfield 162, 3, 10, 11, 5124, 0), (0, 86, 0)), ((21, .iconst 1, 1, 0, 0, 0, 0), (0, 0, 0)), ((22, .isub, 1, 0, 0, 0, 0), (0, 0, 0)), ((23, .putfield 162, 3, 10, 11, 5124, 0), (0, 86, 0)), ((26, .aload_n 0, 1, 0, 0, 0, 0), (0, 0, 0)), ((27, .aload_n 0, 1, 0, 0, 0, 0), (0, 0, 0)), ((28, .getfield 159, 3, 10, 9, 5122, 0), (0, 86, 0)), ((31, .iconst 1, 1, 0, 0, 0, 0), (0, 0, 0)), ((32, .isub, 1, 0, 0, 0, 0), (0, 0, 0)), ((33, .putfield 159, 3, 10, 9, 5122, 0), (0, 86, 0)), ((36, .goto (-36), 3, 0, 0, 0, 0), (0, 0, 0))] (by decide +kernel) rfl ?_
  exact hx_pick [0] h1

/-- lands from 0 on -/
theorem hr187_0 {xs : List Int32} {n : Nat} {Q : hQ} {m : gx_M} {x1 : Int}
    (h1 : hxn xs n yp_m182 0 [(0, .inr (.inl 86))] [] m (fun r m' => hxn xs n yp_m187 4 [(0, .inr (.inl 86)), (1, .inl x1)] (hrs r ++ []) m' Q)) : hxn xs (n + 1) yp_m187 0 [(0, .inr (.inl 86)), (1, .inl x1)] [] m Q := by
  refine hx_blks (npc := 1) (L' := [(0, .inr (.inl 86)), (1, .inl x1)]) (st' := [.inr (.inl 86)]) (m' := m) ((0, .aload_n 0, 1, 0, 0, 0, 0), (0, 0, 0)) [] (by decide +kernel) rfl ?_
  exact hx_call (E := (1, .invokevirtual 165, 3, 182, 0, 6100, 0)) (M' := yp_m182) [.inr (.inl 86)] [] rfl (by decide +kernel) rfl ⟨rfl, rfl⟩ rfl rfl (hx_mono h1 (fun r m' h' => hx_pick [0, 1] h'))

/-- lands from 4 on -/
theorem hr187_4 {xs : List Int32} {n : Nat} {Q : hQ} {m : gx_M} {x1 s0 : Int}
    (h1 : (s0 = 11) → hxn xs n yp_m187 0 [(0, .inr (.inl 86)), (1, .inl x1)] [] (gx_u (gx_u m 91 (Int.tmod (m 92 (gx_w ((m 86 11) - 1)).toNat) 1048576).toNat (gx_w ((gx_w (1048576 * (gx_w (Int.tdiv (m 91 (Int.tmod (m 92 (gx_w ((m 86 11) - 1)).toNat) 1048576).toNat) 1048576)))) + (m 86 10)))) 86 11 (gx_w ((m 86 11) - 1))) Q)
    (h2 : (s0 ≠ 11) → (x1 = 0) → Q none m)
    (h3 : (s0 ≠ 11) → (x1 ≠ 0) → hxn xs n yp_m182 0 [(0, .inr (.inl 86))] [] m (fun r m' => hxn xs n yp_m187 17 [(0, .inr (.inl 86)), (1, .inl x1)] (hrs r ++ []) m' Q)) : hxn xs (n + 1) yp_m187 4 [(0, .inr (.inl 86)), (1, .inl x1)] [.inl s0] m Q := by
  refine hx_blks (npc := 6) (L' := [(0, .inr (.inl 86)), (1, .inl x1)]) (st' := [.inl 11, .inl s0]) (m' := m) ((4, .bipush 11, 2, 0, 0, 0, 0), (0, 0, 0)) [] (by decide +kernel) rfl ?_
  refine hx_cmp .eq 22 (by decide +kernel) (fun c1 => ?_) (fun c1 => ?_)
  · have c1 : s0 = 11 := c1
    refine hx_blk (npc := 0) (L' := [(0, .inr (.inl 86)), (1, .inl x1), (2, .inl (Int.tmod (m 92 (gx_w ((m 86 11) - 1)).toNat) 1048576))]) (st' := []) (m' := (gx_u (gx_u m 91 (Int.tmod (m 92 (gx_w ((m 86 11) - 1)).toNat) 1048576).toNat (gx_w ((gx_w (1048576 * (gx_w (Int.tdiv (m 91 (Int.tmod (m 92 (gx_w ((m 86 11) - 1)).toNat) 1048576).toNat) 1048576)))) + (m 86 10)))) 86 11 (gx_w ((m 86 11) - 1)))) [((22, .aload_n 0, 1, 0, 0, 0, 0), (0, 0, 0)), ((23, .getfield 26, 3, 10, 15, 5128, 0), (1, 86, 92)), ((26, .aload_n 0, 1, 0, 0, 0, 0), (0, 0, 0)), ((27, .getfield 162, 3, 10, 11, 5124, 0), (0, 86, 0)), ((30, .iconst 1, 1, 0, 0, 0, 0), (0, 0, 0)), ((31, .isub, 1, 0, 0, 0, 0), (0, 0, 0)), ((32, .iaload, 1, 0, 0, 0, 0), (0, 92, 0)), ((33, .ldc 158, 2, 0, 0, 6077, 1048576), (0, 0, 0)), ((35, .irem, 1, 0, 0, 0, 0), (0, 0, 0)), ((36, .istore_n 2, 1, 0, 0, 0, 0), (0, 0, 0)), ((37, .aload_n 0, 1, 0, 0, 0, 0), (0, 0, 0)), ((38, .getfield 23, 3, 10, 14, 5127, 0), (1, 86, 91)), ((41, .iload_n 2, 1, 0, 0, 0, 0), (0, 0, 0)), ((42, .ldc 158, 2, 0, 0, 6077, 1048576), (0, 0, 0)), ((44, .aload_n 0, 1, 0, 0, 0, 0), (0, 0, 0)), ((45, .getfield 23, 3, 10, 14, 5127, 0), (1, 86, 91)), ((48, .iload_n 2, 1, 0, 0, 0, 0), (0, 0, 0)), ((49, .iaload, 1, 0, 0, 0, 0), (0, 91, 0)), ((50, .ldc 158, 2, 0, 0, 6077, 1048576), (0, 0, 0)), ((52, .idiv, 1, 0, 0, 0, 0), (0, 0, 0)), ((53, .imul, 1, 0, 0, 0, 0), (0, 0, 0)), ((54, .aload_n 0, 1, 0, 0, 0, 0), (0, 0, 0)), ((55, .getfield 155, 3, 10, 10, 5123, 0), (0, 86, 0)), ((58, .iadd, 1, 0, 0, 0, 0), (0, 0, 0)), ((59, .iastore, 1, 0, 0, 0, 0), (0, 91, 0)), ((60, .aload_n 0, 1, 0, 0, 0, 0), (0, 0, 0)), ((61, .aload_n 0, 1, 0, 0, 0, 0), (0, 0, 0)), ((62, .getfield 162, 3, 10, 11, 5124, 0), (0, 86, 0)), ((65, .iconst 1, 1, 0, 0, 0, 0), (0, 0, 0)), ((66, .isub, 1, 0, 0, 0, 0), (0, 0, 0)), ((67, .putfield 162, 3, 10, 11, 5124, 0), (0, 86, 0)), ((70, .goto (-70), 3, 0, 0, 0, 0), (0, 0, 0))] (by decide +kernel) rfl ?_
    exact hx_pick [0, 1] (h1 c1)
  · have c1 : s0 ≠ 11 := c1
    refine hx_blk (npc := 10) (L' := [(0, .inr (.inl 86)), (1, .inl x1)]) (st' := [.inl x1]) (m' := m) [((9, .iload_n 1, 1, 0, 0, 0, 0), (0, 0, 0))] (by decide +kernel) rfl ?_
    refine hx_if .eq 73 (by decide +kernel) (fun c2 => ?_) (fun c2 => ?_)
    · have c2 : x1 = 0 := c2
      exact hx_ret0 (by decide +kernel) (h2 c1 c2)
    · have c2 : x1 ≠ 0 := c2
      refine hx_blk (npc := 14) (L' := [(0, .inr (.inl 86)), (1, .inl x1)]) (st' := [.inr (.inl 86)]) (m' := m) [((13, .aload_n 0, 1, 0, 0, 0, 0), (0, 0, 0))] (by decide +kernel) rfl ?_
      exact hx_call (E := (14, .invokevirtual 165, 3, 182, 0, 6100, 0)) (M' := yp_m182) [.inr (.inl 86)] [] rfl (by decide +kernel) rfl ⟨rfl, rfl⟩ rfl rfl (hx_mono (h3 c1 c2) (fun r m' h' => hx_pick [0, 1] h'))

/-- lands from 17 on -/
theorem hr187_17 {xs : List Int32} {n : Nat} {Q : hQ} {m : gx_M} {x1 s0 : Int}
    (h1 : (s0 ≠ 12) → Q none m)
    (h2 : (s0 = 12) → hxn xs n yp_m187 0 [(0, .inr (.inl 86)), (1, .inl x1)] [] (gx_u (gx_u m 91 (Int.tmod (m 92 (gx_w ((m 86 11) - 1)).toNat) 1048576).toNat (gx_w ((gx_w (1048576 * (gx_w (Int.tdiv (m 91 (Int.tmod (m 92 (gx_w ((m 86 11) - 1)).toNat) 1048576).toNat) 1048576)))) + (m 86 10)))) 86 11 (gx_w ((m 86 11) - 1))) Q) : hxn xs (n + 1) yp_m187 17 [(0, .inr (.inl 86)), (1, .inl x1)] [.inl s0] m Q := by
  refine hx_blks (npc := 19) (L' := [(0, .inr (.inl 86)), (1, .inl x1)]) (st' := [.inl 12, .inl s0]) (m' := m) ((17, .bipush 12, 2, 0, 0, 0, 0), (0, 0, 0)) [] (by decide +kernel) rfl ?_
  refine hx_cmp .ne 73 (by decide +kernel) (fun c1 => ?_) (fun c1 => ?_)
  · have c1 : s0 ≠ 12 := c1
    exact hx_ret0 (by decide +kernel) (h1 c1)
  · have c1 : s0 = 12 := by have h : ¬ (s0 ≠ 12) := c1; omega
    refine hx_blk (npc := 0) (L' := [(0, .inr (.inl 86)), (1, .inl x1), (2, .inl (Int.tmod (m 92 (gx_w ((m 86 11) - 1)).toNat) 1048576))]) (st' := []) (m' := (gx_u (gx_u m 91 (Int.tmod (m 92 (gx_w ((m 86 11) - 1)).toNat) 1048576).toNat (gx_w ((gx_w (1048576 * (gx_w (Int.tdiv (m 91 (Int.tmod (m 92 (gx_w ((m 86 11) - 1)).toNat) 1048576).toNat) 1048576)))) + (m 86 10)))) 86 11 (gx_w ((m 86 11) - 1)))) [((22, .aload_n 0, 1, 0, 0, 0, 0), (0, 0, 0)), ((23, .getfield 26, 3, 10, 15, 5128, 0), (1, 86, 92)), ((26, .aload_n 0, 1, 0, 0, 0, 0), (0, 0, 0)), ((27, .getfield 162, 3, 10, 11, 5124, 0), (0, 86, 0)), ((30, .iconst 1, 1, 0, 0, 0, 0), (0, 0, 0)), ((31, .isub, 1, 0, 0, 0, 0), (0, 0, 0)), ((32, .iaload, 1, 0, 0, 0, 0), (0, 92, 0)), ((33, .ldc 158, 2, 0, 0, 6077, 1048576), (0, 0, 0)), ((35, .irem, 1, 0, 0, 0, 0), (0, 0, 0)), ((36, .istore_n 2, 1, 0, 0, 0, 0), (0, 0, 0)), ((37, .aload_n 0, 1, 0, 0, 0, 0), (0, 0, 0)), ((38, .getfield 23, 3, 10, 14, 5127, 0), (1, 86, 91)), ((41, .iload_n 2, 1, 0, 0, 0, 0), (0, 0, 0)), ((42, .ldc 158, 2, 0, 0, 6077, 1048576), (0, 0, 0)), ((44, .aload_n 0, 1, 0, 0, 0, 0), (0, 0, 0)), ((45, .getfield 23, 3, 10, 14, 5127, 0), (1, 86, 91)), ((48, .iload_n 2, 1, 0, 0, 0, 0), (0, 0, 0)), ((49, .iaload, 1, 0, 0, 0, 0), (0, 91, 0)), ((50, .ldc 158, 2, 0, 0, 6077, 1048576), (0, 0, 0)), ((52, .idiv, 1, 0, 0, 0, 0), (0, 0, 0)), ((53, .imul, 1, 0, 0, 0, 0), (0, 0, 0)), ((54, .aload_n 0, 1, 0, 0, 0, 0), (0, 0, 0)), ((55, .getfield 155, 3, 10, 10, 5123, 0), (0, 86, 0)), ((58, .iadd, 1, 0, 0, 0, 0), (0, 0, 0)), ((59, .iastore, 1, 0, 0, 0, 0), (0, 91, 0)), ((60, .aload_n 0, 1, 0, 0, 0, 0), (0, 0, 0)), ((61, .aload_n 0, 1, 0, 0, 0, 0), (0, 0, 0)), ((62, .getfield 162, 3, 10, 11, 5124, 0), (0, 86, 0)), ((65, .iconst 1, 1, 0, 0, 0, 0), (0, 0, 0)), ((66, .isub, 1, 0, 0, 0, 0), (0, 0, 0)), ((67, .putfield 162, 3, 10, 11, 5124, 0), (0, 86, 0)), ((70, .goto (-70), 3, 0, 0, 0, 0), (0, 0, 0))] (by decide +kernel) rfl ?_
    exact hx_pick [0, 1] (h2 c1)

/-- hasOpenSum from 0 on -/
theorem hr183_0 {xs : List Int32} {n : Nat} {Q : hQ} {m : gx_M} {x1 : Int}
    (h1 : hxn xs n yp_m183 2 [(0, .inr (.inl 86)), (2, .inl x1)] [] m Q) : hxn xs (n + 1) yp_m183 0 [(0, .inr (.inl 86)), (1, .inl x1)] [] m Q := by
  refine hx_blks (npc := 2) (L' := [(0, .inr (.inl 86)), (1, .inl x1), (2, .inl x1)]) (st' := []) (m' := m) ((0, .iload_n 1, 1, 0, 0, 0, 0), (0, 0, 0)) [((1, .istore_n 2, 1, 0, 0, 0, 0), (0, 0, 0))] (by decide +kernel) rfl ?_
  exact hx_pick [0, 2] h1

/-- hasOpenSum from 2 on -/
theorem hr183_2 {xs : List Int32} {n : Nat} {Q : hQ} {m : gx_M} {x2 : Int} (r_x2 : 0 ≤ x2 ∧ x2 ≤ 300)
    (h1 : ((m 86 11) ≤ x2) → Q (some (.inl 0)) m)
    (h2 : (x2 < (m 86 11)) → ((gx_w (Int.tdiv (m 92 (x2).toNat) 1048576)) ≠ 14) → hxn xs n yp_m183 2 [(0, .inr (.inl 86)), (2, .inl (x2 + 1))] [] m Q)
    (h3 : (x2 < (m 86 11)) → ((gx_w (Int.tdiv (m 92 (x2).toNat) 1048576)) = 14) → Q (some (.inl 1)) m) : hxn xs (n + 1) yp_m183 2 [(0, .inr (.inl 86)), (2, .inl x2)] [] m Q := by
  refine hx_blks (npc := 7) (L' := [(0, .inr (.inl 86)), (2, .inl x2)]) (st' := [.inl (m 86 11), .inl x2]) (m' := m) ((2, .iload_n 2, 1, 0, 0, 0, 0), (0, 0, 0)) [((3, .aload_n 0, 1, 0, 0, 0, 0), (0, 0, 0)), ((4, .getfield 162, 3, 10, 11, 5124, 0), (0, 86, 0))] (by decide +kernel) rfl ?_
  refine hx_cmp .ge 32 (by decide +kernel) (fun c1 => ?_) (fun c1 => ?_)
  · have c1 : (m 86 11) ≤ x2 := c1
    refine hx_blk (npc := 33) (L' := [(0, .inr (.inl 86)), (2, .inl x2)]) (st' := [.inl 0]) (m' := m) [((32, .iconst 0, 1, 0, 0, 0, 0), (0, 0, 0))] (by decide +kernel) rfl ?_
    exact hx_reti (by decide +kernel) (h1 c1)
  · have c1 : x2 < (m 86 11) := by have h : ¬ ((m 86 11) ≤ x2) := c1; omega
    refine hx_blk (npc := 21) (L' := [(0, .inr (.inl 86)), (2, .inl x2)]) (st' := [.inl 14, .inl (gx_w (Int.tdiv (m 92 (x2).toNat) 1048576))]) (m' := m) [((10, .aload_n 0, 1, 0, 0, 0, 0), (0, 0, 0)), ((11, .getfield 26, 3, 10, 15, 5128, 0), (1, 86, 92)), ((14, .iload_n 2, 1, 0, 0, 0, 0), (0, 0, 0)), ((15, .iaload, 1, 0, 0, 0, 0), (0, 92, 0)), ((16, .ldc 158, 2, 0, 0, 6077, 1048576), (0, 0, 0)), ((18, .idiv, 1, 0, 0, 0, 0), (0, 0, 0)), ((19, .bipush 14, 2, 0, 0, 0, 0), (0, 0, 0))] (by decide +kernel) rfl ?_
    refine hx_cmp .ne 26 (by decide +kernel) (fun c2 => ?_) (fun c2 => ?_)
    · have c2 : (gx_w (Int.tdiv (m 92 (x2).toNat) 1048576)) ≠ 14 := c2
      have e1 : gx_w (x2 + 1) = x2 + 1 := gx_w_id (by omega) (by omega)
      refine hx_blk (npc := 2) (L' := [(0, .inr (.inl 86)), (2, .inl (gx_w (x2 + 1)))]) (st' := []) (m' := m) [((26, .iinc 2 1, 3, 0, 0, 0, 0), (0, 0, 0)), ((29, .goto (-27), 3, 0, 0, 0, 0), (0, 0, 0))] (by decide +kernel) rfl ?_
      rw [e1]
      exact hx_pick [0, 2] (h2 c1 c2)
    · have c2 : (gx_w (Int.tdiv (m 92 (x2).toNat) 1048576)) = 14 := by have h : ¬ ((gx_w (Int.tdiv (m 92 (x2).toNat) 1048576)) ≠ 14) := c2; omega
      refine hx_blk (npc := 25) (L' := [(0, .inr (.inl 86)), (2, .inl x2)]) (st' := [.inl 1]) (m' := m) [((24, .iconst 1, 1, 0, 0, 0, 0), (0, 0, 0))] (by decide +kernel) rfl ?_
      exact hx_reti (by decide +kernel) (h3 c1 c2)
end
section
/-! the text as the reference reads it: its code, what waits -/
def lop (s : Int) : Int := if s = 0 then 0 else if s = 1 then 1 else if s = 43 then 2 else if s = 45 then 3 else if s = 42 then 4 else if s = 47 then 5 else if s = 37 then 6 else if s = 60 then 7 else if s = 62 then 8 else if s = 61 then 9 else if s = 33 then 10 else if s = 38 then 11 else 12
def lfa (c : Int) : Int := if c = 116 then 0 else if c = 121 then 1 else if c = 100 then 2 else if c = 108 then 3 else if c = 111 then 4 else if c = 115 then 5 else if c = 109 then 6 else if c = 107 then 7 else if c = 104 then 8 else if c = 112 then 9 else if c = 97 then 10 else if c = 99 then 11 else if c = 101 then 12 else if c = 122 then 13 else -1
def larg (c : Int × Int) : Int := if c.1 = 1 then lfa c.2 else c.2
def lenc (c : Int × Int) : Int := 1048576 * lop c.1 + larg c
theorem lop_bd (s : Int) : 0 ≤ lop s ∧ lop s ≤ 12 := by
  unfold lop
  omega
def rTx (T : Nat → Int) (L p : Nat) (m : gx_M) : Prop := m 86 5 = (p : Int) ∧ m 86 6 = (L : Int) ∧ ∀ k, k < L → gx_and (m 90 k) 255 = T k
def rKd (K : hCode) (m : gx_M) : Prop := m 86 10 = (K.length : Int) ∧ ∀ i c, K[i]? = some c → m 91 i = lenc c
def rWd (W : hCode) (m : gx_M) : Prop := m 86 11 = (W.length : Int) ∧ ∀ i q, W[i]? = some q → m 92 i = 1048576 * q.1 + q.2 ∧ 0 ≤ q.1 ∧ q.1 ≤ 14 ∧ 0 ≤ q.2 ∧ q.2 ≤ 240
def rFr (m0 m : gx_M) : Prop := (∀ c, c ≠ 86 → c ≠ 91 → c ≠ 92 → m c = m0 c) ∧ ∀ k, k ≠ 5 → k ≠ 7 → k ≠ 8 → k ≠ 9 → k ≠ 10 → k ≠ 11 → m 86 k = m0 86 k
def rS (T : Nat → Int) (L : Nat) (m0 : gx_M) (p : Nat) (K W : hCode) (o : Nat) (m : gx_M) : Prop := rTx T L p m ∧ rKd K m ∧ rWd W m ∧ m 86 9 = (o : Int) ∧ rFr m0 m ∧ p ≤ L ∧ L ≤ 240 ∧ K.length ≤ 240 ∧ W.length ≤ 240 ∧ o ≤ 6
def rF (m0 : gx_M) (f : Int) (m : gx_M) : Prop := m 86 7 = f ∧ rFr m0 m
def wtop (W : hCode) : Int := match W.reverse with
  | [] => -1
  | q :: _ => q.1
theorem wtop_nil : wtop [] = -1 := rfl
theorem wtop_app (W : hCode) (q : Int × Int) : wtop (W ++ [q]) = q.1 := by
  unfold wtop
  rw [List.reverse_append]
  rfl
theorem lw_cases : ∀ W : hCode, W = [] ∨ ∃ V q, W = V ++ [q]
  | [] => .inl rfl
  | a :: r => by
    rcases lw_cases r with rfl | ⟨V, q, rfl⟩
    · exact .inr ⟨[], a, rfl⟩
    · exact .inr ⟨a :: V, q, rfl⟩
/-- a state out of another one, field by field -/
theorem rS_of {T : Nat → Int} {L p p' o o' : Nat} {m0 m m' : gx_M} {K K' W W' : hCode} (hS : rS T L m0 p K W o m) (h5 : m' 86 5 = (p' : Int)) (h10 : m' 86 10 = (K'.length : Int)) (hK : ∀ i c, K'[i]? = some c → m' 91 i = lenc c) (h11 : m' 86 11 = (W'.length : Int)) (hW : ∀ i q, W'[i]? = some q → m' 92 i = 1048576 * q.1 + q.2 ∧ 0 ≤ q.1 ∧ q.1 ≤ 14 ∧ 0 ≤ q.2 ∧ q.2 ≤ 240) (h9 : m' 86 9 = (o' : Int)) (hf : ∀ c k, c ≠ 91 → c ≠ 92 → ¬ (c = 86 ∧ (k = 5 ∨ k = 7 ∨ k = 8 ∨ k = 9 ∨ k = 10 ∨ k = 11)) → m' c k = m c k) (a1 : p' ≤ L) (a2 : K'.length ≤ 240) (a3 : W'.length ≤ 240) (a4 : o' ≤ 6) : rS T L m0 p' K' W' o' m' := by
  obtain ⟨⟨t1, t2, t3⟩, -, -, -, ⟨f1, f2⟩, b1, b2, -, -, -⟩ := hS
  refine ⟨⟨h5, ?_, fun k hk => ?_⟩, ⟨h10, hK⟩, ⟨h11, hW⟩, h9, ⟨fun c c1 c2 c3 => ?_, fun k k1 k2 k3 k4 k5 k6 => ?_⟩, a1, b2, a2, a3, a4⟩
  · rw [hf 86 6 (by omega) (by omega) (by omega)]
    exact t2
  · rw [hf 90 k (by omega) (by omega) (by omega)]
    exact t3 k hk
  · funext k
    rw [hf c k c2 c3 (by omega)]
    exact congrFun (f1 c c1 c2 c3) k
  · rw [hf 86 k (by omega) (by omega) (by omega)]
    exact f2 k k1 k2 k3 k4 k5 k6
section RT
variable {xs : List Int32} {n : Nat} {Q : hQ} {T : Nat → Int} {L p o : Nat} {m0 m : gx_M} {K W : hCode}
theorem rs_pl (hS : rS T L m0 p K W o m) : m 86 5 = (p : Int) := hS.1.1
theorem rs_K (hS : rS T L m0 p K W o m) : m 86 10 = (K.length : Int) := hS.2.1.1
theorem rs_W (hS : rS T L m0 p K W o m) : m 86 11 = (W.length : Int) := hS.2.2.1.1
theorem rs_o (hS : rS T L m0 p K W o m) : m 86 9 = (o : Int) := hS.2.2.2.1
theorem rs_le (hS : rS T L m0 p K W o m) : p ≤ L := hS.2.2.2.2.2.1
theorem rs_L (hS : rS T L m0 p K W o m) : L ≤ 240 := hS.2.2.2.2.2.2.1
theorem rs_kl (hS : rS T L m0 p K W o m) : K.length ≤ 240 := hS.2.2.2.2.2.2.2.1
theorem rs_wl (hS : rS T L m0 p K W o m) : W.length ≤ 240 := hS.2.2.2.2.2.2.2.2.1
theorem rs_ol (hS : rS T L m0 p K W o m) : o ≤ 6 := hS.2.2.2.2.2.2.2.2.2
theorem rs_he (hS : rS T L m0 p K W o m) : aHere m = tx T L p := by
  obtain ⟨⟨t1, t2, t3⟩, -, -, -, -, b1, -⟩ := hS
  unfold aHere
  rw [t1, t2]
  by_cases c : p < L
  · rw [if_neg (by omega), Int.toNat_natCast, t3 p c, tx_eq c]
  · rw [if_pos (by omega), tx_no (by omega)]
theorem rs_fr (hS : rS T L m0 p K W o m) : rFr m0 m := hS.2.2.2.2.1
theorem rs172 (hS : rS T L m0 p K W o m) {a : Int} (ha : 0 ≤ a ∧ a ≤ 9) (h : ∀ m', rF m0 (lfl a p) m' → Q (some (.inl 0)) m') : hxn xs n yp_m172 0 [(0, .inr (.inl 86)), (1, .inl a), (2, .inl (p : Int))] [] m Q := by
  have hp := rs_le hS
  have hL := rs_L hS
  obtain ⟨f1, f2⟩ := rs_fr hS
  refine hx_dn (hs172 (h _ ⟨?_, fun c c1 c2 c3 => ?_, fun k k1 k2 k3 k4 k5 k6 => ?_⟩))
  · rw [gx_u_self, gx_w_id (x := (-1000) * a) (by omega) (by omega), gx_w_id (by omega) (by omega)]
    rfl
  · funext k
    rw [gx_u_ne (by omega)]
    exact congrFun (f1 c c1 c2 c3) k
  · rw [gx_u_ne (by omega)]
    exact f2 k k1 k2 k3 k4 k5 k6
/-- a step on -/
theorem rs_st (hS : rS T L m0 p K W o m) (hp : p < L) : rS T L m0 (p + 1) K W o (gx_u m 86 5 (gx_w (m 86 5 + 1))) := by
  have hL := rs_L hS
  refine rS_of hS ?_ ?_ (fun i c hc => ?_) ?_ (fun i q hq => ?_) ?_ (fun c k c1 c2 c3 => ?_) (by omega) (rs_kl hS) (rs_wl hS) (rs_ol hS)
  · rw [gx_u_self, rs_pl hS, gx_w_id (by omega) (by omega)]
    omega
  · rw [gx_u_ne (by omega)]
    exact rs_K hS
  · rw [gx_u_ne (by omega)]
    exact hS.2.1.2 i c hc
  · rw [gx_u_ne (by omega)]
    exact rs_W hS
  · rw [gx_u_ne (by omega)]
    exact hS.2.2.1.2 i q hq
  · rw [gx_u_ne (by omega)]
    exact rs_o hS
  · rw [gx_u_ne (by omega)]
/-- a row of code -/
theorem rs178 (hS : rS T L m0 p K W o m) {a v : Int} {c : Int × Int} (hc : lenc c = 1048576 * a + v) (ha : 0 ≤ a ∧ a ≤ 14) (hv : 0 ≤ v ∧ v ≤ 100000) (hk : K.length < 240) (h : ∀ m', rS T L m0 p (K ++ [c]) W o m' → Q none m') : hxn xs n yp_m178 0 [(0, .inr (.inl 86)), (1, .inl a), (2, .inl v)] [] m Q := by
  refine hx_dn (hr178_0 (h _ ?_))
  rw [rs_K hS, Int.toNat_natCast, gx_w_id (x := 1048576 * a) (by omega) (by omega), gx_w_id (x := 1048576 * a + v) (by omega) (by omega), gx_w_id (by omega) (by omega)]
  refine rS_of hS ?_ ?_ (fun i d hd => ?_) ?_ (fun i q hq => ?_) ?_ (fun c k c1 c2 c3 => ?_) (rs_le hS) (by rw [List.length_append, List.length_singleton]; omega) (rs_wl hS) (rs_ol hS)
  · rw [gx_u_ne (by omega), gx_u_ne (by omega)]
    exact rs_pl hS
  · rw [gx_u_self, List.length_append, List.length_singleton]
    omega
  · rcases lk_app hd with hd | ⟨rfl, rfl⟩
    · have := lk_lt hd
      rw [gx_u_ne (by omega), gx_u_ne (by omega)]
      exact hS.2.1.2 i d hd
    · rw [gx_u_ne (by omega), gx_u_self, hc]
  · rw [gx_u_ne (by omega), gx_u_ne (by omega)]
    exact rs_W hS
  · rw [gx_u_ne (by omega), gx_u_ne (by omega)]
    exact hS.2.2.1.2 i q hq
  · rw [gx_u_ne (by omega), gx_u_ne (by omega)]
    exact rs_o hS
  · rw [gx_u_ne (by omega), gx_u_ne (by omega)]
/-- one more that waits -/
theorem rs_pu (hS : rS T L m0 p K W o m) {a v : Int} (ha : 0 ≤ a ∧ a ≤ 14) (hv : 0 ≤ v ∧ v ≤ 240) (hw : W.length < 240) : rS T L m0 p K (W ++ [(a, v)]) o (gx_u (gx_u m 92 (m 86 11).toNat (1048576 * a + v)) 86 11 (gx_w (m 86 11 + 1))) := by
  rw [rs_W hS, Int.toNat_natCast, gx_w_id (by omega) (by omega)]
  refine rS_of hS ?_ ?_ (fun i d hd => ?_) ?_ (fun i q hq => ?_) ?_ (fun c k c1 c2 c3 => ?_) (rs_le hS) (rs_kl hS) (by rw [List.length_append, List.length_singleton]; omega) (rs_ol hS)
  · rw [gx_u_ne (by omega), gx_u_ne (by omega)]
    exact rs_pl hS
  · rw [gx_u_ne (by omega), gx_u_ne (by omega)]
    exact rs_K hS
  · rw [gx_u_ne (by omega), gx_u_ne (by omega)]
    exact hS.2.1.2 i d hd
  · rw [gx_u_self, List.length_append, List.length_singleton]
    omega
  · rcases lk_app hq with hq | ⟨rfl, rfl⟩
    · have := lk_lt hq
      rw [gx_u_ne (by omega), gx_u_ne (by omega)]
      exact hS.2.2.1.2 i q hq
    · rw [gx_u_ne (by omega), gx_u_self]
      exact ⟨rfl, ha.1, ha.2, hv.1, hv.2⟩
  · rw [gx_u_ne (by omega), gx_u_ne (by omega)]
    exact rs_o hS
  · rw [gx_u_ne (by omega), gx_u_ne (by omega)]
/-- the last one that waited is gone -/
theorem rs_po {q : Int × Int} (hS : rS T L m0 p K (W ++ [q]) o m) : rS T L m0 p K W o (gx_u m 86 11 (gx_w (m 86 11 - 1))) := by
  have hw := rs_wl hS
  rw [List.length_append, List.length_singleton] at hw
  have e : m 86 11 - 1 = (W.length : Int) := by
    rw [rs_W hS, List.length_append, List.length_singleton]
    omega
  rw [e, gx_w_id (by omega) (by omega)]
  refine rS_of hS ?_ ?_ (fun i d hd => ?_) ?_ (fun i r hr => ?_) ?_ (fun c k c1 c2 c3 => ?_) (rs_le hS) (rs_kl hS) (by omega) (rs_ol hS)
  · rw [gx_u_ne (by omega)]
    exact rs_pl hS
  · rw [gx_u_ne (by omega)]
    exact rs_K hS
  · rw [gx_u_ne (by omega)]
    exact hS.2.1.2 i d hd
  · rw [gx_u_self]
  · rw [gx_u_ne (by omega)]
    exact hS.2.2.1.2 i r (by rw [lk_appl (lk_lt hr)]; exact hr)
  · rw [gx_u_ne (by omega)]
    exact rs_o hS
  · rw [gx_u_ne (by omega)]
/-- how many are open -/
theorem rs_op (hS : rS T L m0 p K W o m) {o' : Nat} {v : Int} (hv : v = (o' : Int)) (ho : o' ≤ 6) : rS T L m0 p K W o' (gx_u m 86 9 v) := by
  refine rS_of hS ?_ ?_ (fun i d hd => ?_) ?_ (fun i r hr => ?_) ?_ (fun c k c1 c2 c3 => ?_) (rs_le hS) (rs_kl hS) (rs_wl hS) ho
  · rw [gx_u_ne (by omega)]
    exact rs_pl hS
  · rw [gx_u_ne (by omega)]
    exact rs_K hS
  · rw [gx_u_ne (by omega)]
    exact hS.2.1.2 i d hd
  · rw [gx_u_ne (by omega)]
    exact rs_W hS
  · rw [gx_u_ne (by omega)]
    exact hS.2.2.1.2 i r hr
  · rw [gx_u_self]
    exact hv
  · rw [gx_u_ne (by omega)]
theorem rs182 (hS : rS T L m0 p K W o m) (h : Q (some (.inl (wtop W))) m) : hxn xs n yp_m182 0 [(0, .inr (.inl 86))] [] m Q := by
  have hw := rs_wl hS
  have e := rs_W hS
  refine hx_dn (hr182_0 (fun c => ?_) (fun c => ?_))
  · rcases lw_cases W with rfl | ⟨V, q, rfl⟩
    · exact absurd e c
    · rw [List.length_append, List.length_singleton] at e hw
      obtain ⟨e2, b1, b2, b3, b4⟩ := hS.2.2.1.2 V.length q lk_last
      have ei : (gx_w (m 86 11 - 1)).toNat = V.length := by
        rw [e, gx_w_id (by omega) (by omega)]
        omega
      rw [wtop_app] at h
      rw [ei, e2]
      have ed : Int.tdiv (1048576 * q.1 + q.2) 1048576 = q.1 := by
        rw [Int.tdiv_eq_ediv_of_nonneg (by omega)]
        omega
      rw [ed, gx_w_id (by omega) (by omega)]
      exact h
  · rcases lw_cases W with rfl | ⟨V, q, rfl⟩
    · rw [wtop_nil] at h
      exact h
    · rw [List.length_append, List.length_singleton] at e
      exact absurd c (by omega)
theorem rs175 {a : Int} (hS : rS T L m0 p K W o m) (ha : 0 ≤ a ∧ a ≤ 14) (hp : p < L) (hw : W.length < 240) (h1 : o < 6 → ∀ m', rS T L m0 (p + 1) K (W ++ [(a, 0)]) (o + 1) m' → Q (some (.inl 1)) m') (h0 : o = 6 → ∀ m', rF m0 (lfl 5 p) m' → Q (some (.inl 0)) m') : hxn xs n yp_m175 0 [(0, .inr (.inl 86)), (1, .inl a)] [] m Q := by
  have ho := rs_o hS
  have hol := rs_ol hS
  refine hx_dn (hr175_0 (fun c => ?_) (fun c => ?_))
  · have ho6 : o < 6 := by omega
    rw [gx_w_id (x := 1048576 * a) (by omega) (by omega)]
    have s1 := rs_op hS (o' := o + 1) (v := gx_w (m 86 9 + 1)) (by rw [ho, gx_w_id (by omega) (by omega)]; omega) (by omega)
    have s2 := rs_pu s1 ha (v := 0) (by omega) hw
    have s3 := rs_st s2 hp
    have e1 : gx_u m 86 9 (gx_w (m 86 9 + 1)) 86 11 = m 86 11 := gx_u_ne (by omega)
    rw [e1, Int.add_zero] at s3
    have e2 : gx_u (gx_u (gx_u m 86 9 (gx_w (m 86 9 + 1))) 92 (m 86 11).toNat (1048576 * a)) 86 11 (gx_w (m 86 11 + 1)) 86 5 = m 86 5 := by
      rw [gx_u_ne (by omega), gx_u_ne (by omega), gx_u_ne (by omega)]
    rw [e2] at s3
    exact h1 ho6 _ s3
  · rw [rs_pl hS]
    exact rs172 hS (by decide) (fun m' hf => hx_dn (hr175_18 (h0 (by omega) m' hf)))
theorem rs188 {a : Int} {c : Int × Int} (hS : rS T L m0 p K W o m) (hc : lenc c = 1048576 * a + 0) (ha : 0 ≤ a ∧ a ≤ 14) (hp : p < L) (hk : K.length < 240) (hw : W.length < 240) (h : ∀ m', rS T L m0 (p + 1) (K ++ [c]) (W ++ [(a, (K.length : Int))]) o m' → Q none m') : hxn xs n yp_m188 0 [(0, .inr (.inl 86)), (1, .inl a)] [] m Q := by
  refine hx_dn (hr188_0 ?_)
  have s1 := rs_pu hS ha (v := (K.length : Int)) (by omega) hw
  rw [gx_w_id (x := 1048576 * a) (by omega) (by omega), rs_K hS, gx_w_id (x := 1048576 * a + (K.length : Int)) (by omega) (by omega)]
  refine rs178 s1 hc ha (by omega) hk (fun m2 s2 => ?_)
  show hxn xs n yp_m188 34 [(0, .inr (.inl 86))] [] m2 Q
  exact hx_dn (hr188_34 (h _ (rs_st s2 hp)))
/-! signs that wait are written -/
theorem rs181_p {a s : Int} (hS : rS T L m0 p K (W ++ [(lop s, 0)]) o m) (hs : isPr s ∨ (a ≠ 0 ∧ isSm s)) (hk : K.length < 240) (h : ∀ m', rS T L m0 p (K ++ [(s, 0)]) W o m' → hxn xs n yp_m181 0 [(0, .inr (.inl 86)), (1, .inl a)] [] m' Q) : hxn xs n yp_m181 0 [(0, .inr (.inl 86)), (1, .inl a)] [] m Q := by
  have hb := lop_bd s
  have hen : lenc (s, 0) = 1048576 * lop s + 0 := by
    unfold lenc larg
    rcases hs with hs | ⟨-, hs⟩
    · unfold isPr at hs
      rw [if_neg (by dsimp only; omega)]
    · unfold isSm at hs
      rw [if_neg (by dsimp only; omega)]
  have fin : hxn xs n yp_m182 0 [(0, .inr (.inl 86))] [] m (fun r m' => hxn xs n yp_m181 42 [(0, .inr (.inl 86)), (1, .inl a)] (hrs r ++ [.inr (.inl 86)]) m' Q) := by
    refine rs182 hS ?_
    rw [wtop_app]
    show hxn xs n yp_m181 42 [(0, .inr (.inl 86)), (1, .inl a)] [.inl (lop s), .inr (.inl 86)] m Q
    refine hx_dn (hr181_42 ?_)
    refine rs178 hS hen (by omega) (by omega) hk (fun m2 s2 => ?_)
    show hxn xs n yp_m181 46 [(0, .inr (.inl 86)), (1, .inl a)] [] m2 Q
    exact hx_dn (hr181_46 (h _ (rs_po s2)))
  refine hx_dn (hr181_0 (rs182 hS ?_))
  rw [wtop_app]
  show hxn xs n yp_m181 4 [(0, .inr (.inl 86)), (1, .inl a)] [.inl (lop s)] m Q
  have cas : (isPr s ∧ 4 ≤ lop s ∧ lop s ≤ 6) ∨ (a ≠ 0 ∧ isSm s ∧ (lop s = 2 ∨ lop s = 3)) := by
    rcases hs with hs | ⟨h1, hs⟩
    · refine .inl ⟨hs, ?_⟩
      unfold isPr at hs
      rcases hs with rfl | rfl | rfl <;> decide
    · refine .inr ⟨h1, hs, ?_⟩
      unfold isSm at hs
      rcases hs with rfl | rfl <;> decide
  rcases cas with ⟨-, c1, c2⟩ | ⟨c1, -, c2⟩
  · refine hx_dn (hr181_4 (fun c => absurd c (by omega)) (fun c => absurd c (by omega)) (fun _ => rs182 hS ?_))
    rw [wtop_app]
    show hxn xs n yp_m181 12 [(0, .inr (.inl 86)), (1, .inl a)] [.inl (lop s)] m Q
    exact hx_dn (hr181_12 (fun _ => fin) (fun c => absurd c (by omega)) (fun c => absurd c (by omega)))
  · refine hx_dn (hr181_4 (fun _ c => absurd c c1) (fun _ _ => rs182 hS ?_) (fun c => absurd c (by omega)))
    rw [wtop_app]
    show hxn xs n yp_m181 25 [(0, .inr (.inl 86)), (1, .inl a)] [.inl (lop s)] m Q
    refine hx_dn (hr181_25 (fun _ => fin) (fun c => rs182 hS ?_))
    rw [wtop_app]
    show hxn xs n yp_m181 33 [(0, .inr (.inl 86)), (1, .inl a)] [.inl (lop s)] m Q
    exact hx_dn (hr181_33 (fun c' => absurd c' (by omega)) (fun _ => fin))
theorem rs181_s {a : Int} (hS : rS T L m0 p K W o m) (h1 : ¬ (4 ≤ wtop W ∧ wtop W ≤ 6)) (h2 : a ≠ 0 → wtop W ≠ 2 ∧ wtop W ≠ 3) (h : Q none m) : hxn xs n yp_m181 0 [(0, .inr (.inl 86)), (1, .inl a)] [] m Q := by
  refine hx_dn (hr181_0 (rs182 hS ?_))
  show hxn xs n yp_m181 4 [(0, .inr (.inl 86)), (1, .inl a)] [.inl (wtop W)] m Q
  have low : a ≠ 0 → hxn xs n yp_m182 0 [(0, .inr (.inl 86))] [] m (fun r m' => hxn xs n yp_m181 25 [(0, .inr (.inl 86)), (1, .inl a)] (hrs r ++ []) m' Q) := fun c => by
    refine rs182 hS ?_
    show hxn xs n yp_m181 25 [(0, .inr (.inl 86)), (1, .inl a)] [.inl (wtop W)] m Q
    refine hx_dn (hr181_25 (fun e => absurd e (h2 c).1) (fun _ => rs182 hS ?_))
    show hxn xs n yp_m181 33 [(0, .inr (.inl 86)), (1, .inl a)] [.inl (wtop W)] m Q
    exact hx_dn (hr181_33 (fun _ => h) (fun e => absurd e (h2 c).2))
  refine hx_dn (hr181_4 (fun _ _ => h) (fun _ c => low c) (fun c => rs182 hS ?_))
  show hxn xs n yp_m181 12 [(0, .inr (.inl 86)), (1, .inl a)] [.inl (wtop W)] m Q
  exact hx_dn (hr181_12 (fun c' => absurd ⟨c, c'⟩ h1) (fun _ _ => h) (fun _ c' => low c'))
/-- pieces that wait for their end -/
theorem rs186 : ∀ (j : Nat) {K : hCode} {o : Nat} {m : gx_M}, rS T L m0 p K (W ++ List.replicate j (10, 0)) (o + j) m → wtop W ≠ 10 → K.length + j ≤ 240 → (∀ m', rS T L m0 p (K ++ List.replicate j (33, 0)) W o m' → Q none m') → hxn xs n yp_m186 0 [(0, .inr (.inl 86))] [] m Q
  | 0, K, o, m, hS, hw, hk, h => by
    rw [List.replicate_zero, List.append_nil] at hS h
    refine hx_dn (hr186_0 (rs182 hS ?_))
    show hxn xs n yp_m186 4 [(0, .inr (.inl 86))] [.inl (wtop W)] m Q
    exact hx_dn (hr186_4 (fun _ => h m hS) (fun c => absurd c hw))
  | j + 1, K, o, m, hS, hw, hk, h => by
    have eW : W ++ List.replicate (j + 1) (10, 0) = (W ++ List.replicate j (10, 0)) ++ [((10 : Int), (0 : Int))] := by
      rw [List.replicate_succ', List.append_assoc]
    rw [eW] at hS
    refine hx_dn (hr186_0 (rs182 hS ?_))
    rw [wtop_app]
    show hxn xs n yp_m186 4 [(0, .inr (.inl 86))] [.inl 10] m Q
    refine hx_dn (hr186_4 (fun c => absurd rfl c) (fun _ => ?_))
    refine rs178 hS (c := (33, 0)) (by decide) (by decide) (by decide) (by omega) (fun m2 s2 => ?_)
    show hxn xs n yp_m186 16 [(0, .inr (.inl 86))] [] m2 Q
    refine hx_dn (hr186_16 ?_)
    have s3 := rs_po s2
    have hol := rs_ol hS
    have s4 := rs_op s3 (o' := o + j) (v := gx_w (m2 86 9 - 1)) (by rw [rs_o s2, gx_w_id (by omega) (by omega)]; omega) (by omega)
    refine rs186 j s4 hw (by rw [List.length_append, List.length_singleton]; omega) (fun m5 s5 => h m5 ?_)
    have eK : K ++ [((33 : Int), (0 : Int))] ++ List.replicate j (33, 0) = K ++ List.replicate (j + 1) (33, 0) := by
      rw [List.append_assoc, List.replicate_succ]
      rfl
    rw [eK] at s5
    exact s5
end RT
end
section
/-! sums, pieces, conditions as the reference reads them: roads -/
/-- factOf from 0 on -/
theorem hs179 {xs : List Int32} {n : Nat} {Q : hQ} {m : gx_M} {x0 : Int}
    (h : Q (some (.inl (lfa x0))) m) : hxn xs n yp_m179 0 [(0, .inl x0)] [] m Q := by
  refine hx_dn ?_
  refine hx_blks (npc := 1) (L' := [(0, .inl x0)]) (st' := [.inl x0]) (m' := m) ((0, .iload_n 0, 1, 0, 0, 0, 0), (0, 0, 0)) [] (by decide +kernel) rfl ?_
  refine hx_tsw 156 [(97, 144), (98, 156), (99, 147), (100, 124), (101, 150), (102, 156), (103, 156), (104, 138), (105, 156), (106, 156), (107, 135), (108, 126), (109, 132), (110, 156), (111, 128), (112, 141), (113, 156), (114, 156), (115, 130), (116, 120), (117, 156), (118, 156), (119, 156), (120, 156), (121, 122), (122, 153)] (by decide +kernel) ?_
  refine hsw_c (fun c1 => ?_) (fun c1 => ?_)
  · have c1 : x0 = 97 := c1
    refine hx_blk (npc := 146) (L' := [(0, .inl x0)]) (st' := [.inl 10]) (m' := m) [((144, .bipush 10, 2, 0, 0, 0, 0), (0, 0, 0))] (by decide +kernel) rfl ?_
    exact hx_reti (by decide +kernel) (by have e : lfa x0 = 10 := (by unfold lfa; omega); rw [e] at h; exact h)
  refine hsw_c (fun c2 => ?_) (fun c2 => ?_)
  · have c2 : x0 = 98 := c2
    refine hx_blk (npc := 157) (L' := [(0, .inl x0)]) (st' := [.inl (-1)]) (m' := m) [((156, .iconst (-1), 1, 0, 0, 0, 0), (0, 0, 0))] (by decide +kernel) rfl ?_
    exact hx_reti (by decide +kernel) (by have e : lfa x0 = (-1) := (by unfold lfa; omega); rw [e] at h; exact h)
  refine hsw_c (fun c3 => ?_) (fun c3 => ?_)
  · have c3 : x0 = 99 := c3
    refine hx_blk (npc := 149) (L' := [(0, .inl x0)]) (st' := [.inl 11]) (m' := m) [((147, .bipush 11, 2, 0, 0, 0, 0), (0, 0, 0))] (by decide +kernel) rfl ?_
    exact hx_reti (by decide +kernel) (by have e : lfa x0 = 11 := (by unfold lfa; omega); rw [e] at h; exact h)
  refine hsw_c (fun c4 => ?_) (fun c4 => ?_)
  · have c4 : x0 = 100 := c4
    refine hx_blk (npc := 125) (L' := [(0, .inl x0)]) (st' := [.inl 2]) (m' := m) [((124, .iconst 2, 1, 0, 0, 0, 0), (0, 0, 0))] (by decide +kernel) rfl ?_
    exact hx_reti (by decide +kernel) (by have e : lfa x0 = 2 := (by unfold lfa; omega); rw [e] at h; exact h)
  refine hsw_c (fun c5 => ?_) (fun c5 => ?_)
  · have c5 : x0 = 101 := c5
    refine hx_blk (npc := 152) (L' := [(0, .inl x0)]) (st' := [.inl 12]) (m' := m) [((150, .bipush 12, 2, 0, 0, 0, 0), (0, 0, 0))] (by decide +kernel) rfl ?_
    exact hx_reti (by decide +kernel) (by have e : lfa x0 = 12 := (by unfold lfa; omega); rw [e] at h; exact h)
  refine hsw_c (fun c6 => ?_) (fun c6 => ?_)
  · have c6 : x0 = 102 := c6
    refine hx_blk (npc := 157) (L' := [(0, .inl x0)]) (st' := [.inl (-1)]) (m' := m) [((156, .iconst (-1), 1, 0, 0, 0, 0), (0, 0, 0))] (by decide +kernel) rfl ?_
    exact hx_reti (by decide +kernel) (by have e : lfa x0 = (-1) := (by unfold lfa; omega); rw [e] at h; exact h)
  refine hsw_c (fun c7 => ?_) (fun c7 => ?_)
  · have c7 : x0 = 103 := c7
    refine hx_blk (npc := 157) (L' := [(0, .inl x0)]) (st' := [.inl (-1)]) (m' := m) [((156, .iconst (-1), 1, 0, 0, 0, 0), (0, 0, 0))] (by decide +kernel) rfl ?_
    exact hx_reti (by decide +kernel) (by have e : lfa x0 = (-1) := (by unfold lfa; omega); rw [e] at h; exact h)
  refine hsw_c (fun c8 => ?_) (fun c8 => ?_)
  · have c8 : x0 = 104 := c8
    refine hx_blk (npc := 140) (L' := [(0, .inl x0)]) (st' := [.inl 8]) (m' := m) [((138, .bipush 8, 2, 0, 0, 0, 0), (0, 0, 0))] (by decide +kernel) rfl ?_
    exact hx_reti (by decide +kernel) (by have e : lfa x0 = 8 := (by unfold lfa; omega); rw [e] at h; exact h)
  refine hsw_c (fun c9 => ?_) (fun c9 => ?_)
  · have c9 : x0 = 105 := c9
    refine hx_blk (npc := 157) (L' := [(0, .inl x0)]) (st' := [.inl (-1)]) (m' := m) [((156, .iconst (-1), 1, 0, 0, 0, 0), (0, 0, 0))] (by decide +kernel) rfl ?_
    exact hx_reti (by decide +kernel) (by have e : lfa x0 = (-1) := (by unfold lfa; omega); rw [e] at h; exact h)
  refine hsw_c (fun c10 => ?_) (fun c10 => ?_)
  · have c10 : x0 = 106 := c10
    refine hx_blk (npc := 157) (L' := [(0, .inl x0)]) (st' := [.inl (-1)]) (m' := m) [((156, .iconst (-1), 1, 0, 0, 0, 0), (0, 0, 0))] (by decide +kernel) rfl ?_
    exact hx_reti (by decide +kernel) (by have e : lfa x0 = (-1) := (by unfold lfa; omega); rw [e] at h; exact h)
  refine hsw_c (fun c11 => ?_) (fun c11 => ?_)
  · have c11 : x0 = 107 := c11
    refine hx_blk (npc := 137) (L' := [(0, .inl x0)]) (st' := [.inl 7]) (m' := m) [((135, .bipush 7, 2, 0, 0, 0, 0), (0, 0, 0))] (by decide +kernel) rfl ?_
    exact hx_reti (by decide +kernel) (by have e : lfa x0 = 7 := (by unfold lfa; omega); rw [e] at h; exact h)
  refine hsw_c (fun c12 => ?_) (fun c12 => ?_)
  · have c12 : x0 = 108 := c12
    refine hx_blk (npc := 127) (L' := [(0, .inl x0)]) (st' := [.inl 3]) (m' := m) [((126, .iconst 3, 1, 0, 0, 0, 0), (0, 0, 0))] (by decide +kernel) rfl ?_
    exact hx_reti (by decide +kernel) (by have e : lfa x0 = 3 := (by unfold lfa; omega); rw [e] at h; exact h)
  refine hsw_c (fun c13 => ?_) (fun c13 => ?_)
  · have c13 : x0 = 109 := c13
    refine hx_blk (npc := 134) (L' := [(0, .inl x0)]) (st' := [.inl 6]) (m' := m) [((132, .bipush 6, 2, 0, 0, 0, 0), (0, 0, 0))] (by decide +kernel) rfl ?_
    exact hx_reti (by decide +kernel) (by have e : lfa x0 = 6 := (by unfold lfa; omega); rw [e] at h; exact h)
  refine hsw_c (fun c14 => ?_) (fun c14 => ?_)
  · have c14 : x0 = 110 := c14
    refine hx_blk (npc := 157) (L' := [(0, .inl x0)]) (st' := [.inl (-1)]) (m' := m) [((156, .iconst (-1), 1, 0, 0, 0, 0), (0, 0, 0))] (by decide +kernel) rfl ?_
    exact hx_reti (by decide +kernel) (by have e : lfa x0 = (-1) := (by unfold lfa; omega); rw [e] at h; exact h)
  refine hsw_c (fun c15 => ?_) (fun c15 => ?_)
  · have c15 : x0 = 111 := c15
    refine hx_blk (npc := 129) (L' := [(0, .inl x0)]) (st' := [.inl 4]) (m' := m) [((128, .iconst 4, 1, 0, 0, 0, 0), (0, 0, 0))] (by decide +kernel) rfl ?_
    exact hx_reti (by decide +kernel) (by have e : lfa x0 = 4 := (by unfold lfa; omega); rw [e] at h; exact h)
  refine hsw_c (fun c16 => ?_) (fun c16 => ?_)
  · have c16 : x0 = 112 := c16
    refine hx_blk (npc := 143) (L' := [(0, .inl x0)]) (st' := [.inl 9]) (m' := m) [((141, .bipush 9, 2, 0, 0, 0, 0), (0, 0, 0))] (by decide +kernel) rfl ?_
    exact hx_reti (by decide +kernel) (by have e : lfa x0 = 9 := (by unfold lfa; omega); rw [e] at h; exact h)
  refine hsw_c (fun c17 => ?_) (fun c17 => ?_)
  · have c17 : x0 = 113 := c17
    refine hx_blk (npc := 157) (L' := [(0, .inl x0)]) (st' := [.inl (-1)]) (m' := m) [((156, .iconst (-1), 1, 0, 0, 0, 0), (0, 0, 0))] (by decide +kernel) rfl ?_
    exact hx_reti (by decide +kernel) (by have e : lfa x0 = (-1) := (by unfold lfa; omega); rw [e] at h; exact h)
  refine hsw_c (fun c18 => ?_) (fun c18 => ?_)
  · have c18 : x0 = 114 := c18
    refine hx_blk (npc := 157) (L' := [(0, .inl x0)]) (st' := [.inl (-1)]) (m' := m) [((156, .iconst (-1), 1, 0, 0, 0, 0), (0, 0, 0))] (by decide +kernel) rfl ?_
    exact hx_reti (by decide +kernel) (by have e : lfa x0 = (-1) := (by unfold lfa; omega); rw [e] at h; exact h)
  refine hsw_c (fun c19 => ?_) (fun c19 => ?_)
  · have c19 : x0 = 115 := c19
    refine hx_blk (npc := 131) (L' := [(0, .inl x0)]) (st' := [.inl 5]) (m' := m) [((130, .iconst 5, 1, 0, 0, 0, 0), (0, 0, 0))] (by decide +kernel) rfl ?_
    exact hx_reti (by decide +kernel) (by have e : lfa x0 = 5 := (by unfold lfa; omega); rw [e] at h; exact h)
  refine hsw_c (fun c20 => ?_) (fun c20 => ?_)
  · have c20 : x0 = 116 := c20
    refine hx_blk (npc := 121) (L' := [(0, .inl x0)]) (st' := [.inl 0]) (m' := m) [((120, .iconst 0, 1, 0, 0, 0, 0), (0, 0, 0))] (by decide +kernel) rfl ?_
    exact hx_reti (by decide +kernel) (by have e : lfa x0 = 0 := (by unfold lfa; omega); rw [e] at h; exact h)
  refine hsw_c (fun c21 => ?_) (fun c21 => ?_)
  · have c21 : x0 = 117 := c21
    refine hx_blk (npc := 157) (L' := [(0, .inl x0)]) (st' := [.inl (-1)]) (m' := m) [((156, .iconst (-1), 1, 0, 0, 0, 0), (0, 0, 0))] (by decide +kernel) rfl ?_
    exact hx_reti (by decide +kernel) (by have e : lfa x0 = (-1) := (by unfold lfa; omega); rw [e] at h; exact h)
  refine hsw_c (fun c22 => ?_) (fun c22 => ?_)
  · have c22 : x0 = 118 := c22
    refine hx_blk (npc := 157) (L' := [(0, .inl x0)]) (st' := [.inl (-1)]) (m' := m) [((156, .iconst (-1), 1, 0, 0, 0, 0), (0, 0, 0))] (by decide +kernel) rfl ?_
    exact hx_reti (by decide +kernel) (by have e : lfa x0 = (-1) := (by unfold lfa; omega); rw [e] at h; exact h)
  refine hsw_c (fun c23 => ?_) (fun c23 => ?_)
  · have c23 : x0 = 119 := c23
    refine hx_blk (npc := 157) (L' := [(0, .inl x0)]) (st' := [.inl (-1)]) (m' := m) [((156, .iconst (-1), 1, 0, 0, 0, 0), (0, 0, 0))] (by decide +kernel) rfl ?_
    exact hx_reti (by decide +kernel) (by have e : lfa x0 = (-1) := (by unfold lfa; omega); rw [e] at h; exact h)
  refine hsw_c (fun c24 => ?_) (fun c24 => ?_)
  · have c24 : x0 = 120 := c24
    refine hx_blk (npc := 157) (L' := [(0, .inl x0)]) (st' := [.inl (-1)]) (m' := m) [((156, .iconst (-1), 1, 0, 0, 0, 0), (0, 0, 0))] (by decide +kernel) rfl ?_
    exact hx_reti (by decide +kernel) (by have e : lfa x0 = (-1) := (by unfold lfa; omega); rw [e] at h; exact h)
  refine hsw_c (fun c25 => ?_) (fun c25 => ?_)
  · have c25 : x0 = 121 := c25
    refine hx_blk (npc := 123) (L' := [(0, .inl x0)]) (st' := [.inl 1]) (m' := m) [((122, .iconst 1, 1, 0, 0, 0, 0), (0, 0, 0))] (by decide +kernel) rfl ?_
    exact hx_reti (by decide +kernel) (by have e : lfa x0 = 1 := (by unfold lfa; omega); rw [e] at h; exact h)
  refine hsw_c (fun c26 => ?_) (fun c26 => ?_)
  · have c26 : x0 = 122 := c26
    refine hx_blk (npc := 155) (L' := [(0, .inl x0)]) (st' := [.inl 13]) (m' := m) [((153, .bipush 13, 2, 0, 0, 0, 0), (0, 0, 0))] (by decide +kernel) rfl ?_
    exact hx_reti (by decide +kernel) (by have e : lfa x0 = 13 := (by unfold lfa; omega); rw [e] at h; exact h)
  refine hsw_n ?_
  refine hx_blk (npc := 157) (L' := [(0, .inl x0)]) (st' := [.inl (-1)]) (m' := m) [((156, .iconst (-1), 1, 0, 0, 0, 0), (0, 0, 0))] (by decide +kernel) rfl ?_
  exact hx_reti (by decide +kernel) (by have e : lfa x0 = (-1) := (by unfold lfa; omega); rw [e] at h; exact h)

/-- readsFactor from 0 on -/
theorem hr174_0 {xs : List Int32} {n : Nat} {Q : hQ} {m : gx_M}
    (h1 : ((aHere m) ≠ 91) → (isDg (aHere m)) → hxn xs n yp_m177 0 [(0, .inr (.inl 86))] [] m (fun r m' => hxn xs n yp_m174 31 [(0, .inr (.inl 86))] (hrs r ++ []) m' Q))
    (h2 : ((aHere m) ≠ 91) → (¬ (isDg (aHere m))) → hxn xs n yp_m179 0 [(0, .inl (aHere m))] [] m (fun r m' => hxn xs n yp_m174 54 [(0, .inr (.inl 86))] (hrs r ++ []) m' Q))
    (h3 : ((aHere m) = 91) → hxn xs n yp_m175 0 [(0, .inr (.inl 86)), (1, .inl 14)] [] m (fun r m' => hxn xs n yp_m174 15 [(0, .inr (.inl 86))] (hrs r ++ []) m' Q)) : hxn xs (n + 1) yp_m174 0 [(0, .inr (.inl 86))] [] m Q := by
  refine hx_blks (npc := 1) (L' := [(0, .inr (.inl 86))]) (st' := [.inr (.inl 86)]) (m' := m) ((0, .aload_n 0, 1, 0, 0, 0, 0), (0, 0, 0)) [] (by decide +kernel) rfl ?_
  refine hx_call (E := (1, .invokevirtual 138, 3, 170, 0, 6054, 0)) (M' := yp_m170) [.inr (.inl 86)] [] rfl (by decide +kernel) rfl ⟨rfl, rfl⟩ rfl rfl (hs170 ?_)
  show hxn xs n yp_m174 4 [(0, .inr (.inl 86))] [.inl (aHere m)] m Q
  refine hx_blk (npc := 6) (L' := [(0, .inr (.inl 86))]) (st' := [.inl 91, .inl (aHere m)]) (m' := m) [((4, .bipush 91, 2, 0, 0, 0, 0), (0, 0, 0))] (by decide +kernel) rfl ?_
  refine hx_cmp .ne 20 (by decide +kernel) (fun c1 => ?_) (fun c1 => ?_)
  · have c1 : (aHere m) ≠ 91 := c1
    refine hx_blk (npc := 21) (L' := [(0, .inr (.inl 86))]) (st' := [.inr (.inl 86)]) (m' := m) [((20, .aload_n 0, 1, 0, 0, 0, 0), (0, 0, 0))] (by decide +kernel) rfl ?_
    refine hx_call (E := (21, .invokevirtual 151, 3, 176, 0, 6078, 0)) (M' := yp_m176) [.inr (.inl 86)] [] rfl (by decide +kernel) rfl ⟨rfl, rfl⟩ rfl rfl (hs176 (fun c2 => ?_) (fun c2 => ?_))
    · have c2 : isDg (aHere m) := c2
      show hxn xs n yp_m174 24 [(0, .inr (.inl 86))] [.inl 1] m Q
      refine hx_if .eq 47 (by decide +kernel) (fun c3 => ?_) (fun c3 => ?_)
      · have c3 : (1 : Int) = 0 := c3
        exfalso; omega
      · have c3 : (1 : Int) ≠ 0 := c3
        refine hx_blk (npc := 28) (L' := [(0, .inr (.inl 86))]) (st' := [.inr (.inl 86)]) (m' := m) [((27, .aload_n 0, 1, 0, 0, 0, 0), (0, 0, 0))] (by decide +kernel) rfl ?_
        exact hx_call (E := (28, .invokevirtual 175, 3, 177, 0, 6082, 0)) (M' := yp_m177) [.inr (.inl 86)] [] rfl (by decide +kernel) rfl ⟨rfl, rfl⟩ rfl rfl (hx_mono (h1 c1 c2) (fun r m' h' => hx_pick [0] h'))
    · have c2 : ¬ (isDg (aHere m)) := c2
      show hxn xs n yp_m174 24 [(0, .inr (.inl 86))] [.inl 0] m Q
      refine hx_if .eq 47 (by decide +kernel) (fun c3 => ?_) (fun c3 => ?_)
      · have c3 : (0 : Int) = 0 := c3
        refine hx_blk (npc := 48) (L' := [(0, .inr (.inl 86))]) (st' := [.inr (.inl 86)]) (m' := m) [((47, .aload_n 0, 1, 0, 0, 0, 0), (0, 0, 0))] (by decide +kernel) rfl ?_
        refine hx_call (E := (48, .invokevirtual 138, 3, 170, 0, 6054, 0)) (M' := yp_m170) [.inr (.inl 86)] [] rfl (by decide +kernel) rfl ⟨rfl, rfl⟩ rfl rfl (hs170 ?_)
        show hxn xs n yp_m174 51 [(0, .inr (.inl 86))] [.inl (aHere m)] m Q
        exact hx_call (E := (51, .invokestatic 178, 3, 179, 0, 6090, 0)) (M' := yp_m179) [.inl (aHere m)] [] rfl (by decide +kernel) rfl ⟨rfl, rfl⟩ rfl rfl (hx_mono (h2 c1 c2) (fun r m' h' => hx_pick [0] h'))
      · have c3 : (0 : Int) ≠ 0 := c3
        exfalso; omega
  · have c1 : (aHere m) = 91 := by have h : ¬ ((aHere m) ≠ 91) := c1; omega
    refine hx_blk (npc := 12) (L' := [(0, .inr (.inl 86))]) (st' := [.inl 14, .inr (.inl 86)]) (m' := m) [((9, .aload_n 0, 1, 0, 0, 0, 0), (0, 0, 0)), ((10, .bipush 14, 2, 0, 0, 0, 0), (0, 0, 0))] (by decide +kernel) rfl ?_
    exact hx_call (E := (12, .invokevirtual 172, 3, 175, 0, 6073, 0)) (M' := yp_m175) [.inr (.inl 86), .inl 14] [] rfl (by decide +kernel) rfl ⟨rfl, rfl⟩ rfl rfl (hx_mono (h3 c1) (fun r m' h' => hx_pick [0] h'))

/-- readsFactor from 15 on -/
theorem hr174_15 {xs : List Int32} {n : Nat} {Q : hQ} {m : gx_M} {s0 : Int}
    (h1 : (s0 ≠ 0) → hxn xs n yp_m174 0 [(0, .inr (.inl 86))] [] m Q)
    (h2 : (s0 = 0) → Q (some (.inl 0)) m) : hxn xs (n + 1) yp_m174 15 [(0, .inr (.inl 86))] [.inl s0] m Q := by
  refine hx_ifs .ne 0 (by decide +kernel) (fun c1 => ?_) (fun c1 => ?_)
  · have c1 : s0 ≠ 0 := c1
    exact hx_pick [0] (h1 c1)
  · have c1 : s0 = 0 := by have h : ¬ (s0 ≠ 0) := c1; omega
    refine hx_blk (npc := 19) (L' := [(0, .inr (.inl 86))]) (st' := [.inl 0]) (m' := m) [((18, .iconst 0, 1, 0, 0, 0, 0), (0, 0, 0))] (by decide +kernel) rfl ?_
    exact hx_reti (by decide +kernel) (h2 c1)

/-- readsFactor from 31 on -/
theorem hr174_31 {xs : List Int32} {n : Nat} {Q : hQ} {m : gx_M} {s0 : Int}
    (h1 : (s0 ≠ 0) → hxn xs n yp_m178 0 [(0, .inr (.inl 86)), (1, .inl 0), (2, .inl (m 86 8))] [] m (fun r m' => hxn xs n yp_m174 45 [] (hrs r ++ []) m' Q))
    (h2 : (s0 = 0) → Q (some (.inl 0)) m) : hxn xs (n + 1) yp_m174 31 [(0, .inr (.inl 86))] [.inl s0] m Q := by
  refine hx_ifs .ne 36 (by decide +kernel) (fun c1 => ?_) (fun c1 => ?_)
  · have c1 : s0 ≠ 0 := c1
    refine hx_blk (npc := 42) (L' := [(0, .inr (.inl 86))]) (st' := [.inl (m 86 8), .inl 0, .inr (.inl 86)]) (m' := m) [((36, .aload_n 0, 1, 0, 0, 0, 0), (0, 0, 0)), ((37, .iconst 0, 1, 0, 0, 0, 0), (0, 0, 0)), ((38, .aload_n 0, 1, 0, 0, 0, 0), (0, 0, 0)), ((39, .getfield 148, 3, 10, 8, 5121, 0), (0, 86, 0))] (by decide +kernel) rfl ?_
    exact hx_call (E := (42, .invokevirtual 168, 3, 178, 0, 6086, 0)) (M' := yp_m178) [.inr (.inl 86), .inl 0, .inl (m 86 8)] [] rfl (by decide +kernel) rfl ⟨rfl, rfl⟩ rfl rfl (hx_mono (h1 c1) (fun r m' h' => hx_pick [] h'))
  · have c1 : s0 = 0 := by have h : ¬ (s0 ≠ 0) := c1; omega
    refine hx_blk (npc := 35) (L' := [(0, .inr (.inl 86))]) (st' := [.inl 0]) (m' := m) [((34, .iconst 0, 1, 0, 0, 0, 0), (0, 0, 0))] (by decide +kernel) rfl ?_
    exact hx_reti (by decide +kernel) (h2 c1)

/-- readsFactor from 45 on -/
theorem hr174_45 {xs : List Int32} {n : Nat} {Q : hQ} {m : gx_M}
    (h1 : Q (some (.inl 1)) m) : hxn xs (n + 1) yp_m174 45 [] [] m Q := by
  refine hx_blks (npc := 46) (L' := []) (st' := [.inl 1]) (m' := m) ((45, .iconst 1, 1, 0, 0, 0, 0), (0, 0, 0)) [] (by decide +kernel) rfl ?_
  exact hx_reti (by decide +kernel) h1

/-- readsFactor from 54 on -/
theorem hr174_54 {xs : List Int32} {n : Nat} {Q : hQ} {m : gx_M} {s0 : Int}
    (h1 : (s0 ≠ (-1)) → hxn xs n yp_m178 0 [(0, .inr (.inl 86)), (1, .inl 1), (2, .inl s0)] [] m (fun r m' => hxn xs n yp_m174 76 [(0, .inr (.inl 86))] (hrs r ++ []) m' Q))
    (h2 : (s0 = (-1)) → hxn xs n yp_m172 0 [(0, .inr (.inl 86)), (1, .inl 1), (2, .inl (m 86 5))] [] m (fun r m' => hxn xs n yp_m174 69 [] (hrs r ++ []) m' Q)) : hxn xs (n + 1) yp_m174 54 [(0, .inr (.inl 86))] [.inl s0] m Q := by
  refine hx_blks (npc := 57) (L' := [(0, .inr (.inl 86)), (1, .inl s0)]) (st' := [.inl (-1), .inl s0]) (m' := m) ((54, .istore_n 1, 1, 0, 0, 0, 0), (0, 0, 0)) [((55, .iload_n 1, 1, 0, 0, 0, 0), (0, 0, 0)), ((56, .iconst (-1), 1, 0, 0, 0, 0), (0, 0, 0))] (by decide +kernel) rfl ?_
  refine hx_cmp .ne 70 (by decide +kernel) (fun c1 => ?_) (fun c1 => ?_)
  · have c1 : s0 ≠ (-1) := c1
    refine hx_blk (npc := 73) (L' := [(0, .inr (.inl 86)), (1, .inl s0)]) (st' := [.inl s0, .inl 1, .inr (.inl 86)]) (m' := m) [((70, .aload_n 0, 1, 0, 0, 0, 0), (0, 0, 0)), ((71, .iconst 1, 1, 0, 0, 0, 0), (0, 0, 0)), ((72, .iload_n 1, 1, 0, 0, 0, 0), (0, 0, 0))] (by decide +kernel) rfl ?_
    exact hx_call (E := (73, .invokevirtual 168, 3, 178, 0, 6086, 0)) (M' := yp_m178) [.inr (.inl 86), .inl 1, .inl s0] [] rfl (by decide +kernel) rfl ⟨rfl, rfl⟩ rfl rfl (hx_mono (h1 c1) (fun r m' h' => hx_pick [0] h'))
  · have c1 : s0 = (-1) := by have h : ¬ (s0 ≠ (-1)) := c1; omega
    refine hx_blk (npc := 66) (L' := [(0, .inr (.inl 86)), (1, .inl s0)]) (st' := [.inl (m 86 5), .inl 1, .inr (.inl 86)]) (m' := m) [((60, .aload_n 0, 1, 0, 0, 0, 0), (0, 0, 0)), ((61, .iconst 1, 1, 0, 0, 0, 0), (0, 0, 0)), ((62, .aload_n 0, 1, 0, 0, 0, 0), (0, 0, 0)), ((63, .getfield 132, 3, 10, 5, 5118, 0), (0, 86, 0))] (by decide +kernel) rfl ?_
    exact hx_call (E := (66, .invokevirtual 145, 3, 172, 0, 6061, 0)) (M' := yp_m172) [.inr (.inl 86), .inl 1, .inl (m 86 5)] [] rfl (by decide +kernel) rfl ⟨rfl, rfl⟩ rfl rfl (hx_mono (h2 c1) (fun r m' h' => hx_pick [] h'))

/-- readsFactor from 69 on -/
theorem hr174_69 {xs : List Int32} {n : Nat} {Q : hQ} {m : gx_M} {s0 : Int}
    (h1 : Q (some (.inl s0)) m) : hxn xs (n + 1) yp_m174 69 [] [.inl s0] m Q := by
  exact hx_reti (by decide +kernel) h1

/-- readsFactor from 76 on -/
theorem hr174_76 {xs : List Int32} {n : Nat} {Q : hQ} {m : gx_M}
    (h1 : Q (some (.inl 1)) (gx_u m 86 5 (gx_w ((m 86 5) + 1)))) : hxn xs (n + 1) yp_m174 76 [(0, .inr (.inl 86))] [] m Q := by
  refine hx_blks (npc := 87) (L' := [(0, .inr (.inl 86))]) (st' := [.inl 1]) (m' := (gx_u m 86 5 (gx_w ((m 86 5) + 1)))) ((76, .aload_n 0, 1, 0, 0, 0, 0), (0, 0, 0)) [((77, .aload_n 0, 1, 0, 0, 0, 0), (0, 0, 0)), ((78, .getfield 132, 3, 10, 5, 5118, 0), (0, 86, 0)), ((81, .iconst 1, 1, 0, 0, 0, 0), (0, 0, 0)), ((82, .iadd, 1, 0, 0, 0, 0), (0, 0, 0)), ((83, .putfield 132, 3, 10, 5, 5118, 0), (0, 86, 0)), ((86, .iconst 1, 1, 0, 0, 0, 0), (0, 0, 0))] (by decide +kernel) rfl ?_
  exact hx_reti (by decide +kernel) h1

/-- readsSum from 0 on -/
theorem hr173_0 {xs : List Int32} {n : Nat} {Q : hQ} {m : gx_M}
    (h1 : hxn xs n yp_m174 0 [(0, .inr (.inl 86))] [] m (fun r m' => hxn xs n yp_m173 9 [(0, .inr (.inl 86)), (1, .inl (m 86 11))] (hrs r ++ []) m' Q)) : hxn xs (n + 1) yp_m173 0 [(0, .inr (.inl 86))] [] m Q := by
  refine hx_blks (npc := 6) (L' := [(0, .inr (.inl 86)), (1, .inl (m 86 11))]) (st' := [.inr (.inl 86)]) (m' := m) ((0, .aload_n 0, 1, 0, 0, 0, 0), (0, 0, 0)) [((1, .getfield 162, 3, 10, 11, 5124, 0), (0, 86, 0)), ((4, .istore_n 1, 1, 0, 0, 0, 0), (0, 0, 0)), ((5, .aload_n 0, 1, 0, 0, 0, 0), (0, 0, 0))] (by decide +kernel) rfl ?_
  exact hx_call (E := (6, .invokevirtual 182, 3, 174, 0, 6069, 0)) (M' := yp_m174) [.inr (.inl 86)] [] rfl (by decide +kernel) rfl ⟨rfl, rfl⟩ rfl rfl (hx_mono h1 (fun r m' h' => hx_pick [0, 1] h'))

/-- readsSum from 9 on -/
theorem hr173_9 {xs : List Int32} {n : Nat} {Q : hQ} {m : gx_M} {x1 s0 : Int}
    (h1 : (s0 ≠ 0) → hxn xs n yp_m173 14 [(0, .inr (.inl 86)), (1, .inl x1)] [] m Q)
    (h2 : (s0 = 0) → Q (some (.inl 0)) m) : hxn xs (n + 1) yp_m173 9 [(0, .inr (.inl 86)), (1, .inl x1)] [.inl s0] m Q := by
  refine hx_ifs .ne 14 (by decide +kernel) (fun c1 => ?_) (fun c1 => ?_)
  · have c1 : s0 ≠ 0 := c1
    exact hx_pick [0, 1] (h1 c1)
  · have c1 : s0 = 0 := by have h : ¬ (s0 ≠ 0) := c1; omega
    refine hx_blk (npc := 13) (L' := [(0, .inr (.inl 86)), (1, .inl x1)]) (st' := [.inl 0]) (m' := m) [((12, .iconst 0, 1, 0, 0, 0, 0), (0, 0, 0))] (by decide +kernel) rfl ?_
    exact hx_reti (by decide +kernel) (h2 c1)

/-- readsSum from 14 on -/
theorem hr173_14 {xs : List Int32} {n : Nat} {Q : hQ} {m : gx_M} {x1 : Int}
    (h1 : hxn xs n yp_m180 0 [(0, .inl (aHere m))] [] m (fun r m' => hxn xs n yp_m173 21 [(0, .inr (.inl 86)), (1, .inl x1)] (hrs r ++ []) m' Q)) : hxn xs (n + 1) yp_m173 14 [(0, .inr (.inl 86)), (1, .inl x1)] [] m Q := by
  refine hx_blks (npc := 15) (L' := [(0, .inr (.inl 86)), (1, .inl x1)]) (st' := [.inr (.inl 86)]) (m' := m) ((14, .aload_n 0, 1, 0, 0, 0, 0), (0, 0, 0)) [] (by decide +kernel) rfl ?_
  refine hx_call (E := (15, .invokevirtual 138, 3, 170, 0, 6054, 0)) (M' := yp_m170) [.inr (.inl 86)] [] rfl (by decide +kernel) rfl ⟨rfl, rfl⟩ rfl rfl (hs170 ?_)
  show hxn xs n yp_m173 18 [(0, .inr (.inl 86)), (1, .inl x1)] [.inl (aHere m)] m Q
  exact hx_call (E := (18, .invokestatic 185, 3, 180, 0, 6093, 0)) (M' := yp_m180) [.inl (aHere m)] [] rfl (by decide +kernel) rfl ⟨rfl, rfl⟩ rfl rfl (hx_mono h1 (fun r m' h' => hx_pick [0, 1] h'))

/-- readsSum from 21 on -/
theorem hr173_21 {xs : List Int32} {n : Nat} {Q : hQ} {m : gx_M} {x1 s0 : Int}
    (h1 : (s0 = (-1)) → ((aHere m) ≠ 93) → hxn xs n yp_m183 0 [(0, .inr (.inl 86)), (1, .inl x1)] [] m (fun r m' => hxn xs n yp_m173 143 [(0, .inr (.inl 86))] (hrs r ++ []) m' Q))
    (h2 : (s0 = (-1)) → ((aHere m) = 93) → hxn xs n yp_m183 0 [(0, .inr (.inl 86)), (1, .inl x1)] [] m (fun r m' => hxn xs n yp_m173 97 [(0, .inr (.inl 86)), (1, .inl x1)] (hrs r ++ []) m' Q))
    (h3 : (s0 ≠ (-1)) → (4 ≤ s0) → hxn xs n yp_m181 0 [(0, .inr (.inl 86)), (1, .inl 0)] [] m (fun r m' => hxn xs n yp_m173 41 [(0, .inr (.inl 86)), (1, .inl x1), (2, .inl s0)] (hrs r ++ []) m' Q))
    (h4 : (s0 ≠ (-1)) → (s0 < 4) → hxn xs n yp_m181 0 [(0, .inr (.inl 86)), (1, .inl 1)] [] m (fun r m' => hxn xs n yp_m173 41 [(0, .inr (.inl 86)), (1, .inl x1), (2, .inl s0)] (hrs r ++ []) m' Q)) : hxn xs (n + 1) yp_m173 21 [(0, .inr (.inl 86)), (1, .inl x1)] [.inl s0] m Q := by
  refine hx_blks (npc := 24) (L' := [(0, .inr (.inl 86)), (1, .inl x1), (2, .inl s0)]) (st' := [.inl (-1), .inl s0]) (m' := m) ((21, .istore_n 2, 1, 0, 0, 0, 0), (0, 0, 0)) [((22, .iload_n 2, 1, 0, 0, 0, 0), (0, 0, 0)), ((23, .iconst (-1), 1, 0, 0, 0, 0), (0, 0, 0))] (by decide +kernel) rfl ?_
  refine hx_cmp .eq 83 (by decide +kernel) (fun c1 => ?_) (fun c1 => ?_)
  · have c1 : s0 = (-1) := c1
    refine hx_blk (npc := 84) (L' := [(0, .inr (.inl 86)), (1, .inl x1), (2, .inl s0)]) (st' := [.inr (.inl 86)]) (m' := m) [((83, .aload_n 0, 1, 0, 0, 0, 0), (0, 0, 0))] (by decide +kernel) rfl ?_
    refine hx_call (E := (84, .invokevirtual 138, 3, 170, 0, 6054, 0)) (M' := yp_m170) [.inr (.inl 86)] [] rfl (by decide +kernel) rfl ⟨rfl, rfl⟩ rfl rfl (hs170 ?_)
    show hxn xs n yp_m173 87 [(0, .inr (.inl 86)), (1, .inl x1), (2, .inl s0)] [.inl (aHere m)] m Q
    refine hx_blk (npc := 89) (L' := [(0, .inr (.inl 86)), (1, .inl x1), (2, .inl s0)]) (st' := [.inl 93, .inl (aHere m)]) (m' := m) [((87, .bipush 93, 2, 0, 0, 0, 0), (0, 0, 0))] (by decide +kernel) rfl ?_
    refine hx_cmp .ne 138 (by decide +kernel) (fun c2 => ?_) (fun c2 => ?_)
    · have c2 : (aHere m) ≠ 93 := c2
      refine hx_blk (npc := 140) (L' := [(0, .inr (.inl 86)), (1, .inl x1), (2, .inl s0)]) (st' := [.inl x1, .inr (.inl 86)]) (m' := m) [((138, .aload_n 0, 1, 0, 0, 0, 0), (0, 0, 0)), ((139, .iload_n 1, 1, 0, 0, 0, 0), (0, 0, 0))] (by decide +kernel) rfl ?_
      exact hx_call (E := (140, .invokevirtual 192, 3, 183, 0, 6104, 0)) (M' := yp_m183) [.inr (.inl 86), .inl x1] [] rfl (by decide +kernel) rfl ⟨rfl, rfl⟩ rfl rfl (hx_mono (h1 c1 c2) (fun r m' h' => hx_pick [0] h'))
    · have c2 : (aHere m) = 93 := by have h : ¬ ((aHere m) ≠ 93) := c2; omega
      refine hx_blk (npc := 94) (L' := [(0, .inr (.inl 86)), (1, .inl x1), (2, .inl s0)]) (st' := [.inl x1, .inr (.inl 86)]) (m' := m) [((92, .aload_n 0, 1, 0, 0, 0, 0), (0, 0, 0)), ((93, .iload_n 1, 1, 0, 0, 0, 0), (0, 0, 0))] (by decide +kernel) rfl ?_
      exact hx_call (E := (94, .invokevirtual 192, 3, 183, 0, 6104, 0)) (M' := yp_m183) [.inr (.inl 86), .inl x1] [] rfl (by decide +kernel) rfl ⟨rfl, rfl⟩ rfl rfl (hx_mono (h2 c1 c2) (fun r m' h' => hx_pick [0, 1] h'))
  · have c1 : s0 ≠ (-1) := c1
    refine hx_blk (npc := 30) (L' := [(0, .inr (.inl 86)), (1, .inl x1), (2, .inl s0)]) (st' := [.inl 4, .inl s0, .inr (.inl 86)]) (m' := m) [((27, .aload_n 0, 1, 0, 0, 0, 0), (0, 0, 0)), ((28, .iload_n 2, 1, 0, 0, 0, 0), (0, 0, 0)), ((29, .iconst 4, 1, 0, 0, 0, 0), (0, 0, 0))] (by decide +kernel) rfl ?_
    refine hx_cmp .ge 37 (by decide +kernel) (fun c2 => ?_) (fun c2 => ?_)
    · have c2 : 4 ≤ s0 := c2
      refine hx_blk (npc := 38) (L' := [(0, .inr (.inl 86)), (1, .inl x1), (2, .inl s0)]) (st' := [.inl 0, .inr (.inl 86)]) (m' := m) [((37, .iconst 0, 1, 0, 0, 0, 0), (0, 0, 0))] (by decide +kernel) rfl ?_
      exact hx_call (E := (38, .invokevirtual 188, 3, 181, 0, 6096, 0)) (M' := yp_m181) [.inr (.inl 86), .inl 0] [] rfl (by decide +kernel) rfl ⟨rfl, rfl⟩ rfl rfl (hx_mono (h3 c1 c2) (fun r m' h' => hx_pick [0, 1, 2] h'))
    · have c2 : s0 < 4 := by have h : ¬ (4 ≤ s0) := c2; omega
      refine hx_blk (npc := 38) (L' := [(0, .inr (.inl 86)), (1, .inl x1), (2, .inl s0)]) (st' := [.inl 1, .inr (.inl 86)]) (m' := m) [((33, .iconst 1, 1, 0, 0, 0, 0), (0, 0, 0)), ((34, .goto 4, 3, 0, 0, 0, 0), (0, 0, 0))] (by decide +kernel) rfl ?_
      exact hx_call (E := (38, .invokevirtual 188, 3, 181, 0, 6096, 0)) (M' := yp_m181) [.inr (.inl 86), .inl 1] [] rfl (by decide +kernel) rfl ⟨rfl, rfl⟩ rfl rfl (hx_mono (h4 c1 c2) (fun r m' h' => hx_pick [0, 1, 2] h'))

/-- readsSum from 41 on -/
theorem hr173_41 {xs : List Int32} {n : Nat} {Q : hQ} {m : gx_M} {x1 x2 : Int}
    (h1 : hxn xs n yp_m174 0 [(0, .inr (.inl 86))] [] (gx_u (gx_u (gx_u m 92 (m 86 11).toNat (gx_w (1048576 * x2))) 86 11 (gx_w ((m 86 11) + 1))) 86 5 (gx_w ((m 86 5) + 1))) (fun r m' => hxn xs n yp_m173 78 [(0, .inr (.inl 86)), (1, .inl x1)] (hrs r ++ []) m' Q)) : hxn xs (n + 1) yp_m173 41 [(0, .inr (.inl 86)), (1, .inl x1), (2, .inl x2)] [] m Q := by
  refine hx_blks (npc := 75) (L' := [(0, .inr (.inl 86)), (1, .inl x1), (2, .inl x2)]) (st' := [.inr (.inl 86)]) (m' := (gx_u (gx_u (gx_u m 92 (m 86 11).toNat (gx_w (1048576 * x2))) 86 11 (gx_w ((m 86 11) + 1))) 86 5 (gx_w ((m 86 5) + 1)))) ((41, .aload_n 0, 1, 0, 0, 0, 0), (0, 0, 0)) [((42, .getfield 26, 3, 10, 15, 5128, 0), (1, 86, 92)), ((45, .aload_n 0, 1, 0, 0, 0, 0), (0, 0, 0)), ((46, .getfield 162, 3, 10, 11, 5124, 0), (0, 86, 0)), ((49, .ldc 158, 2, 0, 0, 6077, 1048576), (0, 0, 0)), ((51, .iload_n 2, 1, 0, 0, 0, 0), (0, 0, 0)), ((52, .imul, 1, 0, 0, 0, 0), (0, 0, 0)), ((53, .iastore, 1, 0, 0, 0, 0), (0, 92, 0)), ((54, .aload_n 0, 1, 0, 0, 0, 0), (0, 0, 0)), ((55, .aload_n 0, 1, 0, 0, 0, 0), (0, 0, 0)), ((56, .getfield 162, 3, 10, 11, 5124, 0), (0, 86, 0)), ((59, .iconst 1, 1, 0, 0, 0, 0), (0, 0, 0)), ((60, .iadd, 1, 0, 0, 0, 0), (0, 0, 0)), ((61, .putfield 162, 3, 10, 11, 5124, 0), (0, 86, 0)), ((64, .aload_n 0, 1, 0, 0, 0, 0), (0, 0, 0)), ((65, .aload_n 0, 1, 0, 0, 0, 0), (0, 0, 0)), ((66, .getfield 132, 3, 10, 5, 5118, 0), (0, 86, 0)), ((69, .iconst 1, 1, 0, 0, 0, 0), (0, 0, 0)), ((70, .iadd, 1, 0, 0, 0, 0), (0, 0, 0)), ((71, .putfield 132, 3, 10, 5, 5118, 0), (0, 86, 0)), ((74, .aload_n 0, 1, 0, 0, 0, 0), (0, 0, 0))] (by decide +kernel) rfl ?_
  exact hx_call (E := (75, .invokevirtual 182, 3, 174, 0, 6069, 0)) (M' := yp_m174) [.inr (.inl 86)] [] rfl (by decide +kernel) rfl ⟨rfl, rfl⟩ rfl rfl (hx_mono h1 (fun r m' h' => hx_pick [0, 1] h'))

/-- readsSum from 78 on -/
theorem hr173_78 {xs : List Int32} {n : Nat} {Q : hQ} {m : gx_M} {x1 s0 : Int}
    (h1 : (s0 ≠ 0) → hxn xs n yp_m173 14 [(0, .inr (.inl 86)), (1, .inl x1)] [] m Q)
    (h2 : (s0 = 0) → Q (some (.inl 0)) m) : hxn xs (n + 1) yp_m173 78 [(0, .inr (.inl 86)), (1, .inl x1)] [.inl s0] m Q := by
  refine hx_ifs .ne 163 (by decide +kernel) (fun c1 => ?_) (fun c1 => ?_)
  · have c1 : s0 ≠ 0 := c1
    refine hx_blk (npc := 14) (L' := [(0, .inr (.inl 86)), (1, .inl x1)]) (st' := []) (m' := m) [((163, .goto (-149), 3, 0, 0, 0, 0), (0, 0, 0))] (by decide +kernel) rfl ?_
    exact hx_pick [0, 1] (h1 c1)
  · have c1 : s0 = 0 := by have h : ¬ (s0 ≠ 0) := c1; omega
    refine hx_blk (npc := 82) (L' := [(0, .inr (.inl 86)), (1, .inl x1)]) (st' := [.inl 0]) (m' := m) [((81, .iconst 0, 1, 0, 0, 0, 0), (0, 0, 0))] (by decide +kernel) rfl ?_
    exact hx_reti (by decide +kernel) (h2 c1)

/-- readsSum from 97 on -/
theorem hr173_97 {xs : List Int32} {n : Nat} {Q : hQ} {m : gx_M} {x1 s0 : Int}
    (h1 : (s0 = 0) → hxn xs n yp_m183 0 [(0, .inr (.inl 86)), (1, .inl x1)] [] m (fun r m' => hxn xs n yp_m173 143 [(0, .inr (.inl 86))] (hrs r ++ []) m' Q))
    (h2 : (s0 ≠ 0) → hxn xs n yp_m181 0 [(0, .inr (.inl 86)), (1, .inl 1)] [] m (fun r m' => hxn xs n yp_m173 105 [(0, .inr (.inl 86)), (1, .inl x1)] (hrs r ++ []) m' Q)) : hxn xs (n + 1) yp_m173 97 [(0, .inr (.inl 86)), (1, .inl x1)] [.inl s0] m Q := by
  refine hx_ifs .eq 138 (by decide +kernel) (fun c1 => ?_) (fun c1 => ?_)
  · have c1 : s0 = 0 := c1
    refine hx_blk (npc := 140) (L' := [(0, .inr (.inl 86)), (1, .inl x1)]) (st' := [.inl x1, .inr (.inl 86)]) (m' := m) [((138, .aload_n 0, 1, 0, 0, 0, 0), (0, 0, 0)), ((139, .iload_n 1, 1, 0, 0, 0, 0), (0, 0, 0))] (by decide +kernel) rfl ?_
    exact hx_call (E := (140, .invokevirtual 192, 3, 183, 0, 6104, 0)) (M' := yp_m183) [.inr (.inl 86), .inl x1] [] rfl (by decide +kernel) rfl ⟨rfl, rfl⟩ rfl rfl (hx_mono (h1 c1) (fun r m' h' => hx_pick [0] h'))
  · have c1 : s0 ≠ 0 := c1
    refine hx_blk (npc := 102) (L' := [(0, .inr (.inl 86)), (1, .inl x1)]) (st' := [.inl 1, .inr (.inl 86)]) (m' := m) [((100, .aload_n 0, 1, 0, 0, 0, 0), (0, 0, 0)), ((101, .iconst 1, 1, 0, 0, 0, 0), (0, 0, 0))] (by decide +kernel) rfl ?_
    exact hx_call (E := (102, .invokevirtual 188, 3, 181, 0, 6096, 0)) (M' := yp_m181) [.inr (.inl 86), .inl 1] [] rfl (by decide +kernel) rfl ⟨rfl, rfl⟩ rfl rfl (hx_mono (h2 c1) (fun r m' h' => hx_pick [0, 1] h'))

/-- readsSum from 105 on -/
theorem hr173_105 {xs : List Int32} {n : Nat} {Q : hQ} {m : gx_M} {x1 : Int}
    (h1 : hxn xs n yp_m173 14 [(0, .inr (.inl 86)), (1, .inl x1)] [] (gx_u (gx_u (gx_u m 86 11 (gx_w ((m 86 11) - 1))) 86 9 (gx_w ((m 86 9) - 1))) 86 5 (gx_w ((m 86 5) + 1))) Q) : hxn xs (n + 1) yp_m173 105 [(0, .inr (.inl 86)), (1, .inl x1)] [] m Q := by
  refine hx_blks (npc := 14) (L' := [(0, .inr (.inl 86)), (1, .inl x1)]) (st' := []) (m' := (gx_u (gx_u (gx_u m 86 11 (gx_w ((m 86 11) - 1))) 86 9 (gx_w ((m 86 9) - 1))) 86 5 (gx_w ((m 86 5) + 1)))) ((105, .aload_n 0, 1, 0, 0, 0, 0), (0, 0, 0)) [((106, .aload_n 0, 1, 0, 0, 0, 0), (0, 0, 0)), ((107, .getfield 162, 3, 10, 11, 5124, 0), (0, 86, 0)), ((110, .iconst 1, 1, 0, 0, 0, 0), (0, 0, 0)), ((111, .isub, 1, 0, 0, 0, 0), (0, 0, 0)), ((112, .putfield 162, 3, 10, 11, 5124, 0), (0, 86, 0)), ((115, .aload_n 0, 1, 0, 0, 0, 0), (0, 0, 0)), ((116, .aload_n 0, 1, 0, 0, 0, 0), (0, 0, 0)), ((117, .getfield 159, 3, 10, 9, 5122, 0), (0, 86, 0)), ((120, .iconst 1, 1, 0, 0, 0, 0), (0, 0, 0)), ((121, .isub, 1, 0, 0, 0, 0), (0, 0, 0)), ((122, .putfield 159, 3, 10, 9, 5122, 0), (0, 86, 0)), ((125, .aload_n 0, 1, 0, 0, 0, 0), (0, 0, 0)), ((126, .aload_n 0, 1, 0, 0, 0, 0), (0, 0, 0)), ((127, .getfield 132, 3, 10, 5, 5118, 0), (0, 86, 0)), ((130, .iconst 1, 1, 0, 0, 0, 0), (0, 0, 0)), ((131, .iadd, 1, 0, 0, 0, 0), (0, 0, 0)), ((132, .putfield 132, 3, 10, 5, 5118, 0), (0, 86, 0)), ((135, .goto 28, 3, 0, 0, 0, 0), (0, 0, 0)), ((163, .goto (-149), 3, 0, 0, 0, 0), (0, 0, 0))] (by decide +kernel) rfl ?_
  exact hx_pick [0, 1] h1

/-- readsSum from 143 on -/
theorem hr173_143 {xs : List Int32} {n : Nat} {Q : hQ} {m : gx_M} {s0 : Int}
    (h1 : (s0 = 0) → hxn xs n yp_m181 0 [(0, .inr (.inl 86)), (1, .inl 1)] [] m (fun r m' => hxn xs n yp_m173 161 [] (hrs r ++ []) m' Q))
    (h2 : (s0 ≠ 0) → hxn xs n yp_m172 0 [(0, .inr (.inl 86)), (1, .inl 1), (2, .inl (m 86 5))] [] m (fun r m' => hxn xs n yp_m173 155 [] (hrs r ++ []) m' Q)) : hxn xs (n + 1) yp_m173 143 [(0, .inr (.inl 86))] [.inl s0] m Q := by
  refine hx_ifs .eq 156 (by decide +kernel) (fun c1 => ?_) (fun c1 => ?_)
  · have c1 : s0 = 0 := c1
    refine hx_blk (npc := 158) (L' := [(0, .inr (.inl 86))]) (st' := [.inl 1, .inr (.inl 86)]) (m' := m) [((156, .aload_n 0, 1, 0, 0, 0, 0), (0, 0, 0)), ((157, .iconst 1, 1, 0, 0, 0, 0), (0, 0, 0))] (by decide +kernel) rfl ?_
    exact hx_call (E := (158, .invokevirtual 188, 3, 181, 0, 6096, 0)) (M' := yp_m181) [.inr (.inl 86), .inl 1] [] rfl (by decide +kernel) rfl ⟨rfl, rfl⟩ rfl rfl (hx_mono (h1 c1) (fun r m' h' => hx_pick [] h'))
  · have c1 : s0 ≠ 0 := c1
    refine hx_blk (npc := 152) (L' := [(0, .inr (.inl 86))]) (st' := [.inl (m 86 5), .inl 1, .inr (.inl 86)]) (m' := m) [((146, .aload_n 0, 1, 0, 0, 0, 0), (0, 0, 0)), ((147, .iconst 1, 1, 0, 0, 0, 0), (0, 0, 0)), ((148, .aload_n 0, 1, 0, 0, 0, 0), (0, 0, 0)), ((149, .getfield 132, 3, 10, 5, 5118, 0), (0, 86, 0))] (by decide +kernel) rfl ?_
    exact hx_call (E := (152, .invokevirtual 145, 3, 172, 0, 6061, 0)) (M' := yp_m172) [.inr (.inl 86), .inl 1, .inl (m 86 5)] [] rfl (by decide +kernel) rfl ⟨rfl, rfl⟩ rfl rfl (hx_mono (h2 c1) (fun r m' h' => hx_pick [] h'))

/-- readsSum from 155 on -/
theorem hr173_155 {xs : List Int32} {n : Nat} {Q : hQ} {m : gx_M} {s0 : Int}
    (h1 : Q (some (.inl s0)) m) : hxn xs (n + 1) yp_m173 155 [] [.inl s0] m Q := by
  exact hx_reti (by decide +kernel) h1

/-- readsSum from 161 on -/
theorem hr173_161 {xs : List Int32} {n : Nat} {Q : hQ} {m : gx_M}
    (h1 : Q (some (.inl 1)) m) : hxn xs (n + 1) yp_m173 161 [] [] m Q := by
  refine hx_blks (npc := 162) (L' := []) (st' := [.inl 1]) (m' := m) ((161, .iconst 1, 1, 0, 0, 0, 0), (0, 0, 0)) [] (by decide +kernel) rfl ?_
  exact hx_reti (by decide +kernel) h1

/-- readsCompared from 0 on -/
theorem hr185_0 {xs : List Int32} {n : Nat} {Q : hQ} {m : gx_M}
    (h1 : hxn xs n yp_m173 0 [(0, .inr (.inl 86))] [] m (fun r m' => hxn xs n yp_m185 4 [(0, .inr (.inl 86))] (hrs r ++ []) m' Q)) : hxn xs (n + 1) yp_m185 0 [(0, .inr (.inl 86))] [] m Q := by
  refine hx_blks (npc := 1) (L' := [(0, .inr (.inl 86))]) (st' := [.inr (.inl 86)]) (m' := m) ((0, .aload_n 0, 1, 0, 0, 0, 0), (0, 0, 0)) [] (by decide +kernel) rfl ?_
  exact hx_call (E := (1, .invokevirtual 195, 3, 173, 0, 6065, 0)) (M' := yp_m173) [.inr (.inl 86)] [] rfl (by decide +kernel) rfl ⟨rfl, rfl⟩ rfl rfl (hx_mono h1 (fun r m' h' => hx_pick [0] h'))

/-- readsCompared from 4 on -/
theorem hr185_4 {xs : List Int32} {n : Nat} {Q : hQ} {m : gx_M} {s0 : Int}
    (h1 : (s0 ≠ 0) → ((aHere m) ≠ 60) → ((aHere m) ≠ 62) → ((aHere m) ≠ 61) → hxn xs n yp_m172 0 [(0, .inr (.inl 86)), (1, .inl 1), (2, .inl (m 86 5))] [] m (fun r m' => hxn xs n yp_m185 67 [] (hrs r ++ []) m' Q))
    (h2 : (s0 ≠ 0) → ((aHere m) ≠ 60) → ((aHere m) ≠ 62) → ((aHere m) = 61) → hxn xs n yp_m173 0 [(0, .inr (.inl 86))] [] (gx_u m 86 5 (gx_w ((m 86 5) + 1))) (fun r m' => hxn xs n yp_m185 82 [(0, .inr (.inl 86)), (1, .inl 9)] (hrs r ++ []) m' Q))
    (h3 : (s0 ≠ 0) → ((aHere m) ≠ 60) → ((aHere m) = 62) → hxn xs n yp_m173 0 [(0, .inr (.inl 86))] [] (gx_u m 86 5 (gx_w ((m 86 5) + 1))) (fun r m' => hxn xs n yp_m185 82 [(0, .inr (.inl 86)), (1, .inl 8)] (hrs r ++ []) m' Q))
    (h4 : (s0 ≠ 0) → ((aHere m) = 60) → hxn xs n yp_m173 0 [(0, .inr (.inl 86))] [] (gx_u m 86 5 (gx_w ((m 86 5) + 1))) (fun r m' => hxn xs n yp_m185 82 [(0, .inr (.inl 86)), (1, .inl 7)] (hrs r ++ []) m' Q))
    (h5 : (s0 = 0) → Q (some (.inl 0)) m) : hxn xs (n + 1) yp_m185 4 [(0, .inr (.inl 86))] [.inl s0] m Q := by
  refine hx_ifs .ne 9 (by decide +kernel) (fun c1 => ?_) (fun c1 => ?_)
  · have c1 : s0 ≠ 0 := c1
    refine hx_blk (npc := 10) (L' := [(0, .inr (.inl 86))]) (st' := [.inr (.inl 86)]) (m' := m) [((9, .aload_n 0, 1, 0, 0, 0, 0), (0, 0, 0))] (by decide +kernel) rfl ?_
    refine hx_call (E := (10, .invokevirtual 138, 3, 170, 0, 6054, 0)) (M' := yp_m170) [.inr (.inl 86)] [] rfl (by decide +kernel) rfl ⟨rfl, rfl⟩ rfl rfl (hs170 ?_)
    show hxn xs n yp_m185 13 [(0, .inr (.inl 86))] [.inl (aHere m)] m Q
    refine hx_blk (npc := 15) (L' := [(0, .inr (.inl 86))]) (st' := [.inl 60, .inl (aHere m)]) (m' := m) [((13, .bipush 60, 2, 0, 0, 0, 0), (0, 0, 0))] (by decide +kernel) rfl ?_
    refine hx_cmp .ne 23 (by decide +kernel) (fun c2 => ?_) (fun c2 => ?_)
    · have c2 : (aHere m) ≠ 60 := c2
      refine hx_blk (npc := 24) (L' := [(0, .inr (.inl 86))]) (st' := [.inr (.inl 86)]) (m' := m) [((23, .aload_n 0, 1, 0, 0, 0, 0), (0, 0, 0))] (by decide +kernel) rfl ?_
      refine hx_call (E := (24, .invokevirtual 138, 3, 170, 0, 6054, 0)) (M' := yp_m170) [.inr (.inl 86)] [] rfl (by decide +kernel) rfl ⟨rfl, rfl⟩ rfl rfl (hs170 ?_)
      show hxn xs n yp_m185 27 [(0, .inr (.inl 86))] [.inl (aHere m)] m Q
      refine hx_blk (npc := 29) (L' := [(0, .inr (.inl 86))]) (st' := [.inl 62, .inl (aHere m)]) (m' := m) [((27, .bipush 62, 2, 0, 0, 0, 0), (0, 0, 0))] (by decide +kernel) rfl ?_
      refine hx_cmp .ne 37 (by decide +kernel) (fun c3 => ?_) (fun c3 => ?_)
      · have c3 : (aHere m) ≠ 62 := c3
        refine hx_blk (npc := 38) (L' := [(0, .inr (.inl 86))]) (st' := [.inr (.inl 86)]) (m' := m) [((37, .aload_n 0, 1, 0, 0, 0, 0), (0, 0, 0))] (by decide +kernel) rfl ?_
        refine hx_call (E := (38, .invokevirtual 138, 3, 170, 0, 6054, 0)) (M' := yp_m170) [.inr (.inl 86)] [] rfl (by decide +kernel) rfl ⟨rfl, rfl⟩ rfl rfl (hs170 ?_)
        show hxn xs n yp_m185 41 [(0, .inr (.inl 86))] [.inl (aHere m)] m Q
        refine hx_blk (npc := 43) (L' := [(0, .inr (.inl 86))]) (st' := [.inl 61, .inl (aHere m)]) (m' := m) [((41, .bipush 61, 2, 0, 0, 0, 0), (0, 0, 0))] (by decide +kernel) rfl ?_
        refine hx_cmp .ne 51 (by decide +kernel) (fun c4 => ?_) (fun c4 => ?_)
        · have c4 : (aHere m) ≠ 61 := c4
          refine hx_blk (npc := 55) (L' := [(0, .inr (.inl 86)), (1, .inl (-1))]) (st' := [.inl (-1), .inl (-1)]) (m' := m) [((51, .iconst (-1), 1, 0, 0, 0, 0), (0, 0, 0)), ((52, .istore_n 1, 1, 0, 0, 0, 0), (0, 0, 0)), ((53, .iload_n 1, 1, 0, 0, 0, 0), (0, 0, 0)), ((54, .iconst (-1), 1, 0, 0, 0, 0), (0, 0, 0))] (by decide +kernel) rfl ?_
          refine hx_cmp .ne 68 (by decide +kernel) (fun c5 => ?_) (fun c5 => ?_)
          · have c5 : (-1 : Int) ≠ (-1) := c5
            exfalso; omega
          · have c5 : (-1 : Int) = (-1) := by have h : ¬ ((-1 : Int) ≠ (-1)) := c5; omega
            refine hx_blk (npc := 64) (L' := [(0, .inr (.inl 86)), (1, .inl (-1))]) (st' := [.inl (m 86 5), .inl 1, .inr (.inl 86)]) (m' := m) [((58, .aload_n 0, 1, 0, 0, 0, 0), (0, 0, 0)), ((59, .iconst 1, 1, 0, 0, 0, 0), (0, 0, 0)), ((60, .aload_n 0, 1, 0, 0, 0, 0), (0, 0, 0)), ((61, .getfield 132, 3, 10, 5, 5118, 0), (0, 86, 0))] (by decide +kernel) rfl ?_
            exact hx_call (E := (64, .invokevirtual 145, 3, 172, 0, 6061, 0)) (M' := yp_m172) [.inr (.inl 86), .inl 1, .inl (m 86 5)] [] rfl (by decide +kernel) rfl ⟨rfl, rfl⟩ rfl rfl (hx_mono (h1 c1 c2 c3 c4) (fun r m' h' => hx_pick [] h'))
        · have c4 : (aHere m) = 61 := by have h : ¬ ((aHere m) ≠ 61) := c4; omega
          refine hx_blk (npc := 55) (L' := [(0, .inr (.inl 86)), (1, .inl 9)]) (st' := [.inl (-1), .inl 9]) (m' := m) [((46, .bipush 9, 2, 0, 0, 0, 0), (0, 0, 0)), ((48, .goto 4, 3, 0, 0, 0, 0), (0, 0, 0)), ((52, .istore_n 1, 1, 0, 0, 0, 0), (0, 0, 0)), ((53, .iload_n 1, 1, 0, 0, 0, 0), (0, 0, 0)), ((54, .iconst (-1), 1, 0, 0, 0, 0), (0, 0, 0))] (by decide +kernel) rfl ?_
          refine hx_cmp .ne 68 (by decide +kernel) (fun c5 => ?_) (fun c5 => ?_)
          · have c5 : (9 : Int) ≠ (-1) := c5
            refine hx_blk (npc := 79) (L' := [(0, .inr (.inl 86)), (1, .inl 9)]) (st' := [.inr (.inl 86)]) (m' := (gx_u m 86 5 (gx_w ((m 86 5) + 1)))) [((68, .aload_n 0, 1, 0, 0, 0, 0), (0, 0, 0)), ((69, .aload_n 0, 1, 0, 0, 0, 0), (0, 0, 0)), ((70, .getfield 132, 3, 10, 5, 5118, 0), (0, 86, 0)), ((73, .iconst 1, 1, 0, 0, 0, 0), (0, 0, 0)), ((74, .iadd, 1, 0, 0, 0, 0), (0, 0, 0)), ((75, .putfield 132, 3, 10, 5, 5118, 0), (0, 86, 0)), ((78, .aload_n 0, 1, 0, 0, 0, 0), (0, 0, 0))] (by decide +kernel) rfl ?_
            exact hx_call (E := (79, .invokevirtual 195, 3, 173, 0, 6065, 0)) (M' := yp_m173) [.inr (.inl 86)] [] rfl (by decide +kernel) rfl ⟨rfl, rfl⟩ rfl rfl (hx_mono (h2 c1 c2 c3 c4) (fun r m' h' => hx_pick [0, 1] h'))
          · have c5 : (9 : Int) = (-1) := by have h : ¬ ((9 : Int) ≠ (-1)) := c5; omega
            exfalso; omega
      · have c3 : (aHere m) = 62 := by have h : ¬ ((aHere m) ≠ 62) := c3; omega
        refine hx_blk (npc := 55) (L' := [(0, .inr (.inl 86)), (1, .inl 8)]) (st' := [.inl (-1), .inl 8]) (m' := m) [((32, .bipush 8, 2, 0, 0, 0, 0), (0, 0, 0)), ((34, .goto 18, 3, 0, 0, 0, 0), (0, 0, 0)), ((52, .istore_n 1, 1, 0, 0, 0, 0), (0, 0, 0)), ((53, .iload_n 1, 1, 0, 0, 0, 0), (0, 0, 0)), ((54, .iconst (-1), 1, 0, 0, 0, 0), (0, 0, 0))] (by decide +kernel) rfl ?_
        refine hx_cmp .ne 68 (by decide +kernel) (fun c4 => ?_) (fun c4 => ?_)
        · have c4 : (8 : Int) ≠ (-1) := c4
          refine hx_blk (npc := 79) (L' := [(0, .inr (.inl 86)), (1, .inl 8)]) (st' := [.inr (.inl 86)]) (m' := (gx_u m 86 5 (gx_w ((m 86 5) + 1)))) [((68, .aload_n 0, 1, 0, 0, 0, 0), (0, 0, 0)), ((69, .aload_n 0, 1, 0, 0, 0, 0), (0, 0, 0)), ((70, .getfield 132, 3, 10, 5, 5118, 0), (0, 86, 0)), ((73, .iconst 1, 1, 0, 0, 0, 0), (0, 0, 0)), ((74, .iadd, 1, 0, 0, 0, 0), (0, 0, 0)), ((75, .putfield 132, 3, 10, 5, 5118, 0), (0, 86, 0)), ((78, .aload_n 0, 1, 0, 0, 0, 0), (0, 0, 0))] (by decide +kernel) rfl ?_
          exact hx_call (E := (79, .invokevirtual 195, 3, 173, 0, 6065, 0)) (M' := yp_m173) [.inr (.inl 86)] [] rfl (by decide +kernel) rfl ⟨rfl, rfl⟩ rfl rfl (hx_mono (h3 c1 c2 c3) (fun r m' h' => hx_pick [0, 1] h'))
        · have c4 : (8 : Int) = (-1) := by have h : ¬ ((8 : Int) ≠ (-1)) := c4; omega
          exfalso; omega
    · have c2 : (aHere m) = 60 := by have h : ¬ ((aHere m) ≠ 60) := c2; omega
      refine hx_blk (npc := 55) (L' := [(0, .inr (.inl 86)), (1, .inl 7)]) (st' := [.inl (-1), .inl 7]) (m' := m) [((18, .bipush 7, 2, 0, 0, 0, 0), (0, 0, 0)), ((20, .goto 32, 3, 0, 0, 0, 0), (0, 0, 0)), ((52, .istore_n 1, 1, 0, 0, 0, 0), (0, 0, 0)), ((53, .iload_n 1, 1, 0, 0, 0, 0), (0, 0, 0)), ((54, .iconst (-1), 1, 0, 0, 0, 0), (0, 0, 0))] (by decide +kernel) rfl ?_
      refine hx_cmp .ne 68 (by decide +kernel) (fun c3 => ?_) (fun c3 => ?_)
      · have c3 : (7 : Int) ≠ (-1) := c3
        refine hx_blk (npc := 79) (L' := [(0, .inr (.inl 86)), (1, .inl 7)]) (st' := [.inr (.inl 86)]) (m' := (gx_u m 86 5 (gx_w ((m 86 5) + 1)))) [((68, .aload_n 0, 1, 0, 0, 0, 0), (0, 0, 0)), ((69, .aload_n 0, 1, 0, 0, 0, 0), (0, 0, 0)), ((70, .getfield 132, 3, 10, 5, 5118, 0), (0, 86, 0)), ((73, .iconst 1, 1, 0, 0, 0, 0), (0, 0, 0)), ((74, .iadd, 1, 0, 0, 0, 0), (0, 0, 0)), ((75, .putfield 132, 3, 10, 5, 5118, 0), (0, 86, 0)), ((78, .aload_n 0, 1, 0, 0, 0, 0), (0, 0, 0))] (by decide +kernel) rfl ?_
        exact hx_call (E := (79, .invokevirtual 195, 3, 173, 0, 6065, 0)) (M' := yp_m173) [.inr (.inl 86)] [] rfl (by decide +kernel) rfl ⟨rfl, rfl⟩ rfl rfl (hx_mono (h4 c1 c2) (fun r m' h' => hx_pick [0, 1] h'))
      · have c3 : (7 : Int) = (-1) := by have h : ¬ ((7 : Int) ≠ (-1)) := c3; omega
        exfalso; omega
  · have c1 : s0 = 0 := by have h : ¬ (s0 ≠ 0) := c1; omega
    refine hx_blk (npc := 8) (L' := [(0, .inr (.inl 86))]) (st' := [.inl 0]) (m' := m) [((7, .iconst 0, 1, 0, 0, 0, 0), (0, 0, 0))] (by decide +kernel) rfl ?_
    exact hx_reti (by decide +kernel) (h5 c1)

/-- readsCompared from 67 on -/
theorem hr185_67 {xs : List Int32} {n : Nat} {Q : hQ} {m : gx_M} {s0 : Int}
    (h1 : Q (some (.inl s0)) m) : hxn xs (n + 1) yp_m185 67 [] [.inl s0] m Q := by
  exact hx_reti (by decide +kernel) h1

/-- readsCompared from 82 on -/
theorem hr185_82 {xs : List Int32} {n : Nat} {Q : hQ} {m : gx_M} {x1 s0 : Int}
    (h1 : (s0 ≠ 0) → hxn xs n yp_m178 0 [(0, .inr (.inl 86)), (1, .inl x1), (2, .inl 0)] [] m (fun r m' => hxn xs n yp_m185 93 [(0, .inr (.inl 86))] (hrs r ++ []) m' Q))
    (h2 : (s0 = 0) → Q (some (.inl 0)) m) : hxn xs (n + 1) yp_m185 82 [(0, .inr (.inl 86)), (1, .inl x1)] [.inl s0] m Q := by
  refine hx_ifs .ne 87 (by decide +kernel) (fun c1 => ?_) (fun c1 => ?_)
  · have c1 : s0 ≠ 0 := c1
    refine hx_blk (npc := 90) (L' := [(0, .inr (.inl 86)), (1, .inl x1)]) (st' := [.inl 0, .inl x1, .inr (.inl 86)]) (m' := m) [((87, .aload_n 0, 1, 0, 0, 0, 0), (0, 0, 0)), ((88, .iload_n 1, 1, 0, 0, 0, 0), (0, 0, 0)), ((89, .iconst 0, 1, 0, 0, 0, 0), (0, 0, 0))] (by decide +kernel) rfl ?_
    exact hx_call (E := (90, .invokevirtual 168, 3, 178, 0, 6086, 0)) (M' := yp_m178) [.inr (.inl 86), .inl x1, .inl 0] [] rfl (by decide +kernel) rfl ⟨rfl, rfl⟩ rfl rfl (hx_mono (h1 c1) (fun r m' h' => hx_pick [0] h'))
  · have c1 : s0 = 0 := by have h : ¬ (s0 ≠ 0) := c1; omega
    refine hx_blk (npc := 86) (L' := [(0, .inr (.inl 86)), (1, .inl x1)]) (st' := [.inl 0]) (m' := m) [((85, .iconst 0, 1, 0, 0, 0, 0), (0, 0, 0))] (by decide +kernel) rfl ?_
    exact hx_reti (by decide +kernel) (h2 c1)

/-- readsCompared from 93 on -/
theorem hr185_93 {xs : List Int32} {n : Nat} {Q : hQ} {m : gx_M}
    (h1 : hxn xs n yp_m186 0 [(0, .inr (.inl 86))] [] m (fun r m' => hxn xs n yp_m185 97 [] (hrs r ++ []) m' Q)) : hxn xs (n + 1) yp_m185 93 [(0, .inr (.inl 86))] [] m Q := by
  refine hx_blks (npc := 94) (L' := [(0, .inr (.inl 86))]) (st' := [.inr (.inl 86)]) (m' := m) ((93, .aload_n 0, 1, 0, 0, 0, 0), (0, 0, 0)) [] (by decide +kernel) rfl ?_
  exact hx_call (E := (94, .invokevirtual 198, 3, 186, 0, 6116, 0)) (M' := yp_m186) [.inr (.inl 86)] [] rfl (by decide +kernel) rfl ⟨rfl, rfl⟩ rfl rfl (hx_mono h1 (fun r m' h' => hx_pick [] h'))

/-- readsCompared from 97 on -/
theorem hr185_97 {xs : List Int32} {n : Nat} {Q : hQ} {m : gx_M}
    (h1 : Q (some (.inl 1)) m) : hxn xs (n + 1) yp_m185 97 [] [] m Q := by
  refine hx_blks (npc := 98) (L' := []) (st' := [.inl 1]) (m' := m) ((97, .iconst 1, 1, 0, 0, 0, 0), (0, 0, 0)) [] (by decide +kernel) rfl ?_
  exact hx_reti (by decide +kernel) h1

/-- readsCondition from 0 on -/
theorem hr184_0 {xs : List Int32} {n : Nat} {Q : hQ} {m : gx_M}
    (h1 : ((aHere m) = 40) → hxn xs n yp_m175 0 [(0, .inr (.inl 86)), (1, .inl 13)] [] (gx_u (gx_u m 86 9 0) 86 11 0) (fun r m' => hxn xs n yp_m184 35 [(0, .inr (.inl 86))] (hrs r ++ []) m' Q))
    (h2 : ((aHere m) ≠ 40) → hxn xs n yp_m172 0 [(0, .inr (.inl 86)), (1, .inl 1), (2, .inl (m 86 5))] [] m (fun r m' => hxn xs n yp_m184 18 [] (hrs r ++ []) m' Q)) : hxn xs (n + 1) yp_m184 0 [(0, .inr (.inl 86))] [] m Q := by
  refine hx_blks (npc := 1) (L' := [(0, .inr (.inl 86))]) (st' := [.inr (.inl 86)]) (m' := m) ((0, .aload_n 0, 1, 0, 0, 0, 0), (0, 0, 0)) [] (by decide +kernel) rfl ?_
  refine hx_call (E := (1, .invokevirtual 138, 3, 170, 0, 6054, 0)) (M' := yp_m170) [.inr (.inl 86)] [] rfl (by decide +kernel) rfl ⟨rfl, rfl⟩ rfl rfl (hs170 ?_)
  show hxn xs n yp_m184 4 [(0, .inr (.inl 86))] [.inl (aHere m)] m Q
  refine hx_blk (npc := 6) (L' := [(0, .inr (.inl 86))]) (st' := [.inl 40, .inl (aHere m)]) (m' := m) [((4, .bipush 40, 2, 0, 0, 0, 0), (0, 0, 0))] (by decide +kernel) rfl ?_
  refine hx_cmp .eq 19 (by decide +kernel) (fun c1 => ?_) (fun c1 => ?_)
  · have c1 : (aHere m) = 40 := c1
    refine hx_blk (npc := 32) (L' := [(0, .inr (.inl 86))]) (st' := [.inl 13, .inr (.inl 86)]) (m' := (gx_u (gx_u m 86 9 0) 86 11 0)) [((19, .aload_n 0, 1, 0, 0, 0, 0), (0, 0, 0)), ((20, .iconst 0, 1, 0, 0, 0, 0), (0, 0, 0)), ((21, .putfield 159, 3, 10, 9, 5122, 0), (0, 86, 0)), ((24, .aload_n 0, 1, 0, 0, 0, 0), (0, 0, 0)), ((25, .iconst 0, 1, 0, 0, 0, 0), (0, 0, 0)), ((26, .putfield 162, 3, 10, 11, 5124, 0), (0, 86, 0)), ((29, .aload_n 0, 1, 0, 0, 0, 0), (0, 0, 0)), ((30, .bipush 13, 2, 0, 0, 0, 0), (0, 0, 0))] (by decide +kernel) rfl ?_
    exact hx_call (E := (32, .invokevirtual 172, 3, 175, 0, 6073, 0)) (M' := yp_m175) [.inr (.inl 86), .inl 13] [] rfl (by decide +kernel) rfl ⟨rfl, rfl⟩ rfl rfl (hx_mono (h1 c1) (fun r m' h' => hx_pick [0] h'))
  · have c1 : (aHere m) ≠ 40 := c1
    refine hx_blk (npc := 15) (L' := [(0, .inr (.inl 86))]) (st' := [.inl (m 86 5), .inl 1, .inr (.inl 86)]) (m' := m) [((9, .aload_n 0, 1, 0, 0, 0, 0), (0, 0, 0)), ((10, .iconst 1, 1, 0, 0, 0, 0), (0, 0, 0)), ((11, .aload_n 0, 1, 0, 0, 0, 0), (0, 0, 0)), ((12, .getfield 132, 3, 10, 5, 5118, 0), (0, 86, 0))] (by decide +kernel) rfl ?_
    exact hx_call (E := (15, .invokevirtual 145, 3, 172, 0, 6061, 0)) (M' := yp_m172) [.inr (.inl 86), .inl 1, .inl (m 86 5)] [] rfl (by decide +kernel) rfl ⟨rfl, rfl⟩ rfl rfl (hx_mono (h2 c1) (fun r m' h' => hx_pick [] h'))

/-- readsCondition from 18 on -/
theorem hr184_18 {xs : List Int32} {n : Nat} {Q : hQ} {m : gx_M} {s0 : Int}
    (h1 : Q (some (.inl s0)) m) : hxn xs (n + 1) yp_m184 18 [] [.inl s0] m Q := by
  exact hx_reti (by decide +kernel) h1

/-- readsCondition from 35 on -/
theorem hr184_35 {xs : List Int32} {n : Nat} {Q : hQ} {m : gx_M} {s0 : Int}
    (h1 : (s0 ≠ 0) → hxn xs n yp_m184 40 [(0, .inr (.inl 86))] [] m Q)
    (h2 : (s0 = 0) → Q (some (.inl 0)) m) : hxn xs (n + 1) yp_m184 35 [(0, .inr (.inl 86))] [.inl s0] m Q := by
  refine hx_ifs .ne 40 (by decide +kernel) (fun c1 => ?_) (fun c1 => ?_)
  · have c1 : s0 ≠ 0 := c1
    exact hx_pick [0] (h1 c1)
  · have c1 : s0 = 0 := by have h : ¬ (s0 ≠ 0) := c1; omega
    refine hx_blk (npc := 39) (L' := [(0, .inr (.inl 86))]) (st' := [.inl 0]) (m' := m) [((38, .iconst 0, 1, 0, 0, 0, 0), (0, 0, 0))] (by decide +kernel) rfl ?_
    exact hx_reti (by decide +kernel) (h2 c1)

/-- readsCondition from 40 on -/
theorem hr184_40 {xs : List Int32} {n : Nat} {Q : hQ} {m : gx_M}
    (h1 : ((aHere m) = 33) → ((aHere m) = 33) → hxn xs n yp_m175 0 [(0, .inr (.inl 86)), (1, .inl 10)] [] m (fun r m' => hxn xs n yp_m184 78 [(0, .inr (.inl 86))] (hrs r ++ []) m' Q))
    (h2 : ((aHere m) ≠ 33) → ((aHere m) ≠ 40) → hxn xs n yp_m185 0 [(0, .inr (.inl 86))] [] m (fun r m' => hxn xs n yp_m184 87 [(0, .inr (.inl 86))] (hrs r ++ []) m' Q))
    (h3 : ((aHere m) ≠ 33) → ((aHere m) = 40) → ((aHere m) ≠ 33) → hxn xs n yp_m175 0 [(0, .inr (.inl 86)), (1, .inl 13)] [] m (fun r m' => hxn xs n yp_m184 78 [(0, .inr (.inl 86))] (hrs r ++ []) m' Q)) : hxn xs (n + 1) yp_m184 40 [(0, .inr (.inl 86))] [] m Q := by
  refine hx_blks (npc := 41) (L' := [(0, .inr (.inl 86))]) (st' := [.inr (.inl 86)]) (m' := m) ((40, .aload_n 0, 1, 0, 0, 0, 0), (0, 0, 0)) [] (by decide +kernel) rfl ?_
  refine hx_call (E := (41, .invokevirtual 138, 3, 170, 0, 6054, 0)) (M' := yp_m170) [.inr (.inl 86)] [] rfl (by decide +kernel) rfl ⟨rfl, rfl⟩ rfl rfl (hs170 ?_)
  show hxn xs n yp_m184 44 [(0, .inr (.inl 86))] [.inl (aHere m)] m Q
  refine hx_blk (npc := 46) (L' := [(0, .inr (.inl 86))]) (st' := [.inl 33, .inl (aHere m)]) (m' := m) [((44, .bipush 33, 2, 0, 0, 0, 0), (0, 0, 0))] (by decide +kernel) rfl ?_
  refine hx_cmp .eq 58 (by decide +kernel) (fun c1 => ?_) (fun c1 => ?_)
  · have c1 : (aHere m) = 33 := c1
    refine hx_blk (npc := 60) (L' := [(0, .inr (.inl 86))]) (st' := [.inr (.inl 86), .inr (.inl 86)]) (m' := m) [((58, .aload_n 0, 1, 0, 0, 0, 0), (0, 0, 0)), ((59, .aload_n 0, 1, 0, 0, 0, 0), (0, 0, 0))] (by decide +kernel) rfl ?_
    refine hx_call (E := (60, .invokevirtual 138, 3, 170, 0, 6054, 0)) (M' := yp_m170) [.inr (.inl 86)] [.inr (.inl 86)] rfl (by decide +kernel) rfl ⟨rfl, rfl⟩ rfl rfl (hs170 ?_)
    show hxn xs n yp_m184 63 [(0, .inr (.inl 86))] [.inl (aHere m), .inr (.inl 86)] m Q
    refine hx_blk (npc := 65) (L' := [(0, .inr (.inl 86))]) (st' := [.inl 33, .inl (aHere m), .inr (.inl 86)]) (m' := m) [((63, .bipush 33, 2, 0, 0, 0, 0), (0, 0, 0))] (by decide +kernel) rfl ?_
    refine hx_cmp .ne 73 (by decide +kernel) (fun c2 => ?_) (fun c2 => ?_)
    · have c2 : (aHere m) ≠ 33 := c2
      exfalso; omega
    · have c2 : (aHere m) = 33 := by have h : ¬ ((aHere m) ≠ 33) := c2; omega
      refine hx_blk (npc := 75) (L' := [(0, .inr (.inl 86))]) (st' := [.inl 10, .inr (.inl 86)]) (m' := m) [((68, .bipush 10, 2, 0, 0, 0, 0), (0, 0, 0)), ((70, .goto 5, 3, 0, 0, 0, 0), (0, 0, 0))] (by decide +kernel) rfl ?_
      exact hx_call (E := (75, .invokevirtual 172, 3, 175, 0, 6073, 0)) (M' := yp_m175) [.inr (.inl 86), .inl 10] [] rfl (by decide +kernel) rfl ⟨rfl, rfl⟩ rfl rfl (hx_mono (h1 c1 c2) (fun r m' h' => hx_pick [0] h'))
  · have c1 : (aHere m) ≠ 33 := c1
    refine hx_blk (npc := 50) (L' := [(0, .inr (.inl 86))]) (st' := [.inr (.inl 86)]) (m' := m) [((49, .aload_n 0, 1, 0, 0, 0, 0), (0, 0, 0))] (by decide +kernel) rfl ?_
    refine hx_call (E := (50, .invokevirtual 138, 3, 170, 0, 6054, 0)) (M' := yp_m170) [.inr (.inl 86)] [] rfl (by decide +kernel) rfl ⟨rfl, rfl⟩ rfl rfl (hs170 ?_)
    show hxn xs n yp_m184 53 [(0, .inr (.inl 86))] [.inl (aHere m)] m Q
    refine hx_blk (npc := 55) (L' := [(0, .inr (.inl 86))]) (st' := [.inl 40, .inl (aHere m)]) (m' := m) [((53, .bipush 40, 2, 0, 0, 0, 0), (0, 0, 0))] (by decide +kernel) rfl ?_
    refine hx_cmp .ne 83 (by decide +kernel) (fun c2 => ?_) (fun c2 => ?_)
    · have c2 : (aHere m) ≠ 40 := c2
      refine hx_blk (npc := 84) (L' := [(0, .inr (.inl 86))]) (st' := [.inr (.inl 86)]) (m' := m) [((83, .aload_n 0, 1, 0, 0, 0, 0), (0, 0, 0))] (by decide +kernel) rfl ?_
      exact hx_call (E := (84, .invokevirtual 201, 3, 185, 0, 6112, 0)) (M' := yp_m185) [.inr (.inl 86)] [] rfl (by decide +kernel) rfl ⟨rfl, rfl⟩ rfl rfl (hx_mono (h2 c1 c2) (fun r m' h' => hx_pick [0] h'))
    · have c2 : (aHere m) = 40 := by have h : ¬ ((aHere m) ≠ 40) := c2; omega
      refine hx_blk (npc := 60) (L' := [(0, .inr (.inl 86))]) (st' := [.inr (.inl 86), .inr (.inl 86)]) (m' := m) [((58, .aload_n 0, 1, 0, 0, 0, 0), (0, 0, 0)), ((59, .aload_n 0, 1, 0, 0, 0, 0), (0, 0, 0))] (by decide +kernel) rfl ?_
      refine hx_call (E := (60, .invokevirtual 138, 3, 170, 0, 6054, 0)) (M' := yp_m170) [.inr (.inl 86)] [.inr (.inl 86)] rfl (by decide +kernel) rfl ⟨rfl, rfl⟩ rfl rfl (hs170 ?_)
      show hxn xs n yp_m184 63 [(0, .inr (.inl 86))] [.inl (aHere m), .inr (.inl 86)] m Q
      refine hx_blk (npc := 65) (L' := [(0, .inr (.inl 86))]) (st' := [.inl 33, .inl (aHere m), .inr (.inl 86)]) (m' := m) [((63, .bipush 33, 2, 0, 0, 0, 0), (0, 0, 0))] (by decide +kernel) rfl ?_
      refine hx_cmp .ne 73 (by decide +kernel) (fun c3 => ?_) (fun c3 => ?_)
      · have c3 : (aHere m) ≠ 33 := c3
        refine hx_blk (npc := 75) (L' := [(0, .inr (.inl 86))]) (st' := [.inl 13, .inr (.inl 86)]) (m' := m) [((73, .bipush 13, 2, 0, 0, 0, 0), (0, 0, 0))] (by decide +kernel) rfl ?_
        exact hx_call (E := (75, .invokevirtual 172, 3, 175, 0, 6073, 0)) (M' := yp_m175) [.inr (.inl 86), .inl 13] [] rfl (by decide +kernel) rfl ⟨rfl, rfl⟩ rfl rfl (hx_mono (h3 c1 c2 c3) (fun r m' h' => hx_pick [0] h'))
      · have c3 : (aHere m) = 33 := by have h : ¬ ((aHere m) ≠ 33) := c3; omega
        exfalso; omega

/-- readsCondition from 78 on -/
theorem hr184_78 {xs : List Int32} {n : Nat} {Q : hQ} {m : gx_M} {s0 : Int}
    (h1 : (s0 ≠ 0) → hxn xs n yp_m184 40 [(0, .inr (.inl 86))] [] m Q)
    (h2 : (s0 = 0) → Q (some (.inl 0)) m) : hxn xs (n + 1) yp_m184 78 [(0, .inr (.inl 86))] [.inl s0] m Q := by
  refine hx_ifs .ne 40 (by decide +kernel) (fun c1 => ?_) (fun c1 => ?_)
  · have c1 : s0 ≠ 0 := c1
    exact hx_pick [0] (h1 c1)
  · have c1 : s0 = 0 := by have h : ¬ (s0 ≠ 0) := c1; omega
    refine hx_blk (npc := 82) (L' := [(0, .inr (.inl 86))]) (st' := [.inl 0]) (m' := m) [((81, .iconst 0, 1, 0, 0, 0, 0), (0, 0, 0))] (by decide +kernel) rfl ?_
    exact hx_reti (by decide +kernel) (h2 c1)

/-- readsCondition from 87 on -/
theorem hr184_87 {xs : List Int32} {n : Nat} {Q : hQ} {m : gx_M} {s0 : Int}
    (h1 : (s0 ≠ 0) → hxn xs n yp_m184 92 [(0, .inr (.inl 86))] [] m Q)
    (h2 : (s0 = 0) → Q (some (.inl 0)) m) : hxn xs (n + 1) yp_m184 87 [(0, .inr (.inl 86))] [.inl s0] m Q := by
  refine hx_ifs .ne 92 (by decide +kernel) (fun c1 => ?_) (fun c1 => ?_)
  · have c1 : s0 ≠ 0 := c1
    exact hx_pick [0] (h1 c1)
  · have c1 : s0 = 0 := by have h : ¬ (s0 ≠ 0) := c1; omega
    refine hx_blk (npc := 91) (L' := [(0, .inr (.inl 86))]) (st' := [.inl 0]) (m' := m) [((90, .iconst 0, 1, 0, 0, 0, 0), (0, 0, 0))] (by decide +kernel) rfl ?_
    exact hx_reti (by decide +kernel) (h2 c1)

/-- readsCondition from 92 on -/
theorem hr184_92 {xs : List Int32} {n : Nat} {Q : hQ} {m : gx_M}
    (h1 : ((aHere m) ≠ 41) → ((aHere m) = 38) → ((aHere m) ≠ 124) → hxn xs n yp_m187 0 [(0, .inr (.inl 86)), (1, .inl 0)] [] m (fun r m' => hxn xs n yp_m184 198 [(0, .inr (.inl 86))] (hrs r ++ []) m' Q))
    (h2 : ((aHere m) ≠ 41) → ((aHere m) ≠ 38) → ((aHere m) = 124) → ((aHere m) = 124) → hxn xs n yp_m187 0 [(0, .inr (.inl 86)), (1, .inl 1)] [] m (fun r m' => hxn xs n yp_m184 198 [(0, .inr (.inl 86))] (hrs r ++ []) m' Q))
    (h3 : ((aHere m) ≠ 41) → ((aHere m) ≠ 38) → ((aHere m) ≠ 124) → hxn xs n yp_m172 0 [(0, .inr (.inl 86)), (1, .inl 1), (2, .inl (m 86 5))] [] m (fun r m' => hxn xs n yp_m184 179 [] (hrs r ++ []) m' Q))
    (h4 : ((aHere m) = 41) → hxn xs n yp_m187 0 [(0, .inr (.inl 86)), (1, .inl 1)] [] m (fun r m' => hxn xs n yp_m184 106 [(0, .inr (.inl 86))] (hrs r ++ []) m' Q)) : hxn xs (n + 1) yp_m184 92 [(0, .inr (.inl 86))] [] m Q := by
  refine hx_blks (npc := 93) (L' := [(0, .inr (.inl 86))]) (st' := [.inr (.inl 86)]) (m' := m) ((92, .aload_n 0, 1, 0, 0, 0, 0), (0, 0, 0)) [] (by decide +kernel) rfl ?_
  refine hx_call (E := (93, .invokevirtual 138, 3, 170, 0, 6054, 0)) (M' := yp_m170) [.inr (.inl 86)] [] rfl (by decide +kernel) rfl ⟨rfl, rfl⟩ rfl rfl (hs170 ?_)
  show hxn xs n yp_m184 96 [(0, .inr (.inl 86))] [.inl (aHere m)] m Q
  refine hx_blk (npc := 98) (L' := [(0, .inr (.inl 86))]) (st' := [.inl 41, .inl (aHere m)]) (m' := m) [((96, .bipush 41, 2, 0, 0, 0, 0), (0, 0, 0))] (by decide +kernel) rfl ?_
  refine hx_cmp .ne 152 (by decide +kernel) (fun c1 => ?_) (fun c1 => ?_)
  · have c1 : (aHere m) ≠ 41 := c1
    refine hx_blk (npc := 153) (L' := [(0, .inr (.inl 86))]) (st' := [.inr (.inl 86)]) (m' := m) [((152, .aload_n 0, 1, 0, 0, 0, 0), (0, 0, 0))] (by decide +kernel) rfl ?_
    refine hx_call (E := (153, .invokevirtual 138, 3, 170, 0, 6054, 0)) (M' := yp_m170) [.inr (.inl 86)] [] rfl (by decide +kernel) rfl ⟨rfl, rfl⟩ rfl rfl (hs170 ?_)
    show hxn xs n yp_m184 156 [(0, .inr (.inl 86))] [.inl (aHere m)] m Q
    refine hx_blk (npc := 158) (L' := [(0, .inr (.inl 86))]) (st' := [.inl 38, .inl (aHere m)]) (m' := m) [((156, .bipush 38, 2, 0, 0, 0, 0), (0, 0, 0))] (by decide +kernel) rfl ?_
    refine hx_cmp .eq 180 (by decide +kernel) (fun c2 => ?_) (fun c2 => ?_)
    · have c2 : (aHere m) = 38 := c2
      refine hx_blk (npc := 182) (L' := [(0, .inr (.inl 86))]) (st' := [.inr (.inl 86), .inr (.inl 86)]) (m' := m) [((180, .aload_n 0, 1, 0, 0, 0, 0), (0, 0, 0)), ((181, .aload_n 0, 1, 0, 0, 0, 0), (0, 0, 0))] (by decide +kernel) rfl ?_
      refine hx_call (E := (182, .invokevirtual 138, 3, 170, 0, 6054, 0)) (M' := yp_m170) [.inr (.inl 86)] [.inr (.inl 86)] rfl (by decide +kernel) rfl ⟨rfl, rfl⟩ rfl rfl (hs170 ?_)
      show hxn xs n yp_m184 185 [(0, .inr (.inl 86))] [.inl (aHere m), .inr (.inl 86)] m Q
      refine hx_blk (npc := 187) (L' := [(0, .inr (.inl 86))]) (st' := [.inl 124, .inl (aHere m), .inr (.inl 86)]) (m' := m) [((185, .bipush 124, 2, 0, 0, 0, 0), (0, 0, 0))] (by decide +kernel) rfl ?_
      refine hx_cmp .ne 194 (by decide +kernel) (fun c3 => ?_) (fun c3 => ?_)
      · have c3 : (aHere m) ≠ 124 := c3
        refine hx_blk (npc := 195) (L' := [(0, .inr (.inl 86))]) (st' := [.inl 0, .inr (.inl 86)]) (m' := m) [((194, .iconst 0, 1, 0, 0, 0, 0), (0, 0, 0))] (by decide +kernel) rfl ?_
        exact hx_call (E := (195, .invokevirtual 204, 3, 187, 0, 6120, 0)) (M' := yp_m187) [.inr (.inl 86), .inl 0] [] rfl (by decide +kernel) rfl ⟨rfl, rfl⟩ rfl rfl (hx_mono (h1 c1 c2 c3) (fun r m' h' => hx_pick [0] h'))
      · have c3 : (aHere m) = 124 := by have h : ¬ ((aHere m) ≠ 124) := c3; omega
        exfalso; omega
    · have c2 : (aHere m) ≠ 38 := c2
      refine hx_blk (npc := 162) (L' := [(0, .inr (.inl 86))]) (st' := [.inr (.inl 86)]) (m' := m) [((161, .aload_n 0, 1, 0, 0, 0, 0), (0, 0, 0))] (by decide +kernel) rfl ?_
      refine hx_call (E := (162, .invokevirtual 138, 3, 170, 0, 6054, 0)) (M' := yp_m170) [.inr (.inl 86)] [] rfl (by decide +kernel) rfl ⟨rfl, rfl⟩ rfl rfl (hs170 ?_)
      show hxn xs n yp_m184 165 [(0, .inr (.inl 86))] [.inl (aHere m)] m Q
      refine hx_blk (npc := 167) (L' := [(0, .inr (.inl 86))]) (st' := [.inl 124, .inl (aHere m)]) (m' := m) [((165, .bipush 124, 2, 0, 0, 0, 0), (0, 0, 0))] (by decide +kernel) rfl ?_
      refine hx_cmp .eq 180 (by decide +kernel) (fun c3 => ?_) (fun c3 => ?_)
      · have c3 : (aHere m) = 124 := c3
        refine hx_blk (npc := 182) (L' := [(0, .inr (.inl 86))]) (st' := [.inr (.inl 86), .inr (.inl 86)]) (m' := m) [((180, .aload_n 0, 1, 0, 0, 0, 0), (0, 0, 0)), ((181, .aload_n 0, 1, 0, 0, 0, 0), (0, 0, 0))] (by decide +kernel) rfl ?_
        refine hx_call (E := (182, .invokevirtual 138, 3, 170, 0, 6054, 0)) (M' := yp_m170) [.inr (.inl 86)] [.inr (.inl 86)] rfl (by decide +kernel) rfl ⟨rfl, rfl⟩ rfl rfl (hs170 ?_)
        show hxn xs n yp_m184 185 [(0, .inr (.inl 86))] [.inl (aHere m), .inr (.inl 86)] m Q
        refine hx_blk (npc := 187) (L' := [(0, .inr (.inl 86))]) (st' := [.inl 124, .inl (aHere m), .inr (.inl 86)]) (m' := m) [((185, .bipush 124, 2, 0, 0, 0, 0), (0, 0, 0))] (by decide +kernel) rfl ?_
        refine hx_cmp .ne 194 (by decide +kernel) (fun c4 => ?_) (fun c4 => ?_)
        · have c4 : (aHere m) ≠ 124 := c4
          exfalso; omega
        · have c4 : (aHere m) = 124 := by have h : ¬ ((aHere m) ≠ 124) := c4; omega
          refine hx_blk (npc := 195) (L' := [(0, .inr (.inl 86))]) (st' := [.inl 1, .inr (.inl 86)]) (m' := m) [((190, .iconst 1, 1, 0, 0, 0, 0), (0, 0, 0)), ((191, .goto 4, 3, 0, 0, 0, 0), (0, 0, 0))] (by decide +kernel) rfl ?_
          exact hx_call (E := (195, .invokevirtual 204, 3, 187, 0, 6120, 0)) (M' := yp_m187) [.inr (.inl 86), .inl 1] [] rfl (by decide +kernel) rfl ⟨rfl, rfl⟩ rfl rfl (hx_mono (h2 c1 c2 c3 c4) (fun r m' h' => hx_pick [0] h'))
      · have c3 : (aHere m) ≠ 124 := c3
        refine hx_blk (npc := 176) (L' := [(0, .inr (.inl 86))]) (st' := [.inl (m 86 5), .inl 1, .inr (.inl 86)]) (m' := m) [((170, .aload_n 0, 1, 0, 0, 0, 0), (0, 0, 0)), ((171, .iconst 1, 1, 0, 0, 0, 0), (0, 0, 0)), ((172, .aload_n 0, 1, 0, 0, 0, 0), (0, 0, 0)), ((173, .getfield 132, 3, 10, 5, 5118, 0), (0, 86, 0))] (by decide +kernel) rfl ?_
        exact hx_call (E := (176, .invokevirtual 145, 3, 172, 0, 6061, 0)) (M' := yp_m172) [.inr (.inl 86), .inl 1, .inl (m 86 5)] [] rfl (by decide +kernel) rfl ⟨rfl, rfl⟩ rfl rfl (hx_mono (h3 c1 c2 c3) (fun r m' h' => hx_pick [] h'))
  · have c1 : (aHere m) = 41 := by have h : ¬ ((aHere m) ≠ 41) := c1; omega
    refine hx_blk (npc := 103) (L' := [(0, .inr (.inl 86))]) (st' := [.inl 1, .inr (.inl 86)]) (m' := m) [((101, .aload_n 0, 1, 0, 0, 0, 0), (0, 0, 0)), ((102, .iconst 1, 1, 0, 0, 0, 0), (0, 0, 0))] (by decide +kernel) rfl ?_
    exact hx_call (E := (103, .invokevirtual 204, 3, 187, 0, 6120, 0)) (M' := yp_m187) [.inr (.inl 86), .inl 1] [] rfl (by decide +kernel) rfl ⟨rfl, rfl⟩ rfl rfl (hx_mono (h4 c1) (fun r m' h' => hx_pick [0] h'))

/-- readsCondition from 106 on -/
theorem hr184_106 {xs : List Int32} {n : Nat} {Q : hQ} {m : gx_M}
    (h1 : ((gx_w ((m 86 11) - 1)) ≠ 0) → hxn xs n yp_m186 0 [(0, .inr (.inl 86))] [] (gx_u (gx_u (gx_u m 86 11 (gx_w ((m 86 11) - 1))) 86 9 (gx_w ((m 86 9) - 1))) 86 5 (gx_w ((m 86 5) + 1))) (fun r m' => hxn xs n yp_m184 149 [(0, .inr (.inl 86))] (hrs r ++ []) m' Q))
    (h2 : ((gx_w ((m 86 11) - 1)) = 0) → Q (some (.inl 1)) (gx_u (gx_u (gx_u m 86 11 (gx_w ((m 86 11) - 1))) 86 9 (gx_w ((m 86 9) - 1))) 86 5 (gx_w ((m 86 5) + 1)))) : hxn xs (n + 1) yp_m184 106 [(0, .inr (.inl 86))] [] m Q := by
  refine hx_blks (npc := 140) (L' := [(0, .inr (.inl 86))]) (st' := [.inl (gx_w ((m 86 11) - 1))]) (m' := (gx_u (gx_u (gx_u m 86 11 (gx_w ((m 86 11) - 1))) 86 9 (gx_w ((m 86 9) - 1))) 86 5 (gx_w ((m 86 5) + 1)))) ((106, .aload_n 0, 1, 0, 0, 0, 0), (0, 0, 0)) [((107, .aload_n 0, 1, 0, 0, 0, 0), (0, 0, 0)), ((108, .getfield 162, 3, 10, 11, 5124, 0), (0, 86, 0)), ((111, .iconst 1, 1, 0, 0, 0, 0), (0, 0, 0)), ((112, .isub, 1, 0, 0, 0, 0), (0, 0, 0)), ((113, .putfield 162, 3, 10, 11, 5124, 0), (0, 86, 0)), ((116, .aload_n 0, 1, 0, 0, 0, 0), (0, 0, 0)), ((117, .aload_n 0, 1, 0, 0, 0, 0), (0, 0, 0)), ((118, .getfield 159, 3, 10, 9, 5122, 0), (0, 86, 0)), ((121, .iconst 1, 1, 0, 0, 0, 0), (0, 0, 0)), ((122, .isub, 1, 0, 0, 0, 0), (0, 0, 0)), ((123, .putfield 159, 3, 10, 9, 5122, 0), (0, 86, 0)), ((126, .aload_n 0, 1, 0, 0, 0, 0), (0, 0, 0)), ((127, .aload_n 0, 1, 0, 0, 0, 0), (0, 0, 0)), ((128, .getfield 132, 3, 10, 5, 5118, 0), (0, 86, 0)), ((131, .iconst 1, 1, 0, 0, 0, 0), (0, 0, 0)), ((132, .iadd, 1, 0, 0, 0, 0), (0, 0, 0)), ((133, .putfield 132, 3, 10, 5, 5118, 0), (0, 86, 0)), ((136, .aload_n 0, 1, 0, 0, 0, 0), (0, 0, 0)), ((137, .getfield 162, 3, 10, 11, 5124, 0), (0, 86, 0))] (by decide +kernel) rfl ?_
  refine hx_if .ne 145 (by decide +kernel) (fun c1 => ?_) (fun c1 => ?_)
  · have c1 : (gx_w ((m 86 11) - 1)) ≠ 0 := c1
    refine hx_blk (npc := 146) (L' := [(0, .inr (.inl 86))]) (st' := [.inr (.inl 86)]) (m' := (gx_u (gx_u (gx_u m 86 11 (gx_w ((m 86 11) - 1))) 86 9 (gx_w ((m 86 9) - 1))) 86 5 (gx_w ((m 86 5) + 1)))) [((145, .aload_n 0, 1, 0, 0, 0, 0), (0, 0, 0))] (by decide +kernel) rfl ?_
    exact hx_call (E := (146, .invokevirtual 198, 3, 186, 0, 6116, 0)) (M' := yp_m186) [.inr (.inl 86)] [] rfl (by decide +kernel) rfl ⟨rfl, rfl⟩ rfl rfl (hx_mono (h1 c1) (fun r m' h' => hx_pick [0] h'))
  · have c1 : (gx_w ((m 86 11) - 1)) = 0 := by have h : ¬ ((gx_w ((m 86 11) - 1)) ≠ 0) := c1; omega
    refine hx_blk (npc := 144) (L' := [(0, .inr (.inl 86))]) (st' := [.inl 1]) (m' := (gx_u (gx_u (gx_u m 86 11 (gx_w ((m 86 11) - 1))) 86 9 (gx_w ((m 86 9) - 1))) 86 5 (gx_w ((m 86 5) + 1)))) [((143, .iconst 1, 1, 0, 0, 0, 0), (0, 0, 0))] (by decide +kernel) rfl ?_
    exact hx_reti (by decide +kernel) (h2 c1)

/-- readsCondition from 149 on -/
theorem hr184_149 {xs : List Int32} {n : Nat} {Q : hQ} {m : gx_M}
    (h1 : hxn xs n yp_m184 92 [(0, .inr (.inl 86))] [] m Q) : hxn xs (n + 1) yp_m184 149 [(0, .inr (.inl 86))] [] m Q := by
  refine hx_blks (npc := 92) (L' := [(0, .inr (.inl 86))]) (st' := []) (m' := m) ((149, .goto (-57), 3, 0, 0, 0, 0), (0, 0, 0)) [] (by decide +kernel) rfl ?_
  exact hx_pick [0] h1

/-- readsCondition from 179 on -/
theorem hr184_179 {xs : List Int32} {n : Nat} {Q : hQ} {m : gx_M} {s0 : Int}
    (h1 : Q (some (.inl s0)) m) : hxn xs (n + 1) yp_m184 179 [] [.inl s0] m Q := by
  exact hx_reti (by decide +kernel) h1

/-- readsCondition from 198 on -/
theorem hr184_198 {xs : List Int32} {n : Nat} {Q : hQ} {m : gx_M}
    (h1 : ((aHere m) ≠ 38) → hxn xs n yp_m188 0 [(0, .inr (.inl 86)), (1, .inl 12)] [] m (fun r m' => hxn xs n yp_m184 218 [(0, .inr (.inl 86))] (hrs r ++ []) m' Q))
    (h2 : ((aHere m) = 38) → hxn xs n yp_m188 0 [(0, .inr (.inl 86)), (1, .inl 11)] [] m (fun r m' => hxn xs n yp_m184 218 [(0, .inr (.inl 86))] (hrs r ++ []) m' Q)) : hxn xs (n + 1) yp_m184 198 [(0, .inr (.inl 86))] [] m Q := by
  refine hx_blks (npc := 200) (L' := [(0, .inr (.inl 86))]) (st' := [.inr (.inl 86), .inr (.inl 86)]) (m' := m) ((198, .aload_n 0, 1, 0, 0, 0, 0), (0, 0, 0)) [((199, .aload_n 0, 1, 0, 0, 0, 0), (0, 0, 0))] (by decide +kernel) rfl ?_
  refine hx_call (E := (200, .invokevirtual 138, 3, 170, 0, 6054, 0)) (M' := yp_m170) [.inr (.inl 86)] [.inr (.inl 86)] rfl (by decide +kernel) rfl ⟨rfl, rfl⟩ rfl rfl (hs170 ?_)
  show hxn xs n yp_m184 203 [(0, .inr (.inl 86))] [.inl (aHere m), .inr (.inl 86)] m Q
  refine hx_blk (npc := 205) (L' := [(0, .inr (.inl 86))]) (st' := [.inl 38, .inl (aHere m), .inr (.inl 86)]) (m' := m) [((203, .bipush 38, 2, 0, 0, 0, 0), (0, 0, 0))] (by decide +kernel) rfl ?_
  refine hx_cmp .ne 213 (by decide +kernel) (fun c1 => ?_) (fun c1 => ?_)
  · have c1 : (aHere m) ≠ 38 := c1
    refine hx_blk (npc := 215) (L' := [(0, .inr (.inl 86))]) (st' := [.inl 12, .inr (.inl 86)]) (m' := m) [((213, .bipush 12, 2, 0, 0, 0, 0), (0, 0, 0))] (by decide +kernel) rfl ?_
    exact hx_call (E := (215, .invokevirtual 207, 3, 188, 0, 6124, 0)) (M' := yp_m188) [.inr (.inl 86), .inl 12] [] rfl (by decide +kernel) rfl ⟨rfl, rfl⟩ rfl rfl (hx_mono (h1 c1) (fun r m' h' => hx_pick [0] h'))
  · have c1 : (aHere m) = 38 := by have h : ¬ ((aHere m) ≠ 38) := c1; omega
    refine hx_blk (npc := 215) (L' := [(0, .inr (.inl 86))]) (st' := [.inl 11, .inr (.inl 86)]) (m' := m) [((208, .bipush 11, 2, 0, 0, 0, 0), (0, 0, 0)), ((210, .goto 5, 3, 0, 0, 0, 0), (0, 0, 0))] (by decide +kernel) rfl ?_
    exact hx_call (E := (215, .invokevirtual 207, 3, 188, 0, 6124, 0)) (M' := yp_m188) [.inr (.inl 86), .inl 11] [] rfl (by decide +kernel) rfl ⟨rfl, rfl⟩ rfl rfl (hx_mono (h2 c1) (fun r m' h' => hx_pick [0] h'))

/-- readsCondition from 218 on -/
theorem hr184_218 {xs : List Int32} {n : Nat} {Q : hQ} {m : gx_M}
    (h1 : hxn xs n yp_m184 40 [(0, .inr (.inl 86))] [] m Q) : hxn xs (n + 1) yp_m184 218 [(0, .inr (.inl 86))] [] m Q := by
  refine hx_blks (npc := 40) (L' := [(0, .inr (.inl 86))]) (st' := []) (m' := m) ((218, .goto (-178), 3, 0, 0, 0, 0), (0, 0, 0)) [] (by decide +kernel) rfl ?_
  exact hx_pick [0] h1
end
section
/-! the reference: jumps that land, sums that are open, numbers -/
section RL
variable {xs : List Int32} {n : Nat} {Q : hQ} {T : Nat → Int} {L p o : Nat} {m0 m : gx_M} {K W : hCode}
theorem rs187_p {x a c0 : Int} {f : Nat} (hS : rS T L m0 p K (W ++ [(a, (f : Int))]) o m) (ha : a = 11 ∨ (a = 12 ∧ x ≠ 0)) (hc : (c0 = 38 ∧ a = 11) ∨ (c0 = 124 ∧ a = 12)) (hf : K[f]? = some (c0, 0)) (h : ∀ m', rS T L m0 p (K.set f (c0, (K.length : Int))) W o m' → hxn xs n yp_m187 0 [(0, .inr (.inl 86)), (1, .inl x)] [] m' Q) : hxn xs n yp_m187 0 [(0, .inr (.inl 86)), (1, .inl x)] [] m Q := by
  have hw := rs_wl hS
  have hwl := rs_W hS
  have hkl := rs_kl hS
  rw [List.length_append, List.length_singleton] at hw hwl
  have hlt := lk_lt hf
  obtain ⟨e2, b1, b2, b3, b4⟩ := hS.2.2.1.2 W.length _ lk_last
  dsimp only at e2 b1 b2 b3 b4
  have ei : (gx_w (m 86 11 - 1)).toNat = W.length := by
    rw [hwl, gx_w_id (by omega) (by omega)]
    omega
  have et : Int.tmod (1048576 * a + (f : Int)) 1048576 = (f : Int) := by
    rw [Int.tmod_eq_emod_of_nonneg (by omega)]
    omega
  have ek : m 91 f = 1048576 * a := by
    rw [hS.2.1.2 f _ hf]
    rcases hc with ⟨rfl, rfl⟩ | ⟨rfl, rfl⟩ <;> decide
  have ed : Int.tdiv (1048576 * a) 1048576 = a := by
    rw [Int.tdiv_eq_ediv_of_nonneg (by omega)]
    omega
  have s1 : rS T L m0 p (K.set f (c0, (K.length : Int))) (W ++ [(a, (f : Int))]) o (gx_u m 91 f (1048576 * a + (K.length : Int))) := by
    refine rS_of hS ?_ ?_ (fun i d hd => ?_) ?_ (fun i r hr => ?_) ?_ (fun c k c1 c2 c3 => ?_) (rs_le hS) (by rw [List.length_set]; exact hkl) (rs_wl hS) (rs_ol hS)
    · rw [gx_u_ne (by omega)]
      exact rs_pl hS
    · rw [gx_u_ne (by omega), List.length_set]
      exact rs_K hS
    · rcases lk_set hd with ⟨rfl, rfl⟩ | ⟨hne, hd⟩
      · rw [gx_u_self]
        rcases hc with ⟨rfl, rfl⟩ | ⟨rfl, rfl⟩ <;> rfl
      · rw [gx_u_ne (by omega)]
        exact hS.2.1.2 i d hd
    · rw [gx_u_ne (by omega)]
      exact rs_W hS
    · rw [gx_u_ne (by omega)]
      exact hS.2.2.1.2 i r hr
    · rw [gx_u_ne (by omega)]
      exact rs_o hS
    · rw [gx_u_ne (by omega)]
  have s2 := rs_po s1
  have e3 : gx_u m 91 f (1048576 * a + (K.length : Int)) 86 11 = m 86 11 := gx_u_ne (by omega)
  rw [e3] at s2
  have fin : hxn xs n yp_m187 0 [(0, .inr (.inl 86)), (1, .inl x)] [] (gx_u (gx_u m 91 (Int.tmod (m 92 (gx_w ((m 86 11) - 1)).toNat) 1048576).toNat (gx_w ((gx_w (1048576 * (gx_w (Int.tdiv (m 91 (Int.tmod (m 92 (gx_w ((m 86 11) - 1)).toNat) 1048576).toNat) 1048576)))) + (m 86 10)))) 86 11 (gx_w ((m 86 11) - 1))) Q := by
    rw [ei, e2, et, Int.toNat_natCast, ek, ed, gx_w_id (x := a) (by omega) (by omega), gx_w_id (x := 1048576 * a) (by omega) (by omega), rs_K hS, gx_w_id (x := 1048576 * a + (K.length : Int)) (by omega) (by omega)]
    exact h _ s2
  refine hx_dn (hr187_0 (rs182 hS ?_))
  rw [wtop_app]
  show hxn xs n yp_m187 4 [(0, .inr (.inl 86)), (1, .inl x)] [.inl a] m Q
  rcases ha with ha | ⟨ha, hx⟩
  · exact hx_dn (hr187_4 (fun _ => fin) (fun c => absurd ha c) (fun c => absurd ha c))
  · refine hx_dn (hr187_4 (fun c => absurd c (by omega)) (fun _ c => absurd c hx) (fun _ _ => rs182 hS ?_))
    rw [wtop_app]
    show hxn xs n yp_m187 17 [(0, .inr (.inl 86)), (1, .inl x)] [.inl a] m Q
    exact hx_dn (hr187_17 (fun c => absurd ha c) (fun _ => fin))
theorem rs187_s {x : Int} (hS : rS T L m0 p K W o m) (h1 : wtop W ≠ 11) (h2 : x ≠ 0 → wtop W ≠ 12) (h : Q none m) : hxn xs n yp_m187 0 [(0, .inr (.inl 86)), (1, .inl x)] [] m Q := by
  refine hx_dn (hr187_0 (rs182 hS ?_))
  show hxn xs n yp_m187 4 [(0, .inr (.inl 86)), (1, .inl x)] [.inl (wtop W)] m Q
  refine hx_dn (hr187_4 (fun c => absurd c h1) (fun _ _ => h) (fun _ c => rs182 hS ?_))
  show hxn xs n yp_m187 17 [(0, .inr (.inl 86)), (1, .inl x)] [.inl (wtop W)] m Q
  exact hx_dn (hr187_17 (fun _ => h) (fun e => absurd e (h2 c)))
theorem rl183 (hS : rS T L m0 p K W o m) {b : Nat} (h1 : (∃ i q, b ≤ i ∧ W[i]? = some q ∧ q.1 = 14) → Q (some (.inl 1)) m) (h0 : (∀ i q, b ≤ i → W[i]? = some q → q.1 ≠ 14) → Q (some (.inl 0)) m) : ∀ e i : Nat, i + e = W.length → b ≤ i → (∀ j q, b ≤ j → j < i → W[j]? = some q → q.1 ≠ 14) → hxn xs n yp_m183 2 [(0, .inr (.inl 86)), (2, .inl (i : Int))] [] m Q := by
  have hw := rs_wl hS
  have hwl := rs_W hS
  intro e
  induction e with
  | zero =>
    intro i hi hb hno
    refine hx_dn (hr183_2 (by omega) (fun _ => h0 (fun j q hj hq => ?_)) (fun c => absurd c (by omega)) (fun c => absurd c (by omega)))
    have := lk_lt hq
    exact hno j q hj (by omega) hq
  | succ e ih =>
    intro i hi hb hno
    have hlt : i < W.length := by omega
    obtain ⟨q, hq⟩ : ∃ q, W[i]? = some q := ⟨_, List.getElem?_eq_getElem hlt⟩
    obtain ⟨e2, b1, b2, b3, b4⟩ := hS.2.2.1.2 i q hq
    have ed : gx_w (Int.tdiv (m 92 (i : Int).toNat) 1048576) = q.1 := by
      rw [Int.toNat_natCast, e2, Int.tdiv_eq_ediv_of_nonneg (by omega)]
      have : (1048576 * q.1 + q.2) / 1048576 = q.1 := by omega
      rw [this, gx_w_id (by omega) (by omega)]
    refine hx_dn (hr183_2 (by omega) (fun c => absurd c (by omega)) (fun _ c => ?_) (fun _ c => ?_))
    · rw [ed] at c
      refine ih (i + 1) (by omega) (by omega) (fun j r hj hji hr => ?_)
      by_cases e : j = i
      · subst e
        rw [hq] at hr
        cases hr
        exact c
      · exact hno j r hj (by omega) hr
    · rw [ed] at c
      exact h1 ⟨i, q, hb, hq, c⟩
theorem rs183 (hS : rS T L m0 p K W o m) {b : Nat} (hb : b ≤ W.length) (h1 : (∃ i q, b ≤ i ∧ W[i]? = some q ∧ q.1 = 14) → Q (some (.inl 1)) m) (h0 : (∀ i q, b ≤ i → W[i]? = some q → q.1 ≠ 14) → Q (some (.inl 0)) m) : hxn xs n yp_m183 0 [(0, .inr (.inl 86)), (1, .inl (b : Int))] [] m Q :=
  hx_dn (hr183_0 (rl183 hS h1 h0 (W.length - b) b (by omega) (Nat.le_refl _) (fun j q h1 h2 => absurd h2 (by omega))))
theorem rs_n8 (hS : rS T L m0 p K W o m) (v : Int) : rS T L m0 p K W o (gx_u m 86 8 v) := by
  refine rS_of hS ?_ ?_ (fun i d hd => ?_) ?_ (fun i r hr => ?_) ?_ (fun c k c1 c2 c3 => ?_) (rs_le hS) (rs_kl hS) (rs_wl hS) (rs_ol hS)
  · rw [gx_u_ne (by omega)]
    exact rs_pl hS
  · rw [gx_u_ne (by omega)]
    exact rs_K hS
  · rw [gx_u_ne (by omega)]
    exact hS.2.1.2 i d hd
  · rw [gx_u_ne (by omega)]
    exact rs_W hS
  · rw [gx_u_ne (by omega)]
    exact hS.2.2.1.2 i r hr
  · rw [gx_u_ne (by omega)]
    exact rs_o hS
  · rw [gx_u_ne (by omega)]
theorem rl177 (h1 : ∀ j m', j ≤ 5 → (∀ i, i < j → isDg (tx T L (p + i))) → ¬ isDg (tx T L (p + j)) → rS T L m0 (p + j) K W o m' → m' 86 8 = lnum T p j → Q (some (.inl 1)) m') (h0 : ∀ m', (∀ i, i < 6 → isDg (tx T L (p + i))) → rF m0 (lfl 2 (p + 5)) m' → Q (some (.inl 0)) m') : ∀ e j : Nat, j + e = 5 → ∀ m', rS T L m0 (p + j) K W o m' → m' 86 8 = lnum T p j → (∀ i, i < j → isDg (tx T L (p + i))) → hxn xs n yp_m177 10 [(0, .inr (.inl 86)), (1, .inl (p : Int))] [] m' Q := by
  intro e
  induction e with
  | zero =>
    intro j hj m' hS h8 hd
    have hL := rs_L hS
    have hle := rs_le hS
    have e : j = 5 := by omega
    subst e
    refine hx_dn (hr177_10 (fun _ c => absurd (by rw [rs_pl hS, gx_w_id (by omega) (by omega)]; omega) c) (fun c _ => ?_) (fun c => ?_))
    · rw [rs_he hS] at c
      rw [rs_pl hS]
      refine rs172 hS (by decide) (fun m2 h2 => hx_dn (hr177_36 (h0 m2 (fun i hi => ?_) h2)))
      by_cases e : i = 5
      · rw [e]
        exact c
      · exact hd i (by omega)
    · rw [rs_he hS] at c
      exact h1 5 m' (Nat.le_refl _) hd c hS h8
  | succ e ih =>
    intro j hj m' hS h8 hd
    have hL := rs_L hS
    have hle := rs_le hS
    refine hx_dn (hr177_10 (fun c _ => ?_) (fun _ c => absurd c (by rw [rs_pl hS, gx_w_id (by omega) (by omega)]; omega)) (fun c => ?_))
    · rw [rs_he hS] at c ⊢
      have hlt := isDg_lt c
      have b1 := lnum_bd (T := T) (L := L) (p := p) j hd
      have b2 := lpw_le (j := j) (by omega)
      have c2 : 48 ≤ T (p + j) ∧ T (p + j) ≤ 57 := by
        rw [tx_eq hlt] at c
        exact c
      have ev : gx_w (gx_w (gx_w (10 * m' 86 8) + tx T L (p + j)) - 48) = lnum T p (j + 1) := by
        rw [h8, tx_eq hlt, gx_w_id (x := 10 * lnum T p j) (by omega) (by omega), gx_w_id (x := 10 * lnum T p j + T (p + j)) (by omega) (by omega), gx_w_id (by omega) (by omega)]
        rfl
      rw [ev]
      have s1 := rs_st (rs_n8 hS (lnum T p (j + 1))) hlt
      have e1 : gx_u m' 86 8 (lnum T p (j + 1)) 86 5 = m' 86 5 := gx_u_ne (by omega)
      rw [e1] at s1
      refine ih (j + 1) (by omega) _ s1 (by rw [gx_u_ne (by omega), gx_u_self]) (fun i hi => ?_)
      by_cases e : i = j
      · rw [e]
        exact c
      · exact hd i (by omega)
    · rw [rs_he hS] at c
      exact h1 j m' (by omega) hd c hS h8
theorem rs177 (hS : rS T L m0 p K W o m) (h1 : ∀ j m', j ≤ 5 → (∀ i, i < j → isDg (tx T L (p + i))) → ¬ isDg (tx T L (p + j)) → rS T L m0 (p + j) K W o m' → m' 86 8 = lnum T p j → Q (some (.inl 1)) m') (h0 : ∀ m', (∀ i, i < 6 → isDg (tx T L (p + i))) → rF m0 (lfl 2 (p + 5)) m' → Q (some (.inl 0)) m') : hxn xs n yp_m177 0 [(0, .inr (.inl 86))] [] m Q := by
  refine hx_dn (hr177_0 ?_)
  rw [rs_pl hS]
  exact rl177 h1 h0 5 0 rfl _ (rs_n8 hS 0) (by rw [gx_u_self]; rfl) (fun i hi => absurd hi (by omega))
theorem rs180 {c : Int} (hP : isPr c ∨ isSm c → Q (some (.inl (lop c))) m) (hN : ¬ isPr c → ¬ isSm c → Q (some (.inl (-1))) m) : hxn xs n yp_m180 0 [(0, .inl c)] [] m Q := by
  refine hx_dn (hr180_0 (fun a b d e f => hN ?_ ?_) (fun _ _ _ _ a => ?_) (fun _ _ _ a => ?_) (fun _ _ a => ?_) (fun _ a => ?_) (fun a => ?_))
  · unfold isPr
    omega
  · unfold isSm
    omega
  · subst a
    exact hP (.inl (.inr (.inr rfl)))
  · subst a
    exact hP (.inl (.inr (.inl rfl)))
  · subst a
    exact hP (.inl (.inl rfl))
  · subst a
    exact hP (.inr (.inr rfl))
  · subst a
    exact hP (.inr (.inl rfl))
theorem rs179 {c : Int} (hP : isLt c → Q (some (.inl (lfa c))) m) (hN : ¬ isLt c → Q (some (.inl (-1))) m) : hxn xs n yp_m179 0 [(0, .inl c)] [] m Q := by
  refine hs179 ?_
  by_cases a : isLt c
  · exact hP a
  · have e : lfa c = -1 := by
      unfold isLt at a
      unfold lfa
      omega
    rw [e]
    exact hN a
end RL
end
section
/-! the reference's sums: signs that wait -/
def Pn1 (K' Kc W W' : hCode) : Prop := (Kc = K' ∧ W' = W) ∨ ∃ s, isPr s ∧ K' = Kc ++ [(s, 0)] ∧ W' = W ++ [(lop s, 0)]
def Pn2 (K' Kc W W' : hCode) : Prop := Pn1 K' Kc W W' ∨ ∃ s, isSm s ∧ ∃ K1, K' = K1 ++ [(s, 0)] ∧ Pn1 K1 Kc (W ++ [(lop s, 0)]) W'
theorem lop_pr {s : Int} (h : isPr s) : 4 ≤ lop s ∧ lop s ≤ 6 := by
  unfold isPr at h
  unfold lop
  omega
theorem lop_sm {s : Int} (h : isSm s) : 2 ≤ lop s ∧ lop s ≤ 3 := by
  unfold isSm at h
  unfold lop
  omega
theorem Pn1_len {K' Kc W W' : hCode} (h : Pn1 K' Kc W W') : Kc.length ≤ K'.length ∧ W.length ≤ W'.length ∧ W'.length ≤ W.length + 1 := by
  rcases h with ⟨rfl, rfl⟩ | ⟨s, -, rfl, rfl⟩
  · omega
  · rw [List.length_append, List.length_singleton, List.length_append, List.length_singleton]
    omega
theorem Pn2_len {K' Kc W W' : hCode} (h : Pn2 K' Kc W W') : Kc.length ≤ K'.length ∧ W.length ≤ W'.length ∧ W'.length ≤ W.length + 2 := by
  rcases h with h | ⟨s, -, K1, rfl, h⟩
  · have := Pn1_len h
    omega
  · have := Pn1_len h
    rw [List.length_append, List.length_singleton] at this ⊢
    omega
theorem Pn1_at {K' Kc W W' : hCode} (h : Pn1 K' Kc W W') {i : Nat} (hi : i < W.length) : W'[i]? = W[i]? := by
  rcases h with ⟨rfl, rfl⟩ | ⟨s, -, rfl, rfl⟩
  · rfl
  · exact lk_appl hi
theorem Pn2_at {K' Kc W W' : hCode} (h : Pn2 K' Kc W W') {i : Nat} (hi : i < W.length) : W'[i]? = W[i]? := by
  rcases h with h | ⟨s, -, K1, rfl, h⟩
  · exact Pn1_at h hi
  · rw [Pn1_at h (by rw [List.length_append, List.length_singleton]; omega), lk_appl hi]
theorem Pn1_hi {K' Kc W W' : hCode} (h : Pn1 K' Kc W W') {i : Nat} {q : Int × Int} (hi : W.length ≤ i) (hq : W'[i]? = some q) : q.1 ≠ 14 := by
  rcases h with ⟨rfl, rfl⟩ | ⟨s, hs, rfl, rfl⟩
  · have := lk_lt hq
    omega
  · rcases lk_app hq with hq | ⟨-, rfl⟩
    · have := lk_lt hq
      omega
    · have := lop_pr hs
      show lop s ≠ 14
      omega
theorem Pn2_hi {K' Kc W W' : hCode} (h : Pn2 K' Kc W W') {i : Nat} {q : Int × Int} (hi : W.length ≤ i) (hq : W'[i]? = some q) : q.1 ≠ 14 := by
  rcases h with h | ⟨s, hs, K1, rfl, h⟩
  · exact Pn1_hi h hi hq
  · by_cases c : i < (W ++ [(lop s, (0 : Int))]).length
    · rw [Pn1_at h c] at hq
      rcases lk_app hq with hq | ⟨-, rfl⟩
      · have := lk_lt hq
        omega
      · have := lop_sm hs
        show lop s ≠ 14
        omega
    · exact Pn1_hi h (by omega) hq
section RM
variable {xs : List Int32} {n : Nat} {Q : hQ} {T : Nat → Int} {L p o : Nat} {m0 m : gx_M} {K W : hCode}
theorem rs181_c1 {K' Kc W' : hCode} (hP : Pn1 K' Kc W W') (hS : rS T L m0 p Kc W' o m) (ht : ¬ (4 ≤ wtop W ∧ wtop W ≤ 6)) (hk : K'.length ≤ 240) (h : ∀ m', rS T L m0 p K' W o m' → Q none m') : hxn xs n yp_m181 0 [(0, .inr (.inl 86)), (1, .inl 0)] [] m Q := by
  rcases hP with ⟨rfl, rfl⟩ | ⟨s, hs, rfl, rfl⟩
  · exact rs181_s hS ht (fun c => absurd rfl c) (h m hS)
  · rw [List.length_append, List.length_singleton] at hk
    exact rs181_p hS (.inl hs) (by omega) (fun m2 s2 => rs181_s s2 ht (fun c => absurd rfl c) (h m2 s2))
theorem rs181_c2 {K' Kc W' : hCode} (hP : Pn2 K' Kc W W') (hS : rS T L m0 p Kc W' o m) (ht : ¬ (2 ≤ wtop W ∧ wtop W ≤ 6)) (hk : K'.length ≤ 240) (h : ∀ m', rS T L m0 p K' W o m' → Q none m') : hxn xs n yp_m181 0 [(0, .inr (.inl 86)), (1, .inl 1)] [] m Q := by
  have fin : ∀ m', rS T L m0 p K' W o m' → hxn xs n yp_m181 0 [(0, .inr (.inl 86)), (1, .inl 1)] [] m' Q := fun m' s => rs181_s s (by omega) (fun _ => by omega) (h m' s)
  have one : ∀ {K1 Kc W1 W' m} , Pn1 K1 Kc W1 W' → rS T L m0 p Kc W' o m → K1.length ≤ 240 → (∀ m', rS T L m0 p K1 W1 o m' → hxn xs n yp_m181 0 [(0, .inr (.inl 86)), (1, .inl 1)] [] m' Q) → hxn xs n yp_m181 0 [(0, .inr (.inl 86)), (1, .inl 1)] [] m Q := fun {K1 Kc W1 W' m} hP hS hk h => by
    rcases hP with ⟨rfl, rfl⟩ | ⟨s, hs, rfl, rfl⟩
    · exact h m hS
    · rw [List.length_append, List.length_singleton] at hk
      exact rs181_p hS (.inl hs) (by omega) h
  rcases hP with hP | ⟨s, hs, K1, rfl, hP⟩
  · exact one hP hS hk fin
  · rw [List.length_append, List.length_singleton] at hk
    exact one hP hS (by omega) (fun m2 s2 => rs181_p s2 (.inr ⟨by decide, hs⟩) (by omega) fin)
/-- the loop's head of a sum, and a factor's beginning -/
noncomputable def LH (xs : List Int32) (n b : Nat) (Q : hQ) (m : gx_M) : Prop := hxn xs n yp_m173 14 [(0, .inr (.inl 86)), (1, .inl (b : Int))] [] m Q
noncomputable def FE (xs : List Int32) (n b : Nat) (Q : hQ) (m : gx_M) : Prop := ∀ Qf : hQ, (∀ m', LH xs n b Q m' → Qf (some (.inl 1)) m') → (∀ m', Q (some (.inl 0)) m' → Qf (some (.inl 0)) m') → hxn xs n yp_m174 0 [(0, .inr (.inl 86))] [] m Qf
/-- a sign, and on to the factor behind it -/
theorem r_sign {b : Nat} {s : Int} {K' Kc W' : hCode} (hs : isPr s ∨ isSm s) (hP : (isPr s ∧ Pn1 K' Kc W W' ∧ ¬ (4 ≤ wtop W ∧ wtop W ≤ 6)) ∨ (isSm s ∧ Pn2 K' Kc W W' ∧ ¬ (2 ≤ wtop W ∧ wtop W ≤ 6))) (hS : rS T L m0 p Kc W' o m) (ht : tx T L p = s) (hk : K'.length ≤ 240) (hw : W.length < 240) (h : ∀ m', rS T L m0 (p + 1) K' (W ++ [(lop s, 0)]) o m' → FE xs n b Q m') : LH xs n b Q m := by
  have hb := lop_bd s
  have hlt : p < L := tx_lt (by
    rw [ht]
    rcases hs with hs | hs
    · unfold isPr at hs
      omega
    · unfold isSm at hs
      omega)
  have hhe := rs_he hS
  refine hx_dn (hr173_14 ?_)
  rw [hhe, ht]
  refine rs180 (fun _ => ?_) (fun a c => ?_)
  · show hxn xs n yp_m173 21 _ [.inl (lop s)] m Q
    have fin : ∀ m', rS T L m0 p K' W o m' → hxn xs n yp_m173 41 [(0, .inr (.inl 86)), (1, .inl (b : Int)), (2, .inl (lop s))] [] m' Q := fun m' s1 => by
      refine hx_dn (hr173_41 ?_)
      have s2 := rs_st (rs_pu s1 (a := lop s) (v := 0) (by omega) (by omega) hw) hlt
      rw [Int.add_zero] at s2
      have e1 : gx_u (gx_u m' 92 (m' 86 11).toNat (1048576 * lop s)) 86 11 (gx_w (m' 86 11 + 1)) 86 5 = m' 86 5 := by
        rw [gx_u_ne (by omega), gx_u_ne (by omega)]
      rw [e1] at s2
      rw [gx_w_id (x := 1048576 * lop s) (by omega) (by omega)]
      exact h _ s2 _ (fun m3 h3 => hx_dn (hr173_78 (s0 := 1) (fun _ => h3) (fun c => absurd c (by decide)))) (fun m3 h3 => hx_dn (hr173_78 (s0 := 0) (fun c => absurd rfl c) (fun _ => h3)))
    rcases hP with ⟨hp, hP, ht⟩ | ⟨hp, hP, ht⟩
    · have := lop_pr hp
      exact hx_dn (hr173_21 (fun c => absurd c (by omega)) (fun c => absurd c (by omega)) (fun _ _ => rs181_c1 hP hS ht hk fin) (fun _ c => absurd c (by omega)))
    · have := lop_sm hp
      exact hx_dn (hr173_21 (fun c => absurd c (by omega)) (fun c => absurd c (by omega)) (fun _ c => absurd c (by omega)) (fun _ _ => rs181_c2 hP hS ht hk fin))
  · rcases hs with hs | hs
    · exact absurd hs a
    · exact absurd hs c
/-- no sign, a bracket open: it must end -/
theorem r_close {b o1 : Nat} {K' Kc W' : hCode} (hP : Pn2 K' Kc (W ++ [(14, 0)]) W') (hS : rS T L m0 p Kc W' o1 m) (ho : o1 = o + 1) (hb : b ≤ W.length) (hn : ¬ isPr (tx T L p)) (hn2 : ¬ isSm (tx T L p)) (hk : K'.length ≤ 240) (h1 : tx T L p = 93 → ∀ m', rS T L m0 (p + 1) K' W o m' → LH xs n b Q m') (h0 : tx T L p ≠ 93 → ∀ m', rF m0 (lfl 1 p) m' → Q (some (.inl 0)) m') : LH xs n b Q m := by
  have hhe := rs_he hS
  have hwl := rs_wl hS
  have hlen := Pn2_len hP
  have hol := rs_ol hS
  rw [List.length_append, List.length_singleton] at hlen
  have hop : ∃ i q, b ≤ i ∧ W'[i]? = some q ∧ q.1 = 14 := ⟨W.length, (14, 0), hb, by rw [Pn2_at hP (by rw [List.length_append, List.length_singleton]; omega)]; exact lk_last, rfl⟩
  have hno : ¬ ∀ i q, b ≤ i → W'[i]? = some q → q.1 ≠ 14 := fun h => by
    obtain ⟨i, q, a, c, d⟩ := hop
    exact h i q a c d
  refine hx_dn (hr173_14 ?_)
  rw [hhe]
  refine rs180 (fun c => ?_) (fun _ _ => ?_)
  · rcases c with c | c
    · exact absurd c hn
    · exact absurd c hn2
  · show hxn xs n yp_m173 21 _ [.inl (-1)] m Q
    refine hx_dn (hr173_21 (fun _ c => ?_) (fun _ c => ?_) (fun c => absurd rfl c) (fun c => absurd rfl c))
    · rw [hhe] at c
      refine rs183 hS (by omega) (fun _ => ?_) (fun c => absurd c hno)
      show hxn xs n yp_m173 143 _ [.inl 1] m Q
      refine hx_dn (hr173_143 (fun c => absurd c (by decide)) (fun _ => ?_))
      rw [rs_pl hS]
      exact rs172 hS (by decide) (fun m2 h2 => hx_dn (hr173_155 (h0 c m2 h2)))
    · rw [hhe] at c
      refine rs183 hS (by omega) (fun _ => ?_) (fun c => absurd c hno)
      show hxn xs n yp_m173 97 _ [.inl 1] m Q
      refine hx_dn (hr173_97 (fun c => absurd c (by decide)) (fun _ => ?_))
      refine rs181_c2 hP hS (by rw [wtop_app]; decide) hk (fun m2 s2 => ?_)
      show hxn xs n yp_m173 105 _ [] m2 Q
      refine hx_dn (hr173_105 ?_)
      subst ho
      have s3 := rs_po s2
      have s4 := rs_op s3 (o' := o) (v := gx_w (m2 86 9 - 1)) (by rw [rs_o s2, gx_w_id (by omega) (by omega)]; omega) (by omega)
      have s5 := rs_st s4 (tx_lt (by rw [c]; decide))
      have e1 : gx_u (gx_u m2 86 11 (gx_w (m2 86 11 - 1))) 86 9 (gx_w (m2 86 9 - 1)) 86 5 = m2 86 5 := by
        rw [gx_u_ne (by omega), gx_u_ne (by omega)]
      rw [e1] at s5
      exact h1 c _ s5
/-- no sign, no bracket open: the sum is read -/
theorem r_end {b : Nat} {K' Kc W' : hCode} (hP : Pn2 K' Kc W W') (hS : rS T L m0 p Kc W' o m) (hb : b = W.length) (ht : ¬ (2 ≤ wtop W ∧ wtop W ≤ 6)) (hn : ¬ isPr (tx T L p)) (hn2 : ¬ isSm (tx T L p)) (hk : K'.length ≤ 240) (h : ∀ m', rS T L m0 p K' W o m' → Q (some (.inl 1)) m') : LH xs n b Q m := by
  have hhe := rs_he hS
  have hlen := Pn2_len hP
  have hno : ¬ ∃ i q, b ≤ i ∧ W'[i]? = some q ∧ q.1 = 14 := fun ⟨i, q, a, c, d⟩ => Pn2_hi hP (by omega) c d
  have fin : hxn xs n yp_m183 0 [(0, .inr (.inl 86)), (1, .inl (b : Int))] [] m (fun r m' => hxn xs n yp_m173 143 [(0, .inr (.inl 86))] (hrs r ++ []) m' Q) := by
    refine rs183 hS (by omega) (fun c => absurd c hno) (fun _ => ?_)
    show hxn xs n yp_m173 143 _ [.inl 0] m Q
    refine hx_dn (hr173_143 (fun _ => ?_) (fun c => absurd rfl c))
    exact rs181_c2 hP hS ht hk (fun m2 s2 => hx_dn (hr173_161 (h m2 s2)))
  refine hx_dn (hr173_14 ?_)
  rw [hhe]
  refine rs180 (fun c => ?_) (fun _ _ => ?_)
  · rcases c with c | c
    · exact absurd c hn
    · exact absurd c hn2
  · show hxn xs n yp_m173 21 _ [.inl (-1)] m Q
    refine hx_dn (hr173_21 (fun _ _ => fin) (fun _ _ => ?_) (fun c => absurd rfl c) (fun c => absurd rfl c))
    refine rs183 hS (by omega) (fun c => absurd c hno) (fun _ => ?_)
    show hxn xs n yp_m173 97 _ [.inl 0] m Q
    exact hx_dn (hr173_97 (fun _ => fin) (fun c => absurd rfl c))
/-- a number -/
theorem r_num {b : Nat} (hS : rS T L m0 p K W o m) (hd : isDg (tx T L p)) (hk : K.length ≤ p) (h1 : ∀ j m', 1 ≤ j → j ≤ 5 → (∀ i, i < j → isDg (tx T L (p + i))) → ¬ isDg (tx T L (p + j)) → rS T L m0 (p + j) (K ++ [(0, lnum T p j)]) W o m' → LH xs n b Q m') (h0 : ∀ m', (∀ i, i < 6 → isDg (tx T L (p + i))) → rF m0 (lfl 2 (p + 5)) m' → Q (some (.inl 0)) m') : FE xs n b Q m := by
  intro Qf q1 q0
  have hhe := rs_he hS
  have hL := rs_L hS
  refine hx_dn (hr174_0 (fun _ _ => ?_) (fun _ c => absurd (by rw [hhe]; exact hd) c) (fun c => ?_))
  · refine rs177 hS (fun j m2 hj hd2 he s2 h8 => ?_) (fun m2 hd2 h2 => ?_)
    · have hj1 : 1 ≤ j := by
        rcases Nat.eq_zero_or_pos j with rfl | h
        · exact absurd hd he
        · exact h
      have hle := rs_le s2
      have b1 := lnum_bd (T := T) (L := L) (p := p) j hd2
      have b2 := lpw_le hj
      show hxn xs n yp_m174 31 _ [.inl 1] m2 Qf
      refine hx_dn (hr174_31 (fun _ => ?_) (fun c => absurd c (by decide)))
      rw [h8]
      refine rs178 s2 (c := (0, lnum T p j)) ?_ (by decide) (by omega) (by omega) (fun m3 s3 => ?_)
      · show 1048576 * lop 0 + (if (0 : Int) = 1 then lfa (lnum T p j) else lnum T p j) = _
        rw [if_neg (by decide)]
        rfl
      · show hxn xs n yp_m174 45 [] [] m3 Qf
        exact hx_dn (hr174_45 (q1 m3 (h1 j m3 hj1 hj hd2 he s3)))
    · show hxn xs n yp_m174 31 _ [.inl 0] m2 Qf
      exact hx_dn (hr174_31 (fun c => absurd rfl c) (fun _ => q0 m2 (h0 m2 hd2 h2)))
  · rw [hhe] at c
    rw [c] at hd
    unfold isDg at hd
    omega
/-- a letter, or nothing that can stand here -/
theorem r_let {b : Nat} (hS : rS T L m0 p K W o m) (hd : ¬ isDg (tx T L p)) (h9 : tx T L p ≠ 91) (hk : K.length ≤ p) (h1 : isLt (tx T L p) → ∀ m', rS T L m0 (p + 1) (K ++ [(1, tx T L p)]) W o m' → LH xs n b Q m') (h0 : ¬ isLt (tx T L p) → ∀ m', rF m0 (lfl 1 p) m' → Q (some (.inl 0)) m') : FE xs n b Q m := by
  intro Qf q1 q0
  have hhe := rs_he hS
  have hL := rs_L hS
  refine hx_dn (hr174_0 (fun _ c => absurd (by rw [← hhe]; exact c) hd) (fun _ _ => ?_) (fun c => absurd (by rw [← hhe]; exact c) h9))
  rw [hhe]
  refine rs179 (fun a => ?_) (fun a => ?_)
  · have hlt : p < L := tx_lt (fun e => by
      rw [e] at a
      unfold isLt at a
      omega)
    have hb : 0 ≤ lfa (tx T L p) ∧ lfa (tx T L p) ≤ 13 := by
      generalize tx T L p = c at a
      unfold isLt at a
      unfold lfa
      omega
    show hxn xs n yp_m174 54 _ [.inl (lfa (tx T L p))] m Qf
    refine hx_dn (hr174_54 (fun _ => ?_) (fun c => absurd c (by omega)))
    refine rs178 hS (c := (1, tx T L p)) rfl (by decide) (by omega) (by omega) (fun m2 s2 => ?_)
    show hxn xs n yp_m174 76 _ [] m2 Qf
    exact hx_dn (hr174_76 (q1 _ (h1 a _ (rs_st s2 hlt))))
  · show hxn xs n yp_m174 54 _ [.inl (-1)] m Qf
    refine hx_dn (hr174_54 (fun c => absurd rfl c) (fun _ => ?_))
    rw [rs_pl hS]
    exact rs172 hS (by decide) (fun m2 h2 => hx_dn (hr174_69 (q0 m2 (h0 a m2 h2))))
/-- a bracket -/
theorem r_open {b : Nat} (hS : rS T L m0 p K W o m) (h9 : tx T L p = 91) (hw : W.length < 240) (h1 : o < 6 → ∀ m', rS T L m0 (p + 1) K (W ++ [(14, 0)]) (o + 1) m' → FE xs n b Q m') (h0 : o = 6 → ∀ m', rF m0 (lfl 5 p) m' → Q (some (.inl 0)) m') : FE xs n b Q m := by
  intro Qf q1 q0
  have hhe := rs_he hS
  refine hx_dn (hr174_0 (fun c => absurd (by rw [hhe]; exact h9) c) (fun c => absurd (by rw [hhe]; exact h9) c) (fun _ => ?_))
  refine rs175 hS (by decide) (tx_lt (by rw [h9]; decide)) hw (fun ho m2 s2 => ?_) (fun ho m2 s2 => ?_)
  · show hxn xs n yp_m174 15 _ [.inl 1] m2 Qf
    exact hx_dn (hr174_15 (fun _ => h1 ho m2 s2 Qf q1 q0) (fun c => absurd c (by decide)))
  · show hxn xs n yp_m174 15 _ [.inl 0] m2 Qf
    exact hx_dn (hr174_15 (fun c => absurd rfl c) (fun _ => q0 m2 (h0 ho m2 s2)))
end RM
end
section
/-! the reference's sums are the class's -/
theorem lD_npr {T : Nat → Int} {L k o p p' : Nat} {K K' : hCode} (h : lD T L k o p K p' K') : k = 2 → ¬ isPr (tx T L p') := by
  refine h (fun k _ _ _ p' _ => k = 2 → ¬ isPr (tx T L p')) ⟨?_, ?_, ?_, ?_, ?_, ?_, ?_, ?_, ?_, ?_, ?_, ?_, ?_, ?_⟩
  · exact fun _ _ _ _ _ _ _ _ e => absurd e (by decide)
  · exact fun _ _ _ _ e => absurd e (by decide)
  · exact fun _ _ _ _ _ _ _ _ _ e => absurd e (by decide)
  · exact fun _ _ _ _ _ _ e => absurd e (by decide)
  · exact fun _ _ _ _ _ _ _ _ _ _ e => absurd e (by decide)
  · exact fun _ _ _ _ _ _ b _ => b
  · exact fun _ _ _ _ _ _ _ _ _ _ d _ => d
  · exact fun _ _ _ _ _ _ _ _ _ _ _ _ _ e => absurd e (by decide)
  · exact fun _ _ _ _ _ _ _ _ e => absurd e (by decide)
  · exact fun _ _ _ _ _ _ _ _ _ e => absurd e (by decide)
  · exact fun _ _ _ _ _ _ e => absurd e (by decide)
  · exact fun _ _ _ _ _ _ _ _ _ _ e => absurd e (by decide)
  · exact fun _ _ _ _ _ _ _ e => absurd e (by decide)
  · exact fun _ _ _ _ _ _ _ _ _ _ _ e => absurd e (by decide)
noncomputable def rM (T : Nat → Int) (L k o p : Nat) (K : hCode) (p' : Nat) (K' : hCode) : Prop := ∀ (xs : List Int32) (n b : Nat) (Q : hQ) (m0 m : gx_M) (W : hCode), b ≤ W.length → K.length ≤ p → rS T L m0 p K W o m →
  (k = 0 → W.length ≤ 3 * o + 2 → (∀ m', rS T L m0 p' K' W o m' → LH xs n b Q m') → FE xs n b Q m) ∧
  (k = 1 → W.length ≤ 3 * o + 1 → ¬ (4 ≤ wtop W ∧ wtop W ≤ 6) → (∀ m' Kc W', Pn1 K' Kc W W' → rS T L m0 p' Kc W' o m' → LH xs n b Q m') → FE xs n b Q m) ∧
  (k = 2 → W.length ≤ 3 * o → ¬ (2 ≤ wtop W ∧ wtop W ≤ 6) → (∀ m' Kc W', Pn2 K' Kc W W' → rS T L m0 p' Kc W' o m' → LH xs n b Q m') → FE xs n b Q m)
theorem rM_hi {T : Nat → Int} {L k o p p' : Nat} {K K' : hCode} (h : 3 ≤ k) : rM T L k o p K p' K' := fun _ _ _ _ _ _ _ _ _ _ => ⟨fun e => by omega, fun e => by omega, fun e => by omega⟩
theorem isDg_91 {c : Int} (h : c = 91) : ¬ isDg c ∧ ¬ isLt c ∧ ¬ isPr c ∧ ¬ isSm c := by
  unfold isDg isLt isPr isSm
  omega
theorem isLt_n {c : Int} (h : isLt c) : ¬ isDg c ∧ c ≠ 91 := by
  unfold isLt at h
  unfold isDg
  omega
theorem rM_all {T : Nat → Int} {L k o p p' : Nat} {K K' : hCode} (h : lD T L k o p K p' K') : rM T L k o p K p' K' := by
  have h2 : lD T L k o p K p' K' ∧ rM T L k o p K p' K' := by
    refine h (fun k o p K p' K' => lD T L k o p K p' K' ∧ rM T L k o p K p' K') ⟨?_, ?_, ?_, ?_, ?_, ?_, ?_, ?_, ?_, ?_, ?_, ?_, ?_, ?_⟩
    · intro o p K j a b c d
      refine ⟨lD_num a b c d, fun xs n bb Q m0 m W hb hk hS => ⟨fun _ hw ct => ?_, fun e => absurd e (by decide), fun e => absurd e (by decide)⟩⟩
      refine r_num hS (c 0 (by omega)) hk (fun j' m' _ _ c' d' s' => ?_) (fun m' c' _ => absurd (c' j (by omega)) d)
      have e : j' = j := by
        rcases Nat.lt_trichotomy j' j with h | h | h
        · exact absurd (c j' h) d'
        · exact h
        · exact absurd (c' j h) d
      subst e
      exact ct m' s'
    · intro o p K a
      refine ⟨lD_let a, fun xs n bb Q m0 m W hb hk hS => ⟨fun _ hw ct => ?_, fun e => absurd e (by decide), fun e => absurd e (by decide)⟩⟩
      exact r_let hS (isLt_n a).1 (isLt_n a).2 hk (fun _ m' s' => ct m' s') (fun c => absurd a c)
    · intro o p K p1 K1 a b c d
      refine ⟨lD_br a b c.1 d, fun xs n bb Q m0 m W hb hk hS => ⟨fun _ hw ct => ?_, fun e => absurd e (by decide), fun e => absurd e (by decide)⟩⟩
      have hg := lD_grow c.1
      refine r_open hS a (by omega) (fun _ m2 s2 => ?_) (fun e => absurd e (by omega))
      refine ((c.2 xs n bb Q m0 m2 _ (by rw [List.length_append]; omega) (by omega) s2).2.2 rfl (by rw [List.length_append, List.length_singleton]; omega) (by rw [wtop_app]; decide) (fun m3 Kc W' hP s3 => ?_))
      have hle := rs_le s3
      have hL := rs_L s3
      exact r_close hP s3 rfl hb (by rw [d]; unfold isPr; omega) (by rw [d]; unfold isSm; omega) (by omega) (fun _ m4 s4 => ct m4 s4) (fun e => absurd d e)
    · intro o p K p1 K1 a
      refine ⟨lD_pr1 a.1, fun xs n bb Q m0 m W hb hk hS => ⟨fun e => absurd e (by decide), fun _ hw ht ct => ?_, fun e => absurd e (by decide)⟩⟩
      exact (a.2 xs n bb Q m0 m W hb hk hS).1 rfl (by omega) (fun m' s' => ct m' K1 W (.inl ⟨rfl, rfl⟩) s')
    · intro o p K p1 K1 p2 K2 a b c
      refine ⟨lD_pr2 a.1 b c.1, fun xs n bb Q m0 m W hb hk hS => ⟨fun e => absurd e (by decide), fun _ hw ht ct => ?_, fun e => absurd e (by decide)⟩⟩
      have hg := lD_grow a.1
      have hol := rs_ol hS
      refine (a.2 xs n bb Q m0 m W hb hk hS).2.1 rfl hw ht (fun m1 Kc W' hP s1 => ?_)
      have hle := rs_le s1
      have hL := rs_L s1
      refine r_sign (.inl b) (.inl ⟨b, hP, ht⟩) s1 rfl (by omega) (by omega) (fun m2 s2 => ?_)
      exact (c.2 xs n bb Q m0 m2 _ (by rw [List.length_append]; omega) (by omega) s2).1 rfl (by rw [List.length_append, List.length_singleton]; omega) (fun m3 s3 => ct m3 K2 _ (.inr ⟨_, b, rfl, rfl⟩) s3)
    · intro o p K p1 K1 a b
      refine ⟨lD_sm1 a.1 b, fun xs n bb Q m0 m W hb hk hS => ⟨fun e => absurd e (by decide), fun e => absurd e (by decide), fun _ hw ht ct => ?_⟩⟩
      exact (a.2 xs n bb Q m0 m W hb hk hS).2.1 rfl (by omega) (by omega) (fun m' Kc W' hP s' => ct m' Kc W' (.inl hP) s')
    · intro o p K p1 K1 p2 K2 a b c d
      refine ⟨lD_sm2 a.1 b c.1 d, fun xs n bb Q m0 m W hb hk hS => ⟨fun e => absurd e (by decide), fun e => absurd e (by decide), fun _ hw ht ct => ?_⟩⟩
      have hg := lD_grow a.1
      have hol := rs_ol hS
      refine (a.2 xs n bb Q m0 m W hb hk hS).2.2 rfl hw ht (fun m1 Kc W' hP s1 => ?_)
      have hle := rs_le s1
      have hL := rs_L s1
      refine r_sign (.inr b) (.inr ⟨b, hP, ht⟩) s1 rfl (by omega) (by omega) (fun m2 s2 => ?_)
      have hs := lop_sm b
      exact (c.2 xs n bb Q m0 m2 _ (by rw [List.length_append]; omega) (by omega) s2).2.1 rfl (by rw [List.length_append, List.length_singleton]; omega) (by rw [wtop_app]; dsimp only; omega) (fun m3 Kc W' hP s3 => ct m3 Kc W' (.inr ⟨_, b, K2, rfl, hP⟩) s3)
    · exact fun o p K p1 K1 p2 K2 a b c d e f => ⟨lD_cm a b c.1 d e.1 f, rM_hi (by decide)⟩
    · exact fun o p K p1 K1 a b c => ⟨lD_no a b c.1, rM_hi (by decide)⟩
    · exact fun o p K p1 K1 a b c d => ⟨lD_pa a b c.1 d, rM_hi (by decide)⟩
    · exact fun o p K p1 K1 a => ⟨lD_pt1 a.1, rM_hi (by decide)⟩
    · exact fun o p K p1 K1 p2 K2 a b c => ⟨lD_pt2 a.1 b c.1, rM_hi (by decide)⟩
    · exact fun o p K p1 K1 a b => ⟨lD_cn1 a.1 b, rM_hi (by decide)⟩
    · exact fun o p K p1 K1 p2 K2 a b c d => ⟨lD_cn2 a.1 b c.1 d, rM_hi (by decide)⟩
  exact h2.2
/-- a sum as a whole -/
theorem r_sumT {xs : List Int32} {n : Nat} {Q : hQ} {T : Nat → Int} {L p o p' : Nat} {m0 m : gx_M} {K W K' : hCode} (hD : lD T L 2 o p K p' K') (hn : ¬ isSm (tx T L p')) (hS : rS T L m0 p K W o m) (hk : K.length ≤ p) (hw : W.length ≤ 3 * o) (ht : ¬ (2 ≤ wtop W ∧ wtop W ≤ 6)) (h : ∀ m', rS T L m0 p' K' W o m' → Q (some (.inl 1)) m') : hxn xs n yp_m173 0 [(0, .inr (.inl 86))] [] m Q := by
  have hg := lD_grow hD
  refine hx_dn (hr173_0 ?_)
  rw [rs_W hS]
  refine (rM_all hD xs n W.length Q m0 m W (Nat.le_refl _) hk hS).2.2 rfl hw ht (fun m' Kc W' hP s' => ?_) _ (fun m' hm' => hx_dn (hr173_9 (s0 := 1) (fun _ => hm') (fun c => absurd c (by decide)))) (fun m' hm' => hx_dn (hr173_9 (s0 := 0) (fun c => absurd rfl c) (fun _ => hm')))
  have hle := rs_le s'
  have hL := rs_L s'
  exact r_end hP s' rfl ht (lD_npr hD rfl) hn (by omega) h
/-! what is wrong with a sum -/
noncomputable def rE (T : Nat → Int) (L k o p : Nat) (K : hCode) (f : Int) : Prop := ∀ (xs : List Int32) (n b : Nat) (Q : hQ) (m0 m : gx_M) (W : hCode), b ≤ W.length → K.length ≤ p → rS T L m0 p K W o m → (∀ m', rF m0 f m' → Q (some (.inl 0)) m') →
  (k = 0 → W.length ≤ 3 * o + 2 → FE xs n b Q m) ∧
  (k = 1 → W.length ≤ 3 * o + 1 → ¬ (4 ≤ wtop W ∧ wtop W ≤ 6) → FE xs n b Q m) ∧
  (k = 2 → W.length ≤ 3 * o → ¬ (2 ≤ wtop W ∧ wtop W ≤ 6) → FE xs n b Q m)
theorem rE_hi {T : Nat → Int} {L k o p : Nat} {K : hCode} {f : Int} (h : 3 ≤ k) : rE T L k o p K f := fun _ _ _ _ _ _ _ _ _ _ _ => ⟨fun e => by omega, fun e => by omega, fun e => by omega⟩
theorem rE_all {T : Nat → Int} {L k o p : Nat} {K : hCode} {f : Int} (h : lE T L k o p K f) : rE T L k o p K f := by
  refine h (rE T L) ⟨?_, ?_, ?_, ?_, ?_, ?_, ?_, ?_, ?_, ?_, ?_, ?_, ?_, ?_, ?_, ?_, ?_, ?_, ?_, ?_⟩
  · intro o p K a b c xs n bb Q m0 m W hb hk hS hq
    exact ⟨fun _ hw => r_let hS a b hk (fun e => absurd e c) (fun _ m' h' => hq m' h'), fun e => absurd e (by decide), fun e => absurd e (by decide)⟩
  · intro o p K a xs n bb Q m0 m W hb hk hS hq
    exact ⟨fun _ hw => r_num hS (a 0 (by omega)) hk (fun j m' j1 j5 c d _ => absurd (a j (by omega)) d) (fun m' _ h' => hq m' h'), fun e => absurd e (by decide), fun e => absurd e (by decide)⟩
  · intro o p K a b xs n bb Q m0 m W hb hk hS hq
    have hol := rs_ol hS
    exact ⟨fun _ hw => r_open hS a (by omega) (fun e => absurd e (by omega)) (fun _ m' h' => hq m' h'), fun e => absurd e (by decide), fun e => absurd e (by decide)⟩
  · intro o p K f a b c xs n bb Q m0 m W hb hk hS hq
    refine ⟨fun _ hw => r_open hS a (by omega) (fun _ m2 s2 => ?_) (fun e => absurd e (by omega)), fun e => absurd e (by decide), fun e => absurd e (by decide)⟩
    exact (c xs n bb Q m0 m2 _ (by rw [List.length_append]; omega) (by omega) s2 hq).2.2 rfl (by rw [List.length_append, List.length_singleton]; omega) (by rw [wtop_app]; decide)
  · intro o p K p1 K1 a b c d e xs n bb Q m0 m W hb hk hS hq
    have hg := lD_grow c
    refine ⟨fun _ hw => r_open hS a (by omega) (fun _ m2 s2 => ?_) (fun e => absurd e (by omega)), fun e => absurd e (by decide), fun e => absurd e (by decide)⟩
    refine (rM_all c xs n bb Q m0 m2 _ (by rw [List.length_append]; omega) (by omega) s2).2.2 rfl (by rw [List.length_append, List.length_singleton]; omega) (by rw [wtop_app]; decide) (fun m3 Kc W' hP s3 => ?_)
    have hle := rs_le s3
    have hL := rs_L s3
    exact r_close hP s3 rfl hb (lD_npr c rfl) d (by omega) (fun x => absurd x e) (fun _ m' h' => hq m' h')
  · intro o p K f a xs n bb Q m0 m W hb hk hS hq
    exact ⟨fun e => absurd e (by decide), fun _ hw ht => (a xs n bb Q m0 m W hb hk hS hq).1 rfl (by omega), fun e => absurd e (by decide)⟩
  · intro o p K p1 K1 f a b c xs n bb Q m0 m W hb hk hS hq
    have hg := lD_grow a
    have hol := rs_ol hS
    refine ⟨fun e => absurd e (by decide), fun _ hw ht => ?_, fun e => absurd e (by decide)⟩
    refine (rM_all a xs n bb Q m0 m W hb hk hS).2.1 rfl hw ht (fun m1 Kc W' hP s1 => ?_)
    have hle := rs_le s1
    have hL := rs_L s1
    refine r_sign (.inl b) (.inl ⟨b, hP, ht⟩) s1 rfl (by omega) (by omega) (fun m2 s2 => ?_)
    exact (c xs n bb Q m0 m2 _ (by rw [List.length_append]; omega) (by omega) s2 hq).1 rfl (by rw [List.length_append, List.length_singleton]; omega)
  · intro o p K f a xs n bb Q m0 m W hb hk hS hq
    exact ⟨fun e => absurd e (by decide), fun e => absurd e (by decide), fun _ hw ht => (a xs n bb Q m0 m W hb hk hS hq).2.1 rfl (by omega) (by omega)⟩
  · intro o p K p1 K1 f a b c xs n bb Q m0 m W hb hk hS hq
    have hg := lD_grow a
    have hol := rs_ol hS
    refine ⟨fun e => absurd e (by decide), fun e => absurd e (by decide), fun _ hw ht => ?_⟩
    refine (rM_all a xs n bb Q m0 m W hb hk hS).2.2 rfl hw ht (fun m1 Kc W' hP s1 => ?_)
    have hle := rs_le s1
    have hL := rs_L s1
    refine r_sign (.inr b) (.inr ⟨b, hP, ht⟩) s1 rfl (by omega) (by omega) (fun m2 s2 => ?_)
    have hs := lop_sm b
    exact (c xs n bb Q m0 m2 _ (by rw [List.length_append]; omega) (by omega) s2 hq).2.1 rfl (by rw [List.length_append, List.length_singleton]; omega) (by rw [wtop_app]; dsimp only; omega)
  · exact fun _ _ _ _ _ => rE_hi (by decide)
  · exact fun _ _ _ _ _ _ _ => rE_hi (by decide)
  · exact fun _ _ _ _ _ _ _ _ _ _ => rE_hi (by decide)
  · exact fun _ _ _ _ _ _ _ => rE_hi (by decide)
  · exact fun _ _ _ _ _ _ _ => rE_hi (by decide)
  · exact fun _ _ _ _ _ _ _ _ _ _ => rE_hi (by decide)
  · exact fun _ _ _ _ _ _ _ _ _ _ _ => rE_hi (by decide)
  · exact fun _ _ _ _ _ => rE_hi (by decide)
  · exact fun _ _ _ _ _ _ _ _ _ => rE_hi (by decide)
  · exact fun _ _ _ _ _ => rE_hi (by decide)
  · exact fun _ _ _ _ _ _ _ _ _ => rE_hi (by decide)
theorem r_sumF {xs : List Int32} {n : Nat} {Q : hQ} {T : Nat → Int} {L p o : Nat} {m0 m : gx_M} {K W : hCode} {f : Int} (hE : lE T L 2 o p K f) (hS : rS T L m0 p K W o m) (hk : K.length ≤ p) (hw : W.length ≤ 3 * o) (ht : ¬ (2 ≤ wtop W ∧ wtop W ≤ 6)) (h : ∀ m', rF m0 f m' → Q (some (.inl 0)) m') : hxn xs n yp_m173 0 [(0, .inr (.inl 86))] [] m Q := by
  refine hx_dn (hr173_0 ?_)
  rw [rs_W hS]
  exact (rE_all hE xs n W.length Q m0 m W (Nat.le_refl _) hk hS h).2.2 rfl hw ht _ (fun m' hm' => hx_dn (hr173_9 (s0 := 1) (fun _ => hm') (fun c => absurd c (by decide)))) (fun m' hm' => hx_dn (hr173_9 (s0 := 0) (fun c => absurd rfl c) (fun _ => hm')))
end
section
/-! the reference's pieces, parts, conditions: jumps that wait -/
def Pj4 (K' Kc W W' : hCode) : Prop := (Kc = K' ∧ W' = W) ∨ ∃ f : Nat, Kc[f]? = some (38, 0) ∧ K' = Kc.set f (38, (Kc.length : Int)) ∧ W' = W ++ [(11, (f : Int))]
def Pj5 (K' Kc W W' : hCode) : Prop := Pj4 K' Kc W W' ∨ ∃ (f : Nat) (K2 : hCode), K2[f]? = some (124, 0) ∧ K' = K2.set f (124, (K2.length : Int)) ∧ Pj4 K2 Kc (W ++ [(12, (f : Int))]) W'
theorem Pj4_len {K' Kc W W' : hCode} (h : Pj4 K' Kc W W') : Kc.length = K'.length ∧ W.length ≤ W'.length := by
  rcases h with ⟨rfl, rfl⟩ | ⟨f, -, rfl, rfl⟩
  · exact ⟨rfl, Nat.le_refl _⟩
  · rw [List.length_set, List.length_append]
    exact ⟨rfl, by omega⟩
theorem Pj5_len {K' Kc W W' : hCode} (h : Pj5 K' Kc W W') : Kc.length = K'.length ∧ W.length ≤ W'.length := by
  rcases h with h | ⟨f, K2, -, rfl, h⟩
  · exact Pj4_len h
  · have := Pj4_len h
    rw [List.length_append, List.length_singleton] at this
    rw [List.length_set]
    omega
noncomputable def AH (xs : List Int32) (n : Nat) (Q : hQ) (m : gx_M) : Prop := hxn xs n yp_m184 92 [(0, .inr (.inl 86))] [] m Q
noncomputable def PE (xs : List Int32) (n : Nat) (Q : hQ) (m : gx_M) : Prop := hxn xs n yp_m184 40 [(0, .inr (.inl 86))] [] m Q
theorem wtop_rep {V : hCode} {j : Nat} (h : ¬ (2 ≤ wtop V ∧ wtop V ≤ 6)) : ¬ (2 ≤ wtop (V ++ List.replicate j (10, 0)) ∧ wtop (V ++ List.replicate j (10, 0)) ≤ 6) := by
  cases j with
  | zero =>
    rw [List.replicate_zero, List.append_nil]
    exact h
  | succ j =>
    rw [List.replicate_succ', ← List.append_assoc, wtop_app]
    decide
section RC
variable {xs : List Int32} {n : Nat} {Q : hQ} {T : Nat → Int} {L p o : Nat} {m0 m : gx_M} {K W : hCode}
theorem rs187_c4 {x : Int} {K' Kc W' : hCode} (hP : Pj4 K' Kc W W') (hS : rS T L m0 p Kc W' o m) (h : ∀ m', rS T L m0 p K' W o m' → hxn xs n yp_m187 0 [(0, .inr (.inl 86)), (1, .inl x)] [] m' Q) : hxn xs n yp_m187 0 [(0, .inr (.inl 86)), (1, .inl x)] [] m Q := by
  rcases hP with ⟨rfl, rfl⟩ | ⟨f, hf, rfl, rfl⟩
  · exact h m hS
  · exact rs187_p hS (.inl rfl) (.inl ⟨rfl, rfl⟩) hf h
theorem rs187_c5 {K' Kc W' : hCode} (hP : Pj5 K' Kc W W') (hS : rS T L m0 p Kc W' o m) (h1 : wtop W ≠ 11) (h2 : wtop W ≠ 12) (h : ∀ m', rS T L m0 p K' W o m' → Q none m') : hxn xs n yp_m187 0 [(0, .inr (.inl 86)), (1, .inl 1)] [] m Q := by
  rcases hP with hP | ⟨f, K2, hf, rfl, hP⟩
  · exact rs187_c4 hP hS (fun m' s' => rs187_s s' h1 (fun _ => h2) (h m' s'))
  · exact rs187_c4 hP hS (fun m' s' => rs187_p s' (.inr ⟨rfl, by decide⟩) (.inr ⟨rfl, rfl⟩) hf (fun m2 s2 => rs187_s s2 h1 (fun _ => h2) (h m2 s2)))
theorem r_and {K' Kc W' : hCode} (hP : Pj4 K' Kc W W') (hS : rS T L m0 p Kc W' o m) (ht : tx T L p = 38) (h1 : wtop W ≠ 11) (hk : K'.length < 240) (hw : W.length < 240) (h : ∀ m', rS T L m0 (p + 1) (K' ++ [(38, 0)]) (W ++ [(11, (K'.length : Int))]) o m' → PE xs n Q m') : AH xs n Q m := by
  have hhe := rs_he hS
  refine hx_dn (hr184_92 (fun _ _ _ => ?_) (fun _ c => absurd (by rw [hhe]; exact ht) c) (fun _ c => absurd (by rw [hhe]; exact ht) c) (fun c => absurd c (by rw [hhe, ht]; decide)))
  refine rs187_c4 hP hS (fun m2 s2 => rs187_s s2 h1 (fun c => absurd rfl c) ?_)
  show hxn xs n yp_m184 198 _ [] m2 Q
  have hh2 := rs_he s2
  refine hx_dn (hr184_198 (fun c => absurd (by rw [hh2]; exact ht) c) (fun _ => ?_))
  refine rs188 s2 (c := (38, 0)) (by decide) (by decide) (tx_lt (by rw [ht]; decide)) hk hw (fun m3 s3 => ?_)
  show hxn xs n yp_m184 218 _ [] m3 Q
  exact hx_dn (hr184_218 (h m3 s3))
theorem r_or {K' Kc W' : hCode} (hP : Pj5 K' Kc W W') (hS : rS T L m0 p Kc W' o m) (ht : tx T L p = 124) (h1 : wtop W ≠ 11) (h2 : wtop W ≠ 12) (hk : K'.length < 240) (hw : W.length < 240) (h : ∀ m', rS T L m0 (p + 1) (K' ++ [(124, 0)]) (W ++ [(12, (K'.length : Int))]) o m' → PE xs n Q m') : AH xs n Q m := by
  have hhe := rs_he hS
  refine hx_dn (hr184_92 (fun _ c => absurd c (by rw [hhe, ht]; decide)) (fun _ _ _ _ => ?_) (fun _ _ c => absurd (by rw [hhe]; exact ht) c) (fun c => absurd c (by rw [hhe, ht]; decide)))
  refine rs187_c5 hP hS h1 h2 (fun m2 s2 => ?_)
  show hxn xs n yp_m184 198 _ [] m2 Q
  have hh2 := rs_he s2
  refine hx_dn (hr184_198 (fun _ => ?_) (fun c => absurd c (by rw [hh2, ht]; decide)))
  refine rs188 s2 (c := (124, 0)) (by decide) (by decide) (tx_lt (by rw [ht]; decide)) hk hw (fun m3 s3 => ?_)
  show hxn xs n yp_m184 218 _ [] m3 Q
  exact hx_dn (hr184_218 (h m3 s3))
theorem r_bad (hS : rS T L m0 p K W o m) (h1 : tx T L p ≠ 41) (h2 : tx T L p ≠ 38) (h3 : tx T L p ≠ 124) (h : ∀ m', rF m0 (lfl 1 p) m' → Q (some (.inl 0)) m') : AH xs n Q m := by
  have hhe := rs_he hS
  refine hx_dn (hr184_92 (fun _ c => absurd (by rw [← hhe]; exact c) h2) (fun _ _ c => absurd (by rw [← hhe]; exact c) h3) (fun _ _ _ => ?_) (fun c => absurd (by rw [← hhe]; exact c) h1))
  rw [rs_pl hS]
  exact rs172 hS (by decide) (fun m2 h2 => hx_dn (hr184_179 (h m2 h2)))
theorem r_par {K' Kc W' V : hCode} {j oo : Nat} (hP : Pj5 K' Kc (V ++ List.replicate j (10, 0) ++ [(13, 0)]) W') (hS : rS T L m0 p Kc W' o m) (ho : o = oo + j + 1) (ht : tx T L p = 41) (hv : 1 ≤ V.length) (h1 : wtop V ≠ 10) (hk : K'.length + j ≤ 240) (h : ∀ m', rS T L m0 (p + 1) (K' ++ List.replicate j (33, 0)) V oo m' → AH xs n Q m') : AH xs n Q m := by
  have hhe := rs_he hS
  have hol := rs_ol hS
  refine hx_dn (hr184_92 (fun c => absurd (by rw [hhe]; exact ht) c) (fun c => absurd (by rw [hhe]; exact ht) c) (fun c => absurd (by rw [hhe]; exact ht) c) (fun _ => ?_))
  refine rs187_c5 hP hS (by rw [wtop_app]; decide) (by rw [wtop_app]; decide) (fun m2 s2 => ?_)
  show hxn xs n yp_m184 106 _ [] m2 Q
  have hwl := rs_wl s2
  have hwe := rs_W s2
  rw [List.length_append, List.length_singleton, List.length_append] at hwl hwe
  have e0 : gx_w (m2 86 11 - 1) = ((V.length + (List.replicate j ((10 : Int), (0 : Int))).length : Nat) : Int) := by
    rw [hwe, gx_w_id (by omega) (by omega)]
    omega
  refine hx_dn (hr184_106 (fun _ => ?_) (fun c => absurd c (by rw [e0]; omega)))
  have s3 := rs_po s2
  have s4 := rs_op s3 (o' := oo + j) (v := gx_w (m2 86 9 - 1)) (by rw [rs_o s2, gx_w_id (by omega) (by omega)]; omega) (by omega)
  have s5 := rs_st s4 (tx_lt (by rw [ht]; decide))
  have e1 : gx_u (gx_u m2 86 11 (gx_w (m2 86 11 - 1))) 86 9 (gx_w (m2 86 9 - 1)) 86 5 = m2 86 5 := by
    rw [gx_u_ne (by omega), gx_u_ne (by omega)]
  rw [e1] at s5
  refine rs186 j s5 h1 hk (fun m6 s6 => ?_)
  show hxn xs n yp_m184 149 _ [] m6 Q
  exact hx_dn (hr184_149 (h m6 s6))
theorem r_last {K' Kc W' : hCode} (hP : Pj5 K' Kc [(13, 0)] W') (hS : rS T L m0 p Kc W' 1 m) (ht : tx T L p = 41) (h : ∀ m', rS T L m0 (p + 1) K' [] 0 m' → Q (some (.inl 1)) m') : AH xs n Q m := by
  have hhe := rs_he hS
  refine hx_dn (hr184_92 (fun c => absurd (by rw [hhe]; exact ht) c) (fun c => absurd (by rw [hhe]; exact ht) c) (fun c => absurd (by rw [hhe]; exact ht) c) (fun _ => ?_))
  refine rs187_c5 hP hS (by decide) (by decide) (fun m2 s2 => ?_)
  show hxn xs n yp_m184 106 _ [] m2 Q
  have e0 : gx_w (m2 86 11 - 1) = 0 := by
    rw [rs_W s2]
    rfl
  refine hx_dn (hr184_106 (fun c => absurd e0 c) (fun _ => ?_))
  have s3 := rs_po (W := []) s2
  have s4 := rs_op s3 (o' := 0) (v := gx_w (m2 86 9 - 1)) (by rw [rs_o s2]; rfl) (by omega)
  have s5 := rs_st s4 (tx_lt (by rw [ht]; decide))
  have e1 : gx_u (gx_u m2 86 11 (gx_w (m2 86 11 - 1))) 86 9 (gx_w (m2 86 9 - 1)) 86 5 = m2 86 5 := by
    rw [gx_u_ne (by omega), gx_u_ne (by omega)]
  rw [e1] at s5
  exact h _ s5
/-- what is compared -/
theorem r_cmp {V K2 : hCode} {j oo p1 p2 : Nat} {K1 : hCode} (ho : o = oo + j) (hS : rS T L m0 p K (V ++ List.replicate j (10, 0)) o m) (hw : V.length + j ≤ 3 * o) (hv : wtop V ≠ 10) (hv2 : ¬ (2 ≤ wtop V ∧ wtop V ≤ 6)) (hk : K.length + j ≤ p) (h3 : tx T L p ≠ 33) (h4 : tx T L p ≠ 40) (d1 : lD T L 2 o p K p1 K1) (t : isCm (tx T L p1)) (d2 : lD T L 2 o (p1 + 1) K1 p2 K2) (hn : ¬ isSm (tx T L p2)) (h : ∀ m', rS T L m0 p2 (K2 ++ [(tx T L p1, 0)] ++ List.replicate j (33, 0)) V oo m' → AH xs n Q m') : PE xs n Q m := by
  have hhe := rs_he hS
  have g1 := lD_grow d1
  have g2 := lD_grow d2
  have hwl : (V ++ List.replicate j ((10 : Int), (0 : Int))).length ≤ 3 * o := by
    rw [List.length_append, List.length_replicate]
    exact hw
  refine hx_dn (hr184_40 (fun c => absurd (by rw [← hhe]; exact c) h3) (fun _ _ => ?_) (fun _ c => absurd (by rw [← hhe]; exact c) h4))
  refine hx_dn (hr185_0 ?_)
  refine r_sumT d1 (fun c => by unfold isCm at t; unfold isSm at c; omega) hS (by omega) hwl (wtop_rep hv2) (fun m1 s1 => ?_)
  show hxn xs n yp_m185 4 _ [.inl 1] m1 _
  have hh1 := rs_he s1
  have hL := rs_L hS
  have hlt : p1 < L := tx_lt (fun e => by rw [e] at t; unfold isCm at t; omega)
  have fin : ∀ a : Int, lop (tx T L p1) = a → (0 ≤ a ∧ a ≤ 14) → hxn xs n yp_m173 0 [(0, .inr (.inl 86))] [] (gx_u m1 86 5 (gx_w ((m1 86 5) + 1))) (fun r m' => hxn xs n yp_m185 82 [(0, .inr (.inl 86)), (1, .inl a)] (hrs r ++ []) m' (fun r m' => hxn xs n yp_m184 87 [(0, .inr (.inl 86))] (hrs r ++ []) m' Q)) := fun a ha ha2 => by
    refine r_sumT d2 hn (rs_st s1 hlt) (by omega) hwl (wtop_rep hv2) (fun m2 s2 => ?_)
    show hxn xs n yp_m185 82 _ [.inl 1] m2 _
    have hle := rs_le s2
    refine hx_dn (hr185_82 (fun _ => ?_) (fun c => absurd c (by decide)))
    refine rs178 s2 (c := (tx T L p1, 0)) ?_ ha2 (by decide) (by omega) (fun m3 s3 => ?_)
    · unfold lenc larg
      rw [if_neg (by dsimp only; unfold isCm at t; omega)]
      dsimp only
      rw [ha]
    · show hxn xs n yp_m185 93 _ [] m3 _
      refine hx_dn (hr185_93 ?_)
      subst ho
      refine rs186 j s3 hv (by rw [List.length_append, List.length_singleton]; omega) (fun m4 s4 => ?_)
      show hxn xs n yp_m185 97 [] [] m4 _
      refine hx_dn (hr185_97 ?_)
      show hxn xs n yp_m184 87 _ [.inl 1] m4 Q
      exact hx_dn (hr184_87 (fun _ => h m4 s4) (fun c => absurd c (by decide)))
  refine hx_dn (hr185_4 (fun _ a b c => ?_) (fun _ a b c => ?_) (fun _ a b => ?_) (fun _ a => ?_) (fun c => absurd c (by decide)))
  · rw [hh1] at a b c
    unfold isCm at t
    omega
  · rw [hh1] at c
    exact fin 9 (by rw [c]; decide) (by decide)
  · rw [hh1] at b
    exact fin 8 (by rw [b]; decide) (by decide)
  · rw [hh1] at a
    exact fin 7 (by rw [a]; decide) (by decide)
end RC
noncomputable def rC (T : Nat → Int) (L k o p : Nat) (K : hCode) (p' : Nat) (K' : hCode) : Prop := ∀ (xs : List Int32) (n : Nat) (Q : hQ) (m0 m : gx_M),
  (k = 3 → ∀ (V : hCode) (j oo : Nat), o = oo + j → V.length + j ≤ 3 * o → 1 ≤ V.length → wtop V ≠ 10 → ¬ (2 ≤ wtop V ∧ wtop V ≤ 6) → rS T L m0 p K (V ++ List.replicate j (10, 0)) o m → K.length + j ≤ p → (∀ m', rS T L m0 p' (K' ++ List.replicate j (33, 0)) V oo m' → AH xs n Q m') → PE xs n Q m) ∧
  (k = 4 → ∀ W : hCode, W.length + 1 ≤ 3 * o → 1 ≤ W.length → (wtop W = 13 ∨ wtop W = 12) → rS T L m0 p K W o m → K.length ≤ p → (∀ m' Kc W', Pj4 K' Kc W W' → rS T L m0 p' Kc W' o m' → AH xs n Q m') → PE xs n Q m) ∧
  (k = 5 → ∀ W : hCode, W.length + 2 ≤ 3 * o → 1 ≤ W.length → wtop W = 13 → rS T L m0 p K W o m → K.length ≤ p → (∀ m' Kc W', Pj5 K' Kc W W' → rS T L m0 p' Kc W' o m' → AH xs n Q m') → PE xs n Q m)
theorem rC_lo {T : Nat → Int} {L k o p p' : Nat} {K K' : hCode} (h : k ≤ 2) : rC T L k o p K p' K' := fun _ _ _ _ _ => ⟨fun e => by omega, fun e => by omega, fun e => by omega⟩
theorem rep_snoc {V : hCode} {j : Nat} {x : Int × Int} : V ++ List.replicate j x ++ [x] = V ++ List.replicate (j + 1) x := by
  rw [List.append_assoc, ← List.replicate_succ']
theorem rep_cons {K : hCode} {j : Nat} {x : Int × Int} : K ++ List.replicate (j + 1) x = K ++ [x] ++ List.replicate j x := by
  rw [List.append_assoc, List.replicate_succ]
  rfl
theorem rC_all {T : Nat → Int} {L k o p p' : Nat} {K K' : hCode} (h : lD T L k o p K p' K') : rC T L k o p K p' K' := by
  have h2 : lD T L k o p K p' K' ∧ rC T L k o p K p' K' := by
    refine h (fun k o p K p' K' => lD T L k o p K p' K' ∧ rC T L k o p K p' K') ⟨?_, ?_, ?_, ?_, ?_, ?_, ?_, ?_, ?_, ?_, ?_, ?_, ?_, ?_⟩
    · exact fun o p K j a b c d => ⟨lD_num a b c d, rC_lo (by decide)⟩
    · exact fun o p K a => ⟨lD_let a, rC_lo (by decide)⟩
    · exact fun o p K p1 K1 a b c d => ⟨lD_br a b c.1 d, rC_lo (by decide)⟩
    · exact fun o p K p1 K1 a => ⟨lD_pr1 a.1, rC_lo (by decide)⟩
    · exact fun o p K p1 K1 p2 K2 a b c => ⟨lD_pr2 a.1 b c.1, rC_lo (by decide)⟩
    · exact fun o p K p1 K1 a b => ⟨lD_sm1 a.1 b, rC_lo (by decide)⟩
    · exact fun o p K p1 K1 p2 K2 a b c d => ⟨lD_sm2 a.1 b c.1 d, rC_lo (by decide)⟩
    · intro o p K p1 K1 p2 K2 a b c d e f
      refine ⟨lD_cm a b c.1 d e.1 f, fun xs n Q m0 m => ⟨fun _ V j oo ho hw hv h1 h2 hS hk ct => ?_, fun e => absurd e (by decide), fun e => absurd e (by decide)⟩⟩
      exact r_cmp ho hS hw h1 h2 hk a b c.1 d e.1 f ct
    · intro o p K p1 K1 a b c
      refine ⟨lD_no a b c.1, fun xs n Q m0 m => ⟨fun _ V j oo ho hw hv h1 h2 hS hk ct => ?_, fun e => absurd e (by decide), fun e => absurd e (by decide)⟩⟩
      have hhe := rs_he hS
      refine hx_dn (hr184_40 (fun _ _ => ?_) (fun c => absurd (by rw [hhe]; exact a) c) (fun c => absurd (by rw [hhe]; exact a) c))
      refine rs175 hS (by decide) (tx_lt (by rw [a]; decide)) (by rw [List.length_append, List.length_replicate]; omega) (fun _ m2 s2 => ?_) (fun e => absurd e (by omega))
      show hxn xs n yp_m184 78 _ [.inl 1] m2 Q
      refine hx_dn (hr184_78 (fun _ => ?_) (fun c => absurd c (by decide)))
      rw [rep_snoc] at s2
      refine (c.2 xs n Q m0 m2).1 rfl V (j + 1) oo (by omega) (by omega) hv h1 h2 s2 (by omega) (fun m3 s3 => ?_)
      rw [rep_cons] at s3
      exact ct m3 s3
    · intro o p K p1 K1 a b c d
      refine ⟨lD_pa a b c.1 d, fun xs n Q m0 m => ⟨fun _ V j oo ho hw hv h1 h2 hS hk ct => ?_, fun e => absurd e (by decide), fun e => absurd e (by decide)⟩⟩
      have hhe := rs_he hS
      have hg := lD_grow c.1
      refine hx_dn (hr184_40 (fun c => absurd c (by rw [hhe, a]; decide)) (fun _ c => absurd (by rw [hhe]; exact a) c) (fun _ _ _ => ?_))
      refine rs175 hS (by decide) (tx_lt (by rw [a]; decide)) (by rw [List.length_append, List.length_replicate]; omega) (fun _ m2 s2 => ?_) (fun e => absurd e (by omega))
      show hxn xs n yp_m184 78 _ [.inl 1] m2 Q
      refine hx_dn (hr184_78 (fun _ => ?_) (fun c => absurd c (by decide)))
      refine (c.2 xs n Q m0 m2).2.2 rfl _ (by rw [List.length_append, List.length_append, List.length_replicate, List.length_singleton]; omega) (by rw [List.length_append, List.length_singleton]; omega) (by rw [wtop_app]) s2 (by omega) (fun m3 Kc W' hP s3 => ?_)
      have hle := rs_le s3
      have hL := rs_L s3
      exact r_par hP s3 (by omega) d hv h1 (by omega) ct
    · intro o p K p1 K1 a
      refine ⟨lD_pt1 a.1, fun xs n Q m0 m => ⟨fun e => absurd e (by decide), fun _ W hw hv h1 hS hk ct => ?_, fun e => absurd e (by decide)⟩⟩
      refine (a.2 xs n Q m0 m).1 rfl W 0 o rfl (by omega) hv (by omega) (by omega) (by rw [List.replicate_zero, List.append_nil]; exact hS) (by omega) (fun m2 s2 => ?_)
      rw [List.replicate_zero, List.append_nil] at s2
      exact ct m2 K1 W (.inl ⟨rfl, rfl⟩) s2
    · intro o p K p1 K1 p2 K2 a b c
      refine ⟨lD_pt2 a.1 b c.1, fun xs n Q m0 m => ⟨fun e => absurd e (by decide), fun _ W hw hv h1 hS hk ct => ?_, fun e => absurd e (by decide)⟩⟩
      have hg := lD_grow a.1
      have hol := rs_ol hS
      have hk2 : K2[K1.length]? = some (38, 0) := by
        rw [lD_pre c.1 K1.length (by rw [List.length_append, List.length_singleton]; omega)]
        exact lk_last
      refine (a.2 xs n Q m0 m).2.1 rfl W hw hv h1 hS hk (fun m1 Kc W' hP s1 => ?_)
      have hlt : p1 < L := tx_lt (by rw [b]; decide)
      have hL := rs_L s1
      refine r_and hP s1 b (by omega) (by omega) (by omega) (fun m2 s2 => ?_)
      refine (c.2 xs n Q m0 m2).1 rfl (W ++ [(11, (K1.length : Int))]) 0 o rfl (by rw [List.length_append, List.length_singleton]; omega) (by rw [List.length_append, List.length_singleton]; omega) (by rw [wtop_app]; exact (by decide : (11 : Int) ≠ 10)) (by rw [wtop_app]; exact (by decide : ¬ ((2 : Int) ≤ 11 ∧ (11 : Int) ≤ 6))) (by rw [List.replicate_zero, List.append_nil]; exact s2) (by rw [List.length_append, List.length_singleton]; omega) (fun m3 s3 => ?_)
      rw [List.replicate_zero, List.append_nil] at s3
      exact ct m3 K2 _ (.inr ⟨K1.length, hk2, rfl, rfl⟩) s3
    · intro o p K p1 K1 a b
      refine ⟨lD_cn1 a.1 b, fun xs n Q m0 m => ⟨fun e => absurd e (by decide), fun e => absurd e (by decide), fun _ W hw hv h1 hS hk ct => ?_⟩⟩
      exact (a.2 xs n Q m0 m).2.1 rfl W (by omega) hv (.inl h1) hS hk (fun m2 Kc W' hP s2 => ct m2 Kc W' (.inl hP) s2)
    · intro o p K p1 K1 p2 K2 a b c d
      refine ⟨lD_cn2 a.1 b c.1 d, fun xs n Q m0 m => ⟨fun e => absurd e (by decide), fun e => absurd e (by decide), fun _ W hw hv h1 hS hk ct => ?_⟩⟩
      have hg := lD_grow a.1
      have hol := rs_ol hS
      have hk2 : K2[K1.length]? = some (124, 0) := by
        rw [lD_pre c.1 K1.length (by rw [List.length_append, List.length_singleton]; omega)]
        exact lk_last
      refine (a.2 xs n Q m0 m).2.2 rfl W hw hv h1 hS hk (fun m1 Kc W' hP s1 => ?_)
      have hlt : p1 < L := tx_lt (by rw [b]; decide)
      have hL := rs_L s1
      refine r_or hP s1 b (by omega) (by omega) (by omega) (by omega) (fun m2 s2 => ?_)
      refine (c.2 xs n Q m0 m2).2.1 rfl _ (by rw [List.length_append, List.length_singleton]; omega) (by rw [List.length_append, List.length_singleton]; omega) (by rw [wtop_app]; exact .inr rfl) s2 (by rw [List.length_append, List.length_singleton]; omega) (fun m3 Kc W' hP s3 => ?_)
      exact ct m3 Kc W' (.inr ⟨K1.length, K2, hk2, rfl, hP⟩) s3
  exact h2.2
end
section
/-! what is wrong with a condition -/
theorem lD_n38 {T : Nat → Int} {L k o p p' : Nat} {K K' : hCode} (h : lD T L k o p K p' K') : k = 5 → tx T L p' ≠ 38 := by
  refine h (fun k _ _ _ p' _ => k = 5 → tx T L p' ≠ 38) ⟨?_, ?_, ?_, ?_, ?_, ?_, ?_, ?_, ?_, ?_, ?_, ?_, ?_, ?_⟩
  · exact fun _ _ _ _ _ _ _ _ e => absurd e (by decide)
  · exact fun _ _ _ _ e => absurd e (by decide)
  · exact fun _ _ _ _ _ _ _ _ _ e => absurd e (by decide)
  · exact fun _ _ _ _ _ _ e => absurd e (by decide)
  · exact fun _ _ _ _ _ _ _ _ _ _ e => absurd e (by decide)
  · exact fun _ _ _ _ _ _ _ e => absurd e (by decide)
  · exact fun _ _ _ _ _ _ _ _ _ _ _ e => absurd e (by decide)
  · exact fun _ _ _ _ _ _ _ _ _ _ _ _ _ e => absurd e (by decide)
  · exact fun _ _ _ _ _ _ _ _ e => absurd e (by decide)
  · exact fun _ _ _ _ _ _ _ _ _ e => absurd e (by decide)
  · exact fun _ _ _ _ _ _ e => absurd e (by decide)
  · exact fun _ _ _ _ _ _ _ _ _ _ e => absurd e (by decide)
  · exact fun _ _ _ _ _ _ b _ => b
  · exact fun _ _ _ _ _ _ _ _ _ _ d _ => d
noncomputable def rX (T : Nat → Int) (L k o p : Nat) (K : hCode) (f : Int) : Prop := ∀ (xs : List Int32) (n : Nat) (Q : hQ) (m0 m : gx_M), (∀ m', rF m0 f m' → Q (some (.inl 0)) m') →
  (k = 3 → ∀ (V : hCode) (j oo : Nat), o = oo + j → V.length + j ≤ 3 * o → 1 ≤ V.length → wtop V ≠ 10 → ¬ (2 ≤ wtop V ∧ wtop V ≤ 6) → rS T L m0 p K (V ++ List.replicate j (10, 0)) o m → K.length + j ≤ p → PE xs n Q m) ∧
  (k = 4 → ∀ W : hCode, W.length + 1 ≤ 3 * o → 1 ≤ W.length → (wtop W = 13 ∨ wtop W = 12) → rS T L m0 p K W o m → K.length ≤ p → PE xs n Q m) ∧
  (k = 5 → ∀ W : hCode, W.length + 2 ≤ 3 * o → 1 ≤ W.length → wtop W = 13 → rS T L m0 p K W o m → K.length ≤ p → PE xs n Q m)
theorem rX_lo {T : Nat → Int} {L k o p : Nat} {K : hCode} {f : Int} (h : k ≤ 2) : rX T L k o p K f := fun _ _ _ _ _ _ => ⟨fun e => by omega, fun e => by omega, fun e => by omega⟩
theorem rX_all {T : Nat → Int} {L k o p : Nat} {K : hCode} {f : Int} (h : lE T L k o p K f) : rX T L k o p K f := by
  have h2 : lE T L k o p K f ∧ rX T L k o p K f := by
    refine h (fun k o p K f => lE T L k o p K f ∧ rX T L k o p K f) ⟨?_, ?_, ?_, ?_, ?_, ?_, ?_, ?_, ?_, ?_, ?_, ?_, ?_, ?_, ?_, ?_, ?_, ?_, ?_, ?_⟩
    · exact fun o p K a b c => ⟨(lE_rul T L).1 _ _ _ a b c, rX_lo (by decide)⟩
    · exact fun o p K a => ⟨(lE_rul T L).2.1 _ _ _ a, rX_lo (by decide)⟩
    · exact fun o p K a b => ⟨(lE_rul T L).2.2.1 _ _ _ a b, rX_lo (by decide)⟩
    · exact fun o p K f a b c => ⟨(lE_rul T L).2.2.2.1 _ _ _ _ a b c.1, rX_lo (by decide)⟩
    · exact fun o p K p1 K1 a b c d e => ⟨(lE_rul T L).2.2.2.2.1 _ _ _ _ _ a b c d e, rX_lo (by decide)⟩
    · exact fun o p K f a => ⟨(lE_rul T L).2.2.2.2.2.1 _ _ _ _ a.1, rX_lo (by decide)⟩
    · exact fun o p K p1 K1 f a b c => ⟨(lE_rul T L).2.2.2.2.2.2.1 _ _ _ _ _ _ a b c.1, rX_lo (by decide)⟩
    · exact fun o p K f a => ⟨(lE_rul T L).2.2.2.2.2.2.2.1 _ _ _ _ a.1, rX_lo (by decide)⟩
    · exact fun o p K p1 K1 f a b c => ⟨(lE_rul T L).2.2.2.2.2.2.2.2.1 _ _ _ _ _ _ a b c.1, rX_lo (by decide)⟩
    · intro o p K a b
      refine ⟨(lE_rul T L).2.2.2.2.2.2.2.2.2.1 _ _ _ a b, fun xs n Q m0 m hq => ⟨fun _ V j oo ho hw hv h1 h2 hS hk => ?_, fun e => absurd e (by decide), fun e => absurd e (by decide)⟩⟩
      have hhe := rs_he hS
      have hol := rs_ol hS
      have fin : ∀ w : Int, 0 ≤ w ∧ w ≤ 14 → hxn xs n yp_m175 0 [(0, .inr (.inl 86)), (1, .inl w)] [] m (fun r m' => hxn xs n yp_m184 78 [(0, .inr (.inl 86))] (hrs r ++ []) m' Q) := fun w hw2 => by
        refine rs175 hS hw2 (tx_lt (by rcases a with a | a <;> rw [a] <;> decide)) (by rw [List.length_append, List.length_replicate]; omega) (fun e => absurd e (by omega)) (fun _ m2 s2 => ?_)
        show hxn xs n yp_m184 78 _ [.inl 0] m2 Q
        exact hx_dn (hr184_78 (fun c => absurd rfl c) (fun _ => hq m2 s2))
      refine hx_dn (hr184_40 (fun _ _ => fin 10 (by decide)) (fun c1 c2 => ?_) (fun _ _ _ => fin 13 (by decide)))
      rw [hhe] at c1 c2
      rcases a with a | a
      · exact absurd a c1
      · exact absurd a c2
    · intro o p K f a b c
      refine ⟨(lE_rul T L).2.2.2.2.2.2.2.2.2.2.1 _ _ _ _ a b c.1, fun xs n Q m0 m hq => ⟨fun _ V j oo ho hw hv h1 h2 hS hk => ?_, fun e => absurd e (by decide), fun e => absurd e (by decide)⟩⟩
      have hhe := rs_he hS
      refine hx_dn (hr184_40 (fun c => absurd c (by rw [hhe, a]; decide)) (fun _ c => absurd (by rw [hhe]; exact a) c) (fun _ _ _ => ?_))
      refine rs175 hS (by decide) (tx_lt (by rw [a]; decide)) (by rw [List.length_append, List.length_replicate]; omega) (fun _ m2 s2 => ?_) (fun e => absurd e (by omega))
      show hxn xs n yp_m184 78 _ [.inl 1] m2 Q
      refine hx_dn (hr184_78 (fun _ => ?_) (fun c => absurd c (by decide)))
      exact (c.2 xs n Q m0 m2 hq).2.2 rfl _ (by rw [List.length_append, List.length_append, List.length_replicate, List.length_singleton]; omega) (by rw [List.length_append, List.length_singleton]; omega) (by rw [wtop_app]) s2 (by omega)
    · intro o p K p1 K1 a b c d e
      refine ⟨(lE_rul T L).2.2.2.2.2.2.2.2.2.2.2.1 _ _ _ _ _ a b c d e, fun xs n Q m0 m hq => ⟨fun _ V j oo ho hw hv h1 h2 hS hk => ?_, fun e => absurd e (by decide), fun e => absurd e (by decide)⟩⟩
      have hhe := rs_he hS
      refine hx_dn (hr184_40 (fun c => absurd c (by rw [hhe, a]; decide)) (fun _ c => absurd (by rw [hhe]; exact a) c) (fun _ _ _ => ?_))
      refine rs175 hS (by decide) (tx_lt (by rw [a]; decide)) (by rw [List.length_append, List.length_replicate]; omega) (fun _ m2 s2 => ?_) (fun e => absurd e (by omega))
      show hxn xs n yp_m184 78 _ [.inl 1] m2 Q
      refine hx_dn (hr184_78 (fun _ => ?_) (fun c => absurd c (by decide)))
      refine (rC_all c xs n Q m0 m2).2.2 rfl _ (by rw [List.length_append, List.length_append, List.length_replicate, List.length_singleton]; omega) (by rw [List.length_append, List.length_singleton]; omega) (by rw [wtop_app]) s2 (by omega) (fun m3 Kc W' hP s3 => ?_)
      exact r_bad s3 e (lD_n38 c rfl) d (fun m4 h4 => hq m4 h4)
    · intro o p K f a b c
      refine ⟨(lE_rul T L).2.2.2.2.2.2.2.2.2.2.2.2.1 _ _ _ _ a b c.1, fun xs n Q m0 m hq => ⟨fun _ V j oo ho hw hv h1 h2 hS hk => ?_, fun e => absurd e (by decide), fun e => absurd e (by decide)⟩⟩
      have hhe := rs_he hS
      refine hx_dn (hr184_40 (fun _ _ => ?_) (fun c => absurd (by rw [hhe]; exact a) c) (fun c => absurd (by rw [hhe]; exact a) c))
      refine rs175 hS (by decide) (tx_lt (by rw [a]; decide)) (by rw [List.length_append, List.length_replicate]; omega) (fun _ m2 s2 => ?_) (fun e => absurd e (by omega))
      show hxn xs n yp_m184 78 _ [.inl 1] m2 Q
      refine hx_dn (hr184_78 (fun _ => ?_) (fun c => absurd c (by decide)))
      rw [rep_snoc] at s2
      exact (c.2 xs n Q m0 m2 hq).1 rfl V (j + 1) oo (by omega) (by omega) hv h1 h2 s2 (by omega)
    · intro o p K f a b c
      refine ⟨(lE_rul T L).2.2.2.2.2.2.2.2.2.2.2.2.2.1 _ _ _ _ a b c.1, fun xs n Q m0 m hq => ⟨fun _ V j oo ho hw hv h1 h2 hS hk => ?_, fun e => absurd e (by decide), fun e => absurd e (by decide)⟩⟩
      have hhe := rs_he hS
      refine hx_dn (hr184_40 (fun c => absurd (by rw [← hhe]; exact c) a) (fun _ _ => ?_) (fun _ c => absurd (by rw [← hhe]; exact c) b))
      refine hx_dn (hr185_0 ?_)
      refine r_sumF c.1 hS (by omega) (by rw [List.length_append, List.length_replicate]; omega) (wtop_rep h2) (fun m2 s2 => ?_)
      show hxn xs n yp_m185 4 _ [.inl 0] m2 _
      refine hx_dn (hr185_4 (fun c => absurd rfl c) (fun c => absurd rfl c) (fun c => absurd rfl c) (fun c => absurd rfl c) (fun _ => ?_))
      show hxn xs n yp_m184 87 _ [.inl 0] m2 Q
      exact hx_dn (hr184_87 (fun c => absurd rfl c) (fun _ => hq m2 s2))
    · intro o p K p1 K1 a b c d e
      refine ⟨(lE_rul T L).2.2.2.2.2.2.2.2.2.2.2.2.2.2.1 _ _ _ _ _ a b c d e, fun xs n Q m0 m hq => ⟨fun _ V j oo ho hw hv h1 h2 hS hk => ?_, fun e => absurd e (by decide), fun e => absurd e (by decide)⟩⟩
      have hhe := rs_he hS
      refine hx_dn (hr184_40 (fun c => absurd (by rw [← hhe]; exact c) a) (fun _ _ => ?_) (fun _ c => absurd (by rw [← hhe]; exact c) b))
      refine hx_dn (hr185_0 ?_)
      refine r_sumT c d hS (by omega) (by rw [List.length_append, List.length_replicate]; omega) (wtop_rep h2) (fun m1 s1 => ?_)
      show hxn xs n yp_m185 4 _ [.inl 1] m1 _
      have hh1 := rs_he s1
      refine hx_dn (hr185_4 (fun _ _ _ _ => ?_) (fun _ _ _ t => ?_) (fun _ _ t => ?_) (fun _ t => ?_) (fun c => absurd c (by decide)))
      · rw [rs_pl s1]
        refine rs172 s1 (by decide) (fun m2 s2 => ?_)
        show hxn xs n yp_m185 67 [] [.inl 0] m2 _
        refine hx_dn (hr185_67 ?_)
        show hxn xs n yp_m184 87 _ [.inl 0] m2 Q
        exact hx_dn (hr184_87 (fun c => absurd rfl c) (fun _ => hq m2 s2))
      · rw [hh1] at t
        exact absurd (.inr (.inr t)) e
      · rw [hh1] at t
        exact absurd (.inr (.inl t)) e
      · rw [hh1] at t
        exact absurd (.inl t) e
    · intro o p K p1 K1 f a b c d e
      refine ⟨(lE_rul T L).2.2.2.2.2.2.2.2.2.2.2.2.2.2.2.1 _ _ _ _ _ _ a b c d e.1, fun xs n Q m0 m hq => ⟨fun _ V j oo ho hw hv h1 h2 hS hk => ?_, fun e => absurd e (by decide), fun e => absurd e (by decide)⟩⟩
      have hhe := rs_he hS
      have g1 := lD_grow c
      have hlt : p1 < L := tx_lt (fun e => by rw [e] at d; unfold isCm at d; omega)
      refine hx_dn (hr184_40 (fun c => absurd (by rw [← hhe]; exact c) a) (fun _ _ => ?_) (fun _ c => absurd (by rw [← hhe]; exact c) b))
      refine hx_dn (hr185_0 ?_)
      refine r_sumT c (fun c => by unfold isCm at d; unfold isSm at c; omega) hS (by omega) (by rw [List.length_append, List.length_replicate]; omega) (wtop_rep h2) (fun m1 s1 => ?_)
      show hxn xs n yp_m185 4 _ [.inl 1] m1 _
      have hh1 := rs_he s1
      have fin : ∀ w : Int, hxn xs n yp_m173 0 [(0, .inr (.inl 86))] [] (gx_u m1 86 5 (gx_w ((m1 86 5) + 1))) (fun r m' => hxn xs n yp_m185 82 [(0, .inr (.inl 86)), (1, .inl w)] (hrs r ++ []) m' (fun r m' => hxn xs n yp_m184 87 [(0, .inr (.inl 86))] (hrs r ++ []) m' Q)) := fun w => by
        refine r_sumF e.1 (rs_st s1 hlt) (by omega) (by rw [List.length_append, List.length_replicate]; omega) (wtop_rep h2) (fun m2 s2 => ?_)
        show hxn xs n yp_m185 82 _ [.inl 0] m2 _
        refine hx_dn (hr185_82 (fun c => absurd rfl c) (fun _ => ?_))
        show hxn xs n yp_m184 87 _ [.inl 0] m2 Q
        exact hx_dn (hr184_87 (fun c => absurd rfl c) (fun _ => hq m2 s2))
      refine hx_dn (hr185_4 (fun _ t1 t2 t3 => ?_) (fun _ _ _ _ => fin 9) (fun _ _ _ => fin 8) (fun _ _ => fin 7) (fun c => absurd c (by decide)))
      rw [hh1] at t1 t2 t3
      unfold isCm at d
      omega
    · intro o p K f a
      refine ⟨(lE_rul T L).2.2.2.2.2.2.2.2.2.2.2.2.2.2.2.2.1 _ _ _ _ a.1, fun xs n Q m0 m hq => ⟨fun e => absurd e (by decide), fun _ W hw hv h1 hS hk => ?_, fun e => absurd e (by decide)⟩⟩
      exact (a.2 xs n Q m0 m hq).1 rfl W 0 o rfl (by omega) hv (by omega) (by omega) (by rw [List.replicate_zero, List.append_nil]; exact hS) (by omega)
    · intro o p K p1 K1 f a b c
      refine ⟨(lE_rul T L).2.2.2.2.2.2.2.2.2.2.2.2.2.2.2.2.2.1 _ _ _ _ _ _ a b c.1, fun xs n Q m0 m hq => ⟨fun e => absurd e (by decide), fun _ W hw hv h1 hS hk => ?_, fun e => absurd e (by decide)⟩⟩
      have hg := lD_grow a
      have hol := rs_ol hS
      refine (rC_all a xs n Q m0 m).2.1 rfl W hw hv h1 hS hk (fun m1 Kc W' hP s1 => ?_)
      have hlt : p1 < L := tx_lt (by rw [b]; decide)
      have hL := rs_L s1
      refine r_and hP s1 b (by omega) (by omega) (by omega) (fun m2 s2 => ?_)
      exact (c.2 xs n Q m0 m2 hq).1 rfl (W ++ [(11, (K1.length : Int))]) 0 o rfl (by rw [List.length_append, List.length_singleton]; omega) (by rw [List.length_append, List.length_singleton]; omega) (by rw [wtop_app]; exact (by decide : (11 : Int) ≠ 10)) (by rw [wtop_app]; exact (by decide : ¬ ((2 : Int) ≤ 11 ∧ (11 : Int) ≤ 6))) (by rw [List.replicate_zero, List.append_nil]; exact s2) (by rw [List.length_append, List.length_singleton]; omega)
    · intro o p K f a
      refine ⟨(lE_rul T L).2.2.2.2.2.2.2.2.2.2.2.2.2.2.2.2.2.2.1 _ _ _ _ a.1, fun xs n Q m0 m hq => ⟨fun e => absurd e (by decide), fun e => absurd e (by decide), fun _ W hw hv h1 hS hk => ?_⟩⟩
      exact (a.2 xs n Q m0 m hq).2.1 rfl W (by omega) hv (.inl h1) hS hk
    · intro o p K p1 K1 f a b c
      refine ⟨(lE_rul T L).2.2.2.2.2.2.2.2.2.2.2.2.2.2.2.2.2.2.2 _ _ _ _ _ _ a b c.1, fun xs n Q m0 m hq => ⟨fun e => absurd e (by decide), fun e => absurd e (by decide), fun _ W hw hv h1 hS hk => ?_⟩⟩
      have hg := lD_grow a
      have hol := rs_ol hS
      refine (rC_all a xs n Q m0 m).2.2 rfl W hw hv h1 hS hk (fun m1 Kc W' hP s1 => ?_)
      have hlt : p1 < L := tx_lt (by rw [b]; decide)
      have hL := rs_L s1
      refine r_or hP s1 b (by omega) (by omega) (by omega) (by omega) (fun m2 s2 => ?_)
      exact (c.2 xs n Q m0 m2 hq).2.1 rfl (W ++ [(12, (K1.length : Int))]) (by rw [List.length_append, List.length_singleton]; omega) (by rw [List.length_append, List.length_singleton]; omega) (by rw [wtop_app]; exact .inr rfl) s2 (by rw [List.length_append, List.length_singleton]; omega)
  exact h2.2
/-- a condition as a whole, from its bracket on -/
theorem r_conT {xs : List Int32} {n : Nat} {Q : hQ} {T : Nat → Int} {L p p' o0 : Nat} {m0 m : gx_M} {K W0 K' : hCode} (hD : lD T L 5 1 (p + 1) K p' K') (h4 : tx T L p = 40) (h5 : tx T L p' = 41) (hS : rS T L m0 p K W0 o0 m) (hk : K.length ≤ p) (h : ∀ m', rS T L m0 (p' + 1) K' [] 0 m' → Q (some (.inl 1)) m') : hxn xs n yp_m184 0 [(0, .inr (.inl 86))] [] m Q := by
  have hhe := rs_he hS
  have s0 : rS T L m0 p K [] 0 (gx_u (gx_u m 86 9 0) 86 11 0) := by
    refine rS_of hS ?_ ?_ (fun i d hd => ?_) ?_ (fun i r hr => by cases hr) ?_ (fun c k c1 c2 c3 => ?_) (rs_le hS) (rs_kl hS) (by decide) (by decide)
    · rw [gx_u_ne (by omega), gx_u_ne (by omega)]
      exact rs_pl hS
    · rw [gx_u_ne (by omega), gx_u_ne (by omega)]
      exact rs_K hS
    · rw [gx_u_ne (by omega), gx_u_ne (by omega)]
      exact hS.2.1.2 i d hd
    · rw [gx_u_self]
      rfl
    · rw [gx_u_ne (by omega), gx_u_self]
      rfl
    · rw [gx_u_ne (by omega), gx_u_ne (by omega)]
  refine hx_dn (hr184_0 (fun _ => ?_) (fun c => absurd (by rw [hhe]; exact h4) c))
  refine rs175 s0 (by decide) (tx_lt (by rw [h4]; decide)) (by decide) (fun _ m2 s2 => ?_) (fun e => absurd e (by decide))
  show hxn xs n yp_m184 35 _ [.inl 1] m2 Q
  refine hx_dn (hr184_35 (fun _ => ?_) (fun c => absurd c (by decide)))
  exact (rC_all hD xs n Q m0 m2).2.2 rfl _ (by decide) (by decide) (by decide) s2 (by omega) (fun m3 Kc W' hP s3 => r_last hP s3 h5 h)
theorem r_conF {xs : List Int32} {n : Nat} {Q : hQ} {T : Nat → Int} {L p o0 : Nat} {m0 m : gx_M} {K W0 : hCode} {f : Int} (hF : (tx T L p ≠ 40 ∧ f = lfl 1 p) ∨ (tx T L p = 40 ∧ lE T L 5 1 (p + 1) K f) ∨ (tx T L p = 40 ∧ ∃ p1 K1, lD T L 5 1 (p + 1) K p1 K1 ∧ tx T L p1 ≠ 124 ∧ tx T L p1 ≠ 41 ∧ f = lfl 1 p1)) (hS : rS T L m0 p K W0 o0 m) (hk : K.length ≤ p) (h : ∀ m', rF m0 f m' → Q (some (.inl 0)) m') : hxn xs n yp_m184 0 [(0, .inr (.inl 86))] [] m Q := by
  have hhe := rs_he hS
  have s0 : rS T L m0 p K [] 0 (gx_u (gx_u m 86 9 0) 86 11 0) := by
    refine rS_of hS ?_ ?_ (fun i d hd => ?_) ?_ (fun i r hr => by cases hr) ?_ (fun c k c1 c2 c3 => ?_) (rs_le hS) (rs_kl hS) (by decide) (by decide)
    · rw [gx_u_ne (by omega), gx_u_ne (by omega)]
      exact rs_pl hS
    · rw [gx_u_ne (by omega), gx_u_ne (by omega)]
      exact rs_K hS
    · rw [gx_u_ne (by omega), gx_u_ne (by omega)]
      exact hS.2.1.2 i d hd
    · rw [gx_u_self]
      rfl
    · rw [gx_u_ne (by omega), gx_u_self]
      rfl
    · rw [gx_u_ne (by omega), gx_u_ne (by omega)]
  have go : tx T L p = 40 → (∀ m2, rS T L m0 (p + 1) K [(13, 0)] 1 m2 → PE xs n Q m2) → hxn xs n yp_m175 0 [(0, .inr (.inl 86)), (1, .inl 13)] [] (gx_u (gx_u m 86 9 0) 86 11 0) (fun r m' => hxn xs n yp_m184 35 [(0, .inr (.inl 86))] (hrs r ++ []) m' Q) := fun h4 g => by
    refine rs175 s0 (by decide) (tx_lt (by rw [h4]; decide)) (by decide) (fun _ m2 s2 => ?_) (fun e => absurd e (by decide))
    show hxn xs n yp_m184 35 _ [.inl 1] m2 Q
    exact hx_dn (hr184_35 (fun _ => g m2 s2) (fun c => absurd c (by decide)))
  refine hx_dn (hr184_0 (fun c => ?_) (fun c => ?_))
  · rw [hhe] at c
    rcases hF with ⟨a, -⟩ | ⟨-, hE⟩ | ⟨-, p1, K1, hD, a1, a2, rfl⟩
    · exact absurd c a
    · exact go c (fun m2 s2 => (rX_all hE xs n Q m0 m2 h).2.2 rfl _ (by decide) (by decide) (by decide) s2 (by omega))
    · exact go c (fun m2 s2 => (rC_all hD xs n Q m0 m2).2.2 rfl _ (by decide) (by decide) (by decide) s2 (by omega) (fun m3 Kc W' hP s3 => r_bad s3 a2 (lD_n38 hD rfl) a1 h))
  · rw [hhe] at c
    rcases hF with ⟨-, rfl⟩ | ⟨a, -⟩ | ⟨a, -⟩
    · rw [rs_pl hS]
      exact rs172 hS (by decide) (fun m2 h2 => hx_dn (hr184_18 (h m2 h2)))
    · exact absurd a c
    · exact absurd a c
end
section
/-! clauses as the reference reads them: roads -/
/-- isClause from 0 on -/
theorem hs171 {xs : List Int32} {n : Nat} {Q : hQ} {m : gx_M} {x0 : Int}
    (h1 : isKd x0 → Q (some (.inl 1)) m) (h0 : ¬ (isKd x0) → Q (some (.inl 0)) m) : hxn xs n yp_m171 0 [(0, .inl x0)] [] m Q := by
  refine hx_dn ?_
  refine hx_blks (npc := 3) (L' := [(0, .inl x0)]) (st' := [.inl 118, .inl x0]) (m' := m) ((0, .iload_n 0, 1, 0, 0, 0, 0), (0, 0, 0)) [((1, .bipush 118, 2, 0, 0, 0, 0), (0, 0, 0))] (by decide +kernel) rfl ?_
  refine hx_cmp .eq 30 (by decide +kernel) (fun c1 => ?_) (fun c1 => ?_)
  · have c1 : x0 = 118 := c1
    refine hx_blk (npc := 35) (L' := [(0, .inl x0)]) (st' := [.inl 1]) (m' := m) [((30, .iconst 1, 1, 0, 0, 0, 0), (0, 0, 0)), ((31, .goto 4, 3, 0, 0, 0, 0), (0, 0, 0))] (by decide +kernel) rfl ?_
    exact hx_reti (by decide +kernel) (h1 (by unfold isKd; omega))
  · have c1 : x0 ≠ 118 := c1
    refine hx_blk (npc := 9) (L' := [(0, .inl x0)]) (st' := [.inl 105, .inl x0]) (m' := m) [((6, .iload_n 0, 1, 0, 0, 0, 0), (0, 0, 0)), ((7, .bipush 105, 2, 0, 0, 0, 0), (0, 0, 0))] (by decide +kernel) rfl ?_
    refine hx_cmp .eq 30 (by decide +kernel) (fun c2 => ?_) (fun c2 => ?_)
    · have c2 : x0 = 105 := c2
      refine hx_blk (npc := 35) (L' := [(0, .inl x0)]) (st' := [.inl 1]) (m' := m) [((30, .iconst 1, 1, 0, 0, 0, 0), (0, 0, 0)), ((31, .goto 4, 3, 0, 0, 0, 0), (0, 0, 0))] (by decide +kernel) rfl ?_
      exact hx_reti (by decide +kernel) (h1 (by unfold isKd; omega))
    · have c2 : x0 ≠ 105 := c2
      refine hx_blk (npc := 15) (L' := [(0, .inl x0)]) (st' := [.inl 102, .inl x0]) (m' := m) [((12, .iload_n 0, 1, 0, 0, 0, 0), (0, 0, 0)), ((13, .bipush 102, 2, 0, 0, 0, 0), (0, 0, 0))] (by decide +kernel) rfl ?_
      refine hx_cmp .eq 30 (by decide +kernel) (fun c3 => ?_) (fun c3 => ?_)
      · have c3 : x0 = 102 := c3
        refine hx_blk (npc := 35) (L' := [(0, .inl x0)]) (st' := [.inl 1]) (m' := m) [((30, .iconst 1, 1, 0, 0, 0, 0), (0, 0, 0)), ((31, .goto 4, 3, 0, 0, 0, 0), (0, 0, 0))] (by decide +kernel) rfl ?_
        exact hx_reti (by decide +kernel) (h1 (by unfold isKd; omega))
      · have c3 : x0 ≠ 102 := c3
        refine hx_blk (npc := 21) (L' := [(0, .inl x0)]) (st' := [.inl 103, .inl x0]) (m' := m) [((18, .iload_n 0, 1, 0, 0, 0, 0), (0, 0, 0)), ((19, .bipush 103, 2, 0, 0, 0, 0), (0, 0, 0))] (by decide +kernel) rfl ?_
        refine hx_cmp .eq 30 (by decide +kernel) (fun c4 => ?_) (fun c4 => ?_)
        · have c4 : x0 = 103 := c4
          refine hx_blk (npc := 35) (L' := [(0, .inl x0)]) (st' := [.inl 1]) (m' := m) [((30, .iconst 1, 1, 0, 0, 0, 0), (0, 0, 0)), ((31, .goto 4, 3, 0, 0, 0, 0), (0, 0, 0))] (by decide +kernel) rfl ?_
          exact hx_reti (by decide +kernel) (h1 (by unfold isKd; omega))
        · have c4 : x0 ≠ 103 := c4
          refine hx_blk (npc := 27) (L' := [(0, .inl x0)]) (st' := [.inl 110, .inl x0]) (m' := m) [((24, .iload_n 0, 1, 0, 0, 0, 0), (0, 0, 0)), ((25, .bipush 110, 2, 0, 0, 0, 0), (0, 0, 0))] (by decide +kernel) rfl ?_
          refine hx_cmp .ne 34 (by decide +kernel) (fun c5 => ?_) (fun c5 => ?_)
          · have c5 : x0 ≠ 110 := c5
            refine hx_blk (npc := 35) (L' := [(0, .inl x0)]) (st' := [.inl 0]) (m' := m) [((34, .iconst 0, 1, 0, 0, 0, 0), (0, 0, 0))] (by decide +kernel) rfl ?_
            exact hx_reti (by decide +kernel) (h0 (by unfold isKd; omega))
          · have c5 : x0 = 110 := by have h : ¬ (x0 ≠ 110) := c5; omega
            refine hx_blk (npc := 35) (L' := [(0, .inl x0)]) (st' := [.inl 1]) (m' := m) [((30, .iconst 1, 1, 0, 0, 0, 0), (0, 0, 0)), ((31, .goto 4, 3, 0, 0, 0, 0), (0, 0, 0))] (by decide +kernel) rfl ?_
            exact hx_reti (by decide +kernel) (h1 (by unfold isKd; omega))

/-- readsClause from 0 on -/
theorem hr169_0 {xs : List Int32} {n : Nat} {Q : hQ} {m : gx_M}
    (h1 : (isKd (aHere m)) → ((m 86 12) ≠ 16) → ((aHere m) = 110) → hxn xs n yp_m184 0 [(0, .inr (.inl 86))] [] (gx_u (gx_u (gx_u (gx_u (gx_u (gx_u m 93 (m 86 12).toNat (aHere m)) 86 5 (gx_w ((m 86 5) + 1))) 94 (m 86 12).toNat (m 86 10)) 86 9 0) 86 11 0) 95 (m 86 12).toNat (m 86 10)) (fun r m' => hxn xs n yp_m169 116 [(0, .inr (.inl 86))] (hrs r ++ []) m' Q))
    (h2 : (isKd (aHere m)) → ((m 86 12) ≠ 16) → ((aHere m) ≠ 110) → hxn xs n yp_m173 0 [(0, .inr (.inl 86))] [] (gx_u (gx_u (gx_u (gx_u (gx_u m 93 (m 86 12).toNat (aHere m)) 86 5 (gx_w ((m 86 5) + 1))) 94 (m 86 12).toNat (m 86 10)) 86 9 0) 86 11 0) (fun r m' => hxn xs n yp_m169 94 [(0, .inr (.inl 86))] (hrs r ++ []) m' Q))
    (h3 : (isKd (aHere m)) → ((m 86 12) = 16) → hxn xs n yp_m172 0 [(0, .inr (.inl 86)), (1, .inl 4), (2, .inl (m 86 5))] [] m (fun r m' => hxn xs n yp_m169 40 [] (hrs r ++ []) m' Q))
    (h4 : (¬ (isKd (aHere m))) → hxn xs n yp_m172 0 [(0, .inr (.inl 86)), (1, .inl 1), (2, .inl (m 86 5))] [] m (fun r m' => hxn xs n yp_m169 21 [] (hrs r ++ []) m' Q)) : hxn xs (n + 1) yp_m169 0 [(0, .inr (.inl 86))] [] m Q := by
  refine hx_blks (npc := 1) (L' := [(0, .inr (.inl 86))]) (st' := [.inr (.inl 86)]) (m' := m) ((0, .aload_n 0, 1, 0, 0, 0, 0), (0, 0, 0)) [] (by decide +kernel) rfl ?_
  refine hx_call (E := (1, .invokevirtual 138, 3, 170, 0, 6054, 0)) (M' := yp_m170) [.inr (.inl 86)] [] rfl (by decide +kernel) rfl ⟨rfl, rfl⟩ rfl rfl (hs170 ?_)
  show hxn xs n yp_m169 4 [(0, .inr (.inl 86))] [.inl (aHere m)] m Q
  refine hx_blk (npc := 6) (L' := [(0, .inr (.inl 86)), (1, .inl (aHere m))]) (st' := [.inl (aHere m)]) (m' := m) [((4, .istore_n 1, 1, 0, 0, 0, 0), (0, 0, 0)), ((5, .iload_n 1, 1, 0, 0, 0, 0), (0, 0, 0))] (by decide +kernel) rfl ?_
  refine hx_call (E := (6, .invokestatic 210, 3, 171, 0, 6058, 0)) (M' := yp_m171) [.inl (aHere m)] [] rfl (by decide +kernel) rfl ⟨rfl, rfl⟩ rfl rfl (hs171 (fun c1 => ?_) (fun c1 => ?_))
  · have c1 : isKd (aHere m) := c1
    show hxn xs n yp_m169 9 [(0, .inr (.inl 86)), (1, .inl (aHere m))] [.inl 1] m Q
    refine hx_if .ne 22 (by decide +kernel) (fun c2 => ?_) (fun c2 => ?_)
    · have c2 : (1 : Int) ≠ 0 := c2
      refine hx_blk (npc := 28) (L' := [(0, .inr (.inl 86)), (1, .inl (aHere m))]) (st' := [.inl 16, .inl (m 86 12)]) (m' := m) [((22, .aload_n 0, 1, 0, 0, 0, 0), (0, 0, 0)), ((23, .getfield 213, 3, 10, 12, 5125, 0), (0, 86, 0)), ((26, .bipush 16, 2, 0, 0, 0, 0), (0, 0, 0))] (by decide +kernel) rfl ?_
      refine hx_cmp .ne 41 (by decide +kernel) (fun c2 => ?_) (fun c2 => ?_)
      · have c2 : (m 86 12) ≠ 16 := c2
        refine hx_blk (npc := 87) (L' := [(0, .inr (.inl 86)), (1, .inl (aHere m))]) (st' := [.inl 110, .inl (aHere m)]) (m' := (gx_u (gx_u (gx_u (gx_u (gx_u m 93 (m 86 12).toNat (aHere m)) 86 5 (gx_w ((m 86 5) + 1))) 94 (m 86 12).toNat (m 86 10)) 86 9 0) 86 11 0)) [((41, .aload_n 0, 1, 0, 0, 0, 0), (0, 0, 0)), ((42, .getfield 29, 3, 10, 16, 5129, 0), (1, 86, 93)), ((45, .aload_n 0, 1, 0, 0, 0, 0), (0, 0, 0)), ((46, .getfield 213, 3, 10, 12, 5125, 0), (0, 86, 0)), ((49, .iload_n 1, 1, 0, 0, 0, 0), (0, 0, 0)), ((50, .iastore, 1, 0, 0, 0, 0), (0, 93, 0)), ((51, .aload_n 0, 1, 0, 0, 0, 0), (0, 0, 0)), ((52, .aload_n 0, 1, 0, 0, 0, 0), (0, 0, 0)), ((53, .getfield 132, 3, 10, 5, 5118, 0), (0, 86, 0)), ((56, .iconst 1, 1, 0, 0, 0, 0), (0, 0, 0)), ((57, .iadd, 1, 0, 0, 0, 0), (0, 0, 0)), ((58, .putfield 132, 3, 10, 5, 5118, 0), (0, 86, 0)), ((61, .aload_n 0, 1, 0, 0, 0, 0), (0, 0, 0)), ((62, .getfield 32, 3, 10, 17, 5130, 0), (1, 86, 94)), ((65, .aload_n 0, 1, 0, 0, 0, 0), (0, 0, 0)), ((66, .getfield 213, 3, 10, 12, 5125, 0), (0, 86, 0)), ((69, .aload_n 0, 1, 0, 0, 0, 0), (0, 0, 0)), ((70, .getfield 155, 3, 10, 10, 5123, 0), (0, 86, 0)), ((73, .iastore, 1, 0, 0, 0, 0), (0, 94, 0)), ((74, .aload_n 0, 1, 0, 0, 0, 0), (0, 0, 0)), ((75, .iconst 0, 1, 0, 0, 0, 0), (0, 0, 0)), ((76, .putfield 159, 3, 10, 9, 5122, 0), (0, 86, 0)), ((79, .aload_n 0, 1, 0, 0, 0, 0), (0, 0, 0)), ((80, .iconst 0, 1, 0, 0, 0, 0), (0, 0, 0)), ((81, .putfield 162, 3, 10, 11, 5124, 0), (0, 86, 0)), ((84, .iload_n 1, 1, 0, 0, 0, 0), (0, 0, 0)), ((85, .bipush 110, 2, 0, 0, 0, 0), (0, 0, 0))] (by decide +kernel) rfl ?_
        refine hx_cmp .eq 99 (by decide +kernel) (fun c3 => ?_) (fun c3 => ?_)
        · have c3 : (aHere m) = 110 := c3
          refine hx_blk (npc := 113) (L' := [(0, .inr (.inl 86)), (1, .inl (aHere m))]) (st' := [.inr (.inl 86)]) (m' := (gx_u (gx_u (gx_u (gx_u (gx_u (gx_u m 93 (m 86 12).toNat (aHere m)) 86 5 (gx_w ((m 86 5) + 1))) 94 (m 86 12).toNat (m 86 10)) 86 9 0) 86 11 0) 95 (m 86 12).toNat (m 86 10))) [((99, .aload_n 0, 1, 0, 0, 0, 0), (0, 0, 0)), ((100, .getfield 35, 3, 10, 18, 5131, 0), (1, 86, 95)), ((103, .aload_n 0, 1, 0, 0, 0, 0), (0, 0, 0)), ((104, .getfield 213, 3, 10, 12, 5125, 0), (0, 86, 0)), ((107, .aload_n 0, 1, 0, 0, 0, 0), (0, 0, 0)), ((108, .getfield 155, 3, 10, 10, 5123, 0), (0, 86, 0)), ((111, .iastore, 1, 0, 0, 0, 0), (0, 95, 0)), ((112, .aload_n 0, 1, 0, 0, 0, 0), (0, 0, 0))] (by decide +kernel) rfl ?_
          exact hx_call (E := (113, .invokevirtual 216, 3, 184, 0, 6108, 0)) (M' := yp_m184) [.inr (.inl 86)] [] rfl (by decide +kernel) rfl ⟨rfl, rfl⟩ rfl rfl (hx_mono (h1 c1 c2 c3) (fun r m' h' => hx_pick [0] h'))
        · have c3 : (aHere m) ≠ 110 := c3
          refine hx_blk (npc := 91) (L' := [(0, .inr (.inl 86)), (1, .inl (aHere m))]) (st' := [.inr (.inl 86)]) (m' := (gx_u (gx_u (gx_u (gx_u (gx_u m 93 (m 86 12).toNat (aHere m)) 86 5 (gx_w ((m 86 5) + 1))) 94 (m 86 12).toNat (m 86 10)) 86 9 0) 86 11 0)) [((90, .aload_n 0, 1, 0, 0, 0, 0), (0, 0, 0))] (by decide +kernel) rfl ?_
          exact hx_call (E := (91, .invokevirtual 195, 3, 173, 0, 6065, 0)) (M' := yp_m173) [.inr (.inl 86)] [] rfl (by decide +kernel) rfl ⟨rfl, rfl⟩ rfl rfl (hx_mono (h2 c1 c2 c3) (fun r m' h' => hx_pick [0] h'))
      · have c2 : (m 86 12) = 16 := by have h : ¬ ((m 86 12) ≠ 16) := c2; omega
        refine hx_blk (npc := 37) (L' := [(0, .inr (.inl 86)), (1, .inl (aHere m))]) (st' := [.inl (m 86 5), .inl 4, .inr (.inl 86)]) (m' := m) [((31, .aload_n 0, 1, 0, 0, 0, 0), (0, 0, 0)), ((32, .iconst 4, 1, 0, 0, 0, 0), (0, 0, 0)), ((33, .aload_n 0, 1, 0, 0, 0, 0), (0, 0, 0)), ((34, .getfield 132, 3, 10, 5, 5118, 0), (0, 86, 0))] (by decide +kernel) rfl ?_
        exact hx_call (E := (37, .invokevirtual 145, 3, 172, 0, 6061, 0)) (M' := yp_m172) [.inr (.inl 86), .inl 4, .inl (m 86 5)] [] rfl (by decide +kernel) rfl ⟨rfl, rfl⟩ rfl rfl (hx_mono (h3 c1 c2) (fun r m' h' => hx_pick [] h'))
    · have c2 : (1 : Int) = 0 := by have h : ¬ ((1 : Int) ≠ 0) := c2; omega
      exfalso; omega
  · have c1 : ¬ (isKd (aHere m)) := c1
    show hxn xs n yp_m169 9 [(0, .inr (.inl 86)), (1, .inl (aHere m))] [.inl 0] m Q
    refine hx_if .ne 22 (by decide +kernel) (fun c2 => ?_) (fun c2 => ?_)
    · have c2 : (0 : Int) ≠ 0 := c2
      exfalso; omega
    · have c2 : (0 : Int) = 0 := by have h : ¬ ((0 : Int) ≠ 0) := c2; omega
      refine hx_blk (npc := 18) (L' := [(0, .inr (.inl 86)), (1, .inl (aHere m))]) (st' := [.inl (m 86 5), .inl 1, .inr (.inl 86)]) (m' := m) [((12, .aload_n 0, 1, 0, 0, 0, 0), (0, 0, 0)), ((13, .iconst 1, 1, 0, 0, 0, 0), (0, 0, 0)), ((14, .aload_n 0, 1, 0, 0, 0, 0), (0, 0, 0)), ((15, .getfield 132, 3, 10, 5, 5118, 0), (0, 86, 0))] (by decide +kernel) rfl ?_
      exact hx_call (E := (18, .invokevirtual 145, 3, 172, 0, 6061, 0)) (M' := yp_m172) [.inr (.inl 86), .inl 1, .inl (m 86 5)] [] rfl (by decide +kernel) rfl ⟨rfl, rfl⟩ rfl rfl (hx_mono (h4 c1) (fun r m' h' => hx_pick [] h'))

/-- readsClause from 21 on -/
theorem hr169_21 {xs : List Int32} {n : Nat} {Q : hQ} {m : gx_M} {s0 : Int}
    (h1 : Q (some (.inl s0)) m) : hxn xs (n + 1) yp_m169 21 [] [.inl s0] m Q := by
  exact hx_reti (by decide +kernel) h1

/-- readsClause from 40 on -/
theorem hr169_40 {xs : List Int32} {n : Nat} {Q : hQ} {m : gx_M} {s0 : Int}
    (h1 : Q (some (.inl s0)) m) : hxn xs (n + 1) yp_m169 40 [] [.inl s0] m Q := by
  exact hx_reti (by decide +kernel) h1

/-- readsClause from 94 on -/
theorem hr169_94 {xs : List Int32} {n : Nat} {Q : hQ} {m : gx_M} {s0 : Int}
    (h1 : (s0 ≠ 0) → hxn xs n yp_m184 0 [(0, .inr (.inl 86))] [] (gx_u m 95 (m 86 12).toNat (m 86 10)) (fun r m' => hxn xs n yp_m169 116 [(0, .inr (.inl 86))] (hrs r ++ []) m' Q))
    (h2 : (s0 = 0) → Q (some (.inl 0)) m) : hxn xs (n + 1) yp_m169 94 [(0, .inr (.inl 86))] [.inl s0] m Q := by
  refine hx_ifs .ne 99 (by decide +kernel) (fun c1 => ?_) (fun c1 => ?_)
  · have c1 : s0 ≠ 0 := c1
    refine hx_blk (npc := 113) (L' := [(0, .inr (.inl 86))]) (st' := [.inr (.inl 86)]) (m' := (gx_u m 95 (m 86 12).toNat (m 86 10))) [((99, .aload_n 0, 1, 0, 0, 0, 0), (0, 0, 0)), ((100, .getfield 35, 3, 10, 18, 5131, 0), (1, 86, 95)), ((103, .aload_n 0, 1, 0, 0, 0, 0), (0, 0, 0)), ((104, .getfield 213, 3, 10, 12, 5125, 0), (0, 86, 0)), ((107, .aload_n 0, 1, 0, 0, 0, 0), (0, 0, 0)), ((108, .getfield 155, 3, 10, 10, 5123, 0), (0, 86, 0)), ((111, .iastore, 1, 0, 0, 0, 0), (0, 95, 0)), ((112, .aload_n 0, 1, 0, 0, 0, 0), (0, 0, 0))] (by decide +kernel) rfl ?_
    exact hx_call (E := (113, .invokevirtual 216, 3, 184, 0, 6108, 0)) (M' := yp_m184) [.inr (.inl 86)] [] rfl (by decide +kernel) rfl ⟨rfl, rfl⟩ rfl rfl (hx_mono (h1 c1) (fun r m' h' => hx_pick [0] h'))
  · have c1 : s0 = 0 := by have h : ¬ (s0 ≠ 0) := c1; omega
    refine hx_blk (npc := 98) (L' := [(0, .inr (.inl 86))]) (st' := [.inl 0]) (m' := m) [((97, .iconst 0, 1, 0, 0, 0, 0), (0, 0, 0))] (by decide +kernel) rfl ?_
    exact hx_reti (by decide +kernel) (h2 c1)

/-- readsClause from 116 on -/
theorem hr169_116 {xs : List Int32} {n : Nat} {Q : hQ} {m : gx_M} {s0 : Int}
    (h1 : (s0 ≠ 0) → Q (some (.inl 1)) (gx_u (gx_u m 96 (m 86 12).toNat (m 86 10)) 86 12 (gx_w ((m 86 12) + 1))))
    (h2 : (s0 = 0) → Q (some (.inl 0)) m) : hxn xs (n + 1) yp_m169 116 [(0, .inr (.inl 86))] [.inl s0] m Q := by
  refine hx_ifs .ne 121 (by decide +kernel) (fun c1 => ?_) (fun c1 => ?_)
  · have c1 : s0 ≠ 0 := c1
    refine hx_blk (npc := 145) (L' := [(0, .inr (.inl 86))]) (st' := [.inl 1]) (m' := (gx_u (gx_u m 96 (m 86 12).toNat (m 86 10)) 86 12 (gx_w ((m 86 12) + 1)))) [((121, .aload_n 0, 1, 0, 0, 0, 0), (0, 0, 0)), ((122, .getfield 38, 3, 10, 19, 5132, 0), (1, 86, 96)), ((125, .aload_n 0, 1, 0, 0, 0, 0), (0, 0, 0)), ((126, .getfield 213, 3, 10, 12, 5125, 0), (0, 86, 0)), ((129, .aload_n 0, 1, 0, 0, 0, 0), (0, 0, 0)), ((130, .getfield 155, 3, 10, 10, 5123, 0), (0, 86, 0)), ((133, .iastore, 1, 0, 0, 0, 0), (0, 96, 0)), ((134, .aload_n 0, 1, 0, 0, 0, 0), (0, 0, 0)), ((135, .aload_n 0, 1, 0, 0, 0, 0), (0, 0, 0)), ((136, .getfield 213, 3, 10, 12, 5125, 0), (0, 86, 0)), ((139, .iconst 1, 1, 0, 0, 0, 0), (0, 0, 0)), ((140, .iadd, 1, 0, 0, 0, 0), (0, 0, 0)), ((141, .putfield 213, 3, 10, 12, 5125, 0), (0, 86, 0)), ((144, .iconst 1, 1, 0, 0, 0, 0), (0, 0, 0))] (by decide +kernel) rfl ?_
    exact hx_reti (by decide +kernel) (h1 c1)
  · have c1 : s0 = 0 := by have h : ¬ (s0 ≠ 0) := c1; omega
    refine hx_blk (npc := 120) (L' := [(0, .inr (.inl 86))]) (st' := [.inl 0]) (m' := m) [((119, .iconst 0, 1, 0, 0, 0, 0), (0, 0, 0))] (by decide +kernel) rfl ?_
    exact hx_reti (by decide +kernel) (h2 c1)

/-- law from 0 on -/
theorem hr168_0 {xs : List Int32} {n : Nat} {Q : hQ} {m : gx_M} {x1 : Int}
    (h1 : (1 ≤ x1 ∧ x1 ≤ 240) → (x1 ≤ (m 86 4)) → hxn xs n yp_m169 0 [(0, .inr (.inl 86))] [] (gx_u (gx_u (gx_u (gx_u m 86 5 0) 86 6 x1) 86 10 0) 86 12 0) (fun r m' => hxn xs n yp_m168 45 [(0, .inr (.inl 86))] (hrs r ++ []) m' Q))
    (h2 : (1 ≤ x1 ∧ x1 ≤ 240) → ((m 86 4) < x1) → Q (some (.inl (-1))) m)
    (h3 : (¬ (1 ≤ x1 ∧ x1 ≤ 240)) → Q (some (.inl (-1))) m) : hxn xs (n + 1) yp_m168 0 [(0, .inr (.inl 86)), (1, .inl x1)] [] m Q := by
  refine hx_blks (npc := 5) (L' := [(0, .inr (.inl 86)), (1, .inl x1)]) (st' := [.inl 240, .inl 1, .inl x1]) (m' := m) ((0, .iload_n 1, 1, 0, 0, 0, 0), (0, 0, 0)) [((1, .iconst 1, 1, 0, 0, 0, 0), (0, 0, 0)), ((2, .sipush 240, 3, 0, 0, 0, 0), (0, 0, 0))] (by decide +kernel) rfl ?_
  refine hx_call (E := (5, .invokestatic 108, 3, 162, 0, 6023, 0)) (M' := yp_m162) [.inl x1, .inl 1, .inl 240] [] rfl (by decide +kernel) rfl ⟨rfl, rfl⟩ rfl rfl (hs162 (fun c1 => ?_) (fun c1 => ?_))
  · have c1 : 1 ≤ x1 ∧ x1 ≤ 240 := c1
    show hxn xs n yp_m168 8 [(0, .inr (.inl 86)), (1, .inl x1)] [.inl 1] m Q
    refine hx_if .eq 19 (by decide +kernel) (fun c2 => ?_) (fun c2 => ?_)
    · have c2 : (1 : Int) = 0 := c2
      exfalso; omega
    · have c2 : (1 : Int) ≠ 0 := c2
      refine hx_blk (npc := 16) (L' := [(0, .inr (.inl 86)), (1, .inl x1)]) (st' := [.inl (m 86 4), .inl x1]) (m' := m) [((11, .iload_n 1, 1, 0, 0, 0, 0), (0, 0, 0)), ((12, .aload_n 0, 1, 0, 0, 0, 0), (0, 0, 0)), ((13, .getfield 124, 3, 10, 4, 5117, 0), (0, 86, 0))] (by decide +kernel) rfl ?_
      refine hx_cmp .le 21 (by decide +kernel) (fun c2 => ?_) (fun c2 => ?_)
      · have c2 : x1 ≤ (m 86 4) := c2
        refine hx_blk (npc := 42) (L' := [(0, .inr (.inl 86)), (1, .inl x1)]) (st' := [.inr (.inl 86)]) (m' := (gx_u (gx_u (gx_u (gx_u m 86 5 0) 86 6 x1) 86 10 0) 86 12 0)) [((21, .aload_n 0, 1, 0, 0, 0, 0), (0, 0, 0)), ((22, .iconst 0, 1, 0, 0, 0, 0), (0, 0, 0)), ((23, .putfield 132, 3, 10, 5, 5118, 0), (0, 86, 0)), ((26, .aload_n 0, 1, 0, 0, 0, 0), (0, 0, 0)), ((27, .iload_n 1, 1, 0, 0, 0, 0), (0, 0, 0)), ((28, .putfield 135, 3, 10, 6, 5119, 0), (0, 86, 0)), ((31, .aload_n 0, 1, 0, 0, 0, 0), (0, 0, 0)), ((32, .iconst 0, 1, 0, 0, 0, 0), (0, 0, 0)), ((33, .putfield 155, 3, 10, 10, 5123, 0), (0, 86, 0)), ((36, .aload_n 0, 1, 0, 0, 0, 0), (0, 0, 0)), ((37, .iconst 0, 1, 0, 0, 0, 0), (0, 0, 0)), ((38, .putfield 213, 3, 10, 12, 5125, 0), (0, 86, 0)), ((41, .aload_n 0, 1, 0, 0, 0, 0), (0, 0, 0))] (by decide +kernel) rfl ?_
        exact hx_call (E := (42, .invokevirtual 219, 3, 169, 0, 6050, 0)) (M' := yp_m169) [.inr (.inl 86)] [] rfl (by decide +kernel) rfl ⟨rfl, rfl⟩ rfl rfl (hx_mono (h1 c1 c2) (fun r m' h' => hx_pick [0] h'))
      · have c2 : (m 86 4) < x1 := by have h : ¬ (x1 ≤ (m 86 4)) := c2; omega
        refine hx_blk (npc := 20) (L' := [(0, .inr (.inl 86)), (1, .inl x1)]) (st' := [.inl (-1)]) (m' := m) [((19, .iconst (-1), 1, 0, 0, 0, 0), (0, 0, 0))] (by decide +kernel) rfl ?_
        exact hx_reti (by decide +kernel) (h2 c1 c2)
  · have c1 : ¬ (1 ≤ x1 ∧ x1 ≤ 240) := c1
    show hxn xs n yp_m168 8 [(0, .inr (.inl 86)), (1, .inl x1)] [.inl 0] m Q
    refine hx_if .eq 19 (by decide +kernel) (fun c2 => ?_) (fun c2 => ?_)
    · have c2 : (0 : Int) = 0 := c2
      refine hx_blk (npc := 20) (L' := [(0, .inr (.inl 86)), (1, .inl x1)]) (st' := [.inl (-1)]) (m' := m) [((19, .iconst (-1), 1, 0, 0, 0, 0), (0, 0, 0))] (by decide +kernel) rfl ?_
      exact hx_reti (by decide +kernel) (h3 c1)
    · have c2 : (0 : Int) ≠ 0 := c2
      exfalso; omega

/-- law from 45 on -/
theorem hr168_45 {xs : List Int32} {n : Nat} {Q : hQ} {m : gx_M} {s0 : Int}
    (h1 : hxn xs n yp_m168 46 [(0, .inr (.inl 86)), (2, .inl s0)] [] m Q) : hxn xs (n + 1) yp_m168 45 [(0, .inr (.inl 86))] [.inl s0] m Q := by
  refine hx_blks (npc := 46) (L' := [(0, .inr (.inl 86)), (2, .inl s0)]) (st' := []) (m' := m) ((45, .istore_n 2, 1, 0, 0, 0, 0), (0, 0, 0)) [] (by decide +kernel) rfl ?_
  exact hx_pick [0, 2] h1

/-- law from 46 on -/
theorem hr168_46 {xs : List Int32} {n : Nat} {Q : hQ} {m : gx_M} {x2 : Int}
    (h1 : (x2 = 0) → (x2 = 0) → Q (some (.inl (m 86 7))) (gx_u m 86 4 0))
    (h2 : (x2 ≠ 0) → ((m 86 6) ≤ (m 86 5)) → (x2 ≠ 0) → hxn xs n yp_m168 110 [(0, .inr (.inl 86)), (3, .inl 0)] [] (gx_u (gx_u m 86 4 0) 86 13 (m 86 12)) Q)
    (h3 : (x2 ≠ 0) → ((m 86 6) ≤ (m 86 5)) → (x2 = 0) → Q (some (.inl (m 86 7))) (gx_u m 86 4 0))
    (h4 : (x2 ≠ 0) → ((m 86 5) < (m 86 6)) → hxn xs n yp_m189 0 [(0, .inr (.inl 86)), (1, .inl 59)] [] m (fun r m' => hxn xs n yp_m168 67 [(0, .inr (.inl 86))] (hrs r ++ []) m' Q)) : hxn xs (n + 1) yp_m168 46 [(0, .inr (.inl 86)), (2, .inl x2)] [] m Q := by
  refine hx_blks (npc := 47) (L' := [(0, .inr (.inl 86)), (2, .inl x2)]) (st' := [.inl x2]) (m' := m) ((46, .iload_n 2, 1, 0, 0, 0, 0), (0, 0, 0)) [] (by decide +kernel) rfl ?_
  refine hx_if .eq 86 (by decide +kernel) (fun c1 => ?_) (fun c1 => ?_)
  · have c1 : x2 = 0 := c1
    refine hx_blk (npc := 92) (L' := [(0, .inr (.inl 86)), (2, .inl x2)]) (st' := [.inl x2]) (m' := (gx_u m 86 4 0)) [((86, .aload_n 0, 1, 0, 0, 0, 0), (0, 0, 0)), ((87, .iconst 0, 1, 0, 0, 0, 0), (0, 0, 0)), ((88, .putfield 124, 3, 10, 4, 5117, 0), (0, 86, 0)), ((91, .iload_n 2, 1, 0, 0, 0, 0), (0, 0, 0))] (by decide +kernel) rfl ?_
    refine hx_if .ne 100 (by decide +kernel) (fun c2 => ?_) (fun c2 => ?_)
    · have c2 : x2 ≠ 0 := c2
      exfalso; omega
    · have c2 : x2 = 0 := by have h : ¬ (x2 ≠ 0) := c2; omega
      refine hx_blk (npc := 99) (L' := [(0, .inr (.inl 86)), (2, .inl x2)]) (st' := [.inl (m 86 7)]) (m' := (gx_u m 86 4 0)) [((95, .aload_n 0, 1, 0, 0, 0, 0), (0, 0, 0)), ((96, .getfield 142, 3, 10, 7, 5120, 0), (0, 86, 0))] (by decide +kernel) rfl ?_
      exact hx_reti (by decide +kernel) (h1 c1 c2)
  · have c1 : x2 ≠ 0 := c1
    refine hx_blk (npc := 58) (L' := [(0, .inr (.inl 86)), (2, .inl x2)]) (st' := [.inl (m 86 6), .inl (m 86 5)]) (m' := m) [((50, .aload_n 0, 1, 0, 0, 0, 0), (0, 0, 0)), ((51, .getfield 132, 3, 10, 5, 5118, 0), (0, 86, 0)), ((54, .aload_n 0, 1, 0, 0, 0, 0), (0, 0, 0)), ((55, .getfield 135, 3, 10, 6, 5119, 0), (0, 86, 0))] (by decide +kernel) rfl ?_
    refine hx_cmp .ge 86 (by decide +kernel) (fun c2 => ?_) (fun c2 => ?_)
    · have c2 : (m 86 6) ≤ (m 86 5) := c2
      refine hx_blk (npc := 92) (L' := [(0, .inr (.inl 86)), (2, .inl x2)]) (st' := [.inl x2]) (m' := (gx_u m 86 4 0)) [((86, .aload_n 0, 1, 0, 0, 0, 0), (0, 0, 0)), ((87, .iconst 0, 1, 0, 0, 0, 0), (0, 0, 0)), ((88, .putfield 124, 3, 10, 4, 5117, 0), (0, 86, 0)), ((91, .iload_n 2, 1, 0, 0, 0, 0), (0, 0, 0))] (by decide +kernel) rfl ?_
      refine hx_if .ne 100 (by decide +kernel) (fun c3 => ?_) (fun c3 => ?_)
      · have c3 : x2 ≠ 0 := c3
        refine hx_blk (npc := 110) (L' := [(0, .inr (.inl 86)), (2, .inl x2), (3, .inl 0)]) (st' := []) (m' := (gx_u (gx_u m 86 4 0) 86 13 (m 86 12))) [((100, .aload_n 0, 1, 0, 0, 0, 0), (0, 0, 0)), ((101, .aload_n 0, 1, 0, 0, 0, 0), (0, 0, 0)), ((102, .getfield 213, 3, 10, 12, 5125, 0), (0, 86, 0)), ((105, .putfield 225, 3, 10, 13, 5126, 0), (0, 86, 0)), ((108, .iconst 0, 1, 0, 0, 0, 0), (0, 0, 0)), ((109, .istore_n 3, 1, 0, 0, 0, 0), (0, 0, 0))] (by decide +kernel) rfl ?_
        exact hx_pick [0, 3] (h2 c1 c2 c3)
      · have c3 : x2 = 0 := by have h : ¬ (x2 ≠ 0) := c3; omega
        refine hx_blk (npc := 99) (L' := [(0, .inr (.inl 86)), (2, .inl x2)]) (st' := [.inl (m 86 7)]) (m' := (gx_u m 86 4 0)) [((95, .aload_n 0, 1, 0, 0, 0, 0), (0, 0, 0)), ((96, .getfield 142, 3, 10, 7, 5120, 0), (0, 86, 0))] (by decide +kernel) rfl ?_
        exact hx_reti (by decide +kernel) (h3 c1 c2 c3)
    · have c2 : (m 86 5) < (m 86 6) := by have h : ¬ ((m 86 6) ≤ (m 86 5)) := c2; omega
      refine hx_blk (npc := 64) (L' := [(0, .inr (.inl 86)), (2, .inl x2)]) (st' := [.inl 59, .inr (.inl 86)]) (m' := m) [((61, .aload_n 0, 1, 0, 0, 0, 0), (0, 0, 0)), ((62, .bipush 59, 2, 0, 0, 0, 0), (0, 0, 0))] (by decide +kernel) rfl ?_
      exact hx_call (E := (64, .invokevirtual 222, 3, 189, 0, 6128, 0)) (M' := yp_m189) [.inr (.inl 86), .inl 59] [] rfl (by decide +kernel) rfl ⟨rfl, rfl⟩ rfl rfl (hx_mono (h4 c1 c2) (fun r m' h' => hx_pick [0] h'))

/-- law from 67 on -/
theorem hr168_67 {xs : List Int32} {n : Nat} {Q : hQ} {m : gx_M} {s0 : Int}
    (h1 : (s0 = 0) → hxn xs n yp_m168 46 [(0, .inr (.inl 86)), (2, .inl 0)] [] m Q)
    (h2 : (s0 ≠ 0) → hxn xs n yp_m169 0 [(0, .inr (.inl 86))] [] m (fun r m' => hxn xs n yp_m168 74 [(0, .inr (.inl 86))] (hrs r ++ []) m' Q)) : hxn xs (n + 1) yp_m168 67 [(0, .inr (.inl 86))] [.inl s0] m Q := by
  refine hx_ifs .eq 81 (by decide +kernel) (fun c1 => ?_) (fun c1 => ?_)
  · have c1 : s0 = 0 := c1
    refine hx_blk (npc := 46) (L' := [(0, .inr (.inl 86)), (2, .inl 0)]) (st' := []) (m' := m) [((81, .iconst 0, 1, 0, 0, 0, 0), (0, 0, 0)), ((82, .istore_n 2, 1, 0, 0, 0, 0), (0, 0, 0)), ((83, .goto (-37), 3, 0, 0, 0, 0), (0, 0, 0))] (by decide +kernel) rfl ?_
    exact hx_pick [0, 2] (h1 c1)
  · have c1 : s0 ≠ 0 := c1
    refine hx_blk (npc := 71) (L' := [(0, .inr (.inl 86))]) (st' := [.inr (.inl 86)]) (m' := m) [((70, .aload_n 0, 1, 0, 0, 0, 0), (0, 0, 0))] (by decide +kernel) rfl ?_
    exact hx_call (E := (71, .invokevirtual 219, 3, 169, 0, 6050, 0)) (M' := yp_m169) [.inr (.inl 86)] [] rfl (by decide +kernel) rfl ⟨rfl, rfl⟩ rfl rfl (hx_mono (h2 c1) (fun r m' h' => hx_pick [0] h'))

/-- law from 74 on -/
theorem hr168_74 {xs : List Int32} {n : Nat} {Q : hQ} {m : gx_M} {s0 : Int}
    (h1 : (s0 = 0) → hxn xs n yp_m168 46 [(0, .inr (.inl 86)), (2, .inl 0)] [] m Q)
    (h2 : (s0 ≠ 0) → hxn xs n yp_m168 46 [(0, .inr (.inl 86)), (2, .inl 1)] [] m Q) : hxn xs (n + 1) yp_m168 74 [(0, .inr (.inl 86))] [.inl s0] m Q := by
  refine hx_ifs .eq 81 (by decide +kernel) (fun c1 => ?_) (fun c1 => ?_)
  · have c1 : s0 = 0 := c1
    refine hx_blk (npc := 46) (L' := [(0, .inr (.inl 86)), (2, .inl 0)]) (st' := []) (m' := m) [((81, .iconst 0, 1, 0, 0, 0, 0), (0, 0, 0)), ((82, .istore_n 2, 1, 0, 0, 0, 0), (0, 0, 0)), ((83, .goto (-37), 3, 0, 0, 0, 0), (0, 0, 0))] (by decide +kernel) rfl ?_
    exact hx_pick [0, 2] (h1 c1)
  · have c1 : s0 ≠ 0 := c1
    refine hx_blk (npc := 46) (L' := [(0, .inr (.inl 86)), (2, .inl 1)]) (st' := []) (m' := m) [((77, .iconst 1, 1, 0, 0, 0, 0), (0, 0, 0)), ((78, .goto 4, 3, 0, 0, 0, 0), (0, 0, 0)), ((82, .istore_n 2, 1, 0, 0, 0, 0), (0, 0, 0)), ((83, .goto (-37), 3, 0, 0, 0, 0), (0, 0, 0))] (by decide +kernel) rfl ?_
    exact hx_pick [0, 2] (h2 c1)

/-- law from 110 on -/
theorem hr168_110 {xs : List Int32} {n : Nat} {Q : hQ} {m : gx_M} {x3 : Int} (r_x3 : 0 ≤ x3 ∧ x3 ≤ 240)
    (h1 : ((m 86 10) ≤ x3) → hxn xs n yp_m168 138 [(0, .inr (.inl 86)), (3, .inl 0)] [] m Q)
    (h2 : (x3 < (m 86 10)) → hxn xs n yp_m168 110 [(0, .inr (.inl 86)), (3, .inl (x3 + 1))] [] (gx_u m 97 (x3).toNat (m 91 (x3).toNat)) Q) : hxn xs (n + 1) yp_m168 110 [(0, .inr (.inl 86)), (3, .inl x3)] [] m Q := by
  refine hx_blks (npc := 115) (L' := [(0, .inr (.inl 86)), (3, .inl x3)]) (st' := [.inl (m 86 10), .inl x3]) (m' := m) ((110, .iload_n 3, 1, 0, 0, 0, 0), (0, 0, 0)) [((111, .aload_n 0, 1, 0, 0, 0, 0), (0, 0, 0)), ((112, .getfield 155, 3, 10, 10, 5123, 0), (0, 86, 0))] (by decide +kernel) rfl ?_
  refine hx_cmp .ge 136 (by decide +kernel) (fun c1 => ?_) (fun c1 => ?_)
  · have c1 : (m 86 10) ≤ x3 := c1
    refine hx_blk (npc := 138) (L' := [(0, .inr (.inl 86)), (3, .inl 0)]) (st' := []) (m' := m) [((136, .iconst 0, 1, 0, 0, 0, 0), (0, 0, 0)), ((137, .istore_n 3, 1, 0, 0, 0, 0), (0, 0, 0))] (by decide +kernel) rfl ?_
    exact hx_pick [0, 3] (h1 c1)
  · have c1 : x3 < (m 86 10) := by have h : ¬ ((m 86 10) ≤ x3) := c1; omega
    have e1 : gx_w (x3 + 1) = x3 + 1 := gx_w_id (by omega) (by omega)
    refine hx_blk (npc := 110) (L' := [(0, .inr (.inl 86)), (3, .inl (gx_w (x3 + 1)))]) (st' := []) (m' := (gx_u m 97 (x3).toNat (m 91 (x3).toNat))) [((118, .aload_n 0, 1, 0, 0, 0, 0), (0, 0, 0)), ((119, .getfield 41, 3, 10, 20, 5133, 0), (1, 86, 97)), ((122, .iload_n 3, 1, 0, 0, 0, 0), (0, 0, 0)), ((123, .aload_n 0, 1, 0, 0, 0, 0), (0, 0, 0)), ((124, .getfield 23, 3, 10, 14, 5127, 0), (1, 86, 91)), ((127, .iload_n 3, 1, 0, 0, 0, 0), (0, 0, 0)), ((128, .iaload, 1, 0, 0, 0, 0), (0, 91, 0)), ((129, .iastore, 1, 0, 0, 0, 0), (0, 97, 0)), ((130, .iinc 3 1, 3, 0, 0, 0, 0), (0, 0, 0)), ((133, .goto (-23), 3, 0, 0, 0, 0), (0, 0, 0))] (by decide +kernel) rfl ?_
    rw [e1]
    exact hx_pick [0, 3] (h2 c1)

/-- law from 138 on -/
theorem hr168_138 {xs : List Int32} {n : Nat} {Q : hQ} {m : gx_M} {x3 : Int} (r_x3 : 0 ≤ x3 ∧ x3 ≤ 240)
    (h1 : ((m 86 12) ≤ x3) → Q (some (.inl (m 86 12))) m)
    (h2 : (x3 < (m 86 12)) → hxn xs n yp_m168 138 [(0, .inr (.inl 86)), (3, .inl (x3 + 1))] [] (gx_u (gx_u (gx_u (gx_u m 98 (x3).toNat (m 93 (x3).toNat)) 99 (x3).toNat (m 94 (x3).toNat)) 100 (x3).toNat (m 95 (x3).toNat)) 101 (x3).toNat (m 96 (x3).toNat)) Q) : hxn xs (n + 1) yp_m168 138 [(0, .inr (.inl 86)), (3, .inl x3)] [] m Q := by
  refine hx_blks (npc := 143) (L' := [(0, .inr (.inl 86)), (3, .inl x3)]) (st' := [.inl (m 86 12), .inl x3]) (m' := m) ((138, .iload_n 3, 1, 0, 0, 0, 0), (0, 0, 0)) [((139, .aload_n 0, 1, 0, 0, 0, 0), (0, 0, 0)), ((140, .getfield 213, 3, 10, 12, 5125, 0), (0, 86, 0))] (by decide +kernel) rfl ?_
  refine hx_cmp .ge 200 (by decide +kernel) (fun c1 => ?_) (fun c1 => ?_)
  · have c1 : (m 86 12) ≤ x3 := c1
    refine hx_blk (npc := 204) (L' := [(0, .inr (.inl 86)), (3, .inl x3)]) (st' := [.inl (m 86 12)]) (m' := m) [((200, .aload_n 0, 1, 0, 0, 0, 0), (0, 0, 0)), ((201, .getfield 213, 3, 10, 12, 5125, 0), (0, 86, 0))] (by decide +kernel) rfl ?_
    exact hx_reti (by decide +kernel) (h1 c1)
  · have c1 : x3 < (m 86 12) := by have h : ¬ ((m 86 12) ≤ x3) := c1; omega
    have e1 : gx_w (x3 + 1) = x3 + 1 := gx_w_id (by omega) (by omega)
    refine hx_blk (npc := 138) (L' := [(0, .inr (.inl 86)), (3, .inl (gx_w (x3 + 1)))]) (st' := []) (m' := (gx_u (gx_u (gx_u (gx_u m 98 (x3).toNat (m 93 (x3).toNat)) 99 (x3).toNat (m 94 (x3).toNat)) 100 (x3).toNat (m 95 (x3).toNat)) 101 (x3).toNat (m 96 (x3).toNat))) [((146, .aload_n 0, 1, 0, 0, 0, 0), (0, 0, 0)), ((147, .getfield 44, 3, 10, 21, 5134, 0), (1, 86, 98)), ((150, .iload_n 3, 1, 0, 0, 0, 0), (0, 0, 0)), ((151, .aload_n 0, 1, 0, 0, 0, 0), (0, 0, 0)), ((152, .getfield 29, 3, 10, 16, 5129, 0), (1, 86, 93)), ((155, .iload_n 3, 1, 0, 0, 0, 0), (0, 0, 0)), ((156, .iaload, 1, 0, 0, 0, 0), (0, 93, 0)), ((157, .iastore, 1, 0, 0, 0, 0), (0, 98, 0)), ((158, .aload_n 0, 1, 0, 0, 0, 0), (0, 0, 0)), ((159, .getfield 47, 3, 10, 22, 5135, 0), (1, 86, 99)), ((162, .iload_n 3, 1, 0, 0, 0, 0), (0, 0, 0)), ((163, .aload_n 0, 1, 0, 0, 0, 0), (0, 0, 0)), ((164, .getfield 32, 3, 10, 17, 5130, 0), (1, 86, 94)), ((167, .iload_n 3, 1, 0, 0, 0, 0), (0, 0, 0)), ((168, .iaload, 1, 0, 0, 0, 0), (0, 94, 0)), ((169, .iastore, 1, 0, 0, 0, 0), (0, 99, 0)), ((170, .aload_n 0, 1, 0, 0, 0, 0), (0, 0, 0)), ((171, .getfield 50, 3, 10, 23, 5136, 0), (1, 86, 100)), ((174, .iload_n 3, 1, 0, 0, 0, 0), (0, 0, 0)), ((175, .aload_n 0, 1, 0, 0, 0, 0), (0, 0, 0)), ((176, .getfield 35, 3, 10, 18, 5131, 0), (1, 86, 95)), ((179, .iload_n 3, 1, 0, 0, 0, 0), (0, 0, 0)), ((180, .iaload, 1, 0, 0, 0, 0), (0, 95, 0)), ((181, .iastore, 1, 0, 0, 0, 0), (0, 100, 0)), ((182, .aload_n 0, 1, 0, 0, 0, 0), (0, 0, 0)), ((183, .getfield 53, 3, 10, 24, 5137, 0), (1, 86, 101)), ((186, .iload_n 3, 1, 0, 0, 0, 0), (0, 0, 0)), ((187, .aload_n 0, 1, 0, 0, 0, 0), (0, 0, 0)), ((188, .getfield 38, 3, 10, 19, 5132, 0), (1, 86, 96)), ((191, .iload_n 3, 1, 0, 0, 0, 0), (0, 0, 0)), ((192, .iaload, 1, 0, 0, 0, 0), (0, 96, 0)), ((193, .iastore, 1, 0, 0, 0, 0), (0, 101, 0)), ((194, .iinc 3 1, 3, 0, 0, 0, 0), (0, 0, 0)), ((197, .goto (-59), 3, 0, 0, 0, 0), (0, 0, 0))] (by decide +kernel) rfl ?_
    rw [e1]
    exact hx_pick [0, 3] (h2 c1)
end
section
/-! clauses as the reference reads them; its law as a whole -/
def rS0 (T : Nat → Int) (L p : Nat) (K : hCode) (m : gx_M) : Prop := rTx T L p m ∧ rKd K m ∧ p ≤ L ∧ L ≤ 240 ∧ K.length ≤ 240
def rCl (CL : List hCl) (m : gx_M) : Prop := m 86 12 = (CL.length : Int) ∧ ∀ i c, CL[i]? = some c → m 93 i = c.1 ∧ m 94 i = (c.2.1 : Int) ∧ m 95 i = (c.2.2.1 : Int) ∧ m 96 i = (c.2.2.2 : Int)
def rFz (m0 m : gx_M) : Prop := (∀ c, c ≠ 86 → c ≠ 91 → c ≠ 92 → c ≠ 93 → c ≠ 94 → c ≠ 95 → c ≠ 96 → m c = m0 c) ∧ ∀ k, k ≠ 5 → k ≠ 7 → k ≠ 8 → k ≠ 9 → k ≠ 10 → k ≠ 11 → k ≠ 12 → m 86 k = m0 86 k
theorem rFz_t {m m1 m2 : gx_M} (h : rFz m m1) (h' : rFz m1 m2) : rFz m m2 := ⟨fun c a b d e f g i => (h'.1 c a b d e f g i).trans (h.1 c a b d e f g i), fun k a b c d e f g => (h'.2 k a b c d e f g).trans (h.2 k a b c d e f g)⟩
theorem rS0_of {T : Nat → Int} {L p o : Nat} {m0 m : gx_M} {K W : hCode} (h : rS T L m0 p K W o m) : rS0 T L p K m := ⟨h.1, h.2.1, h.2.2.2.2.2.1, h.2.2.2.2.2.2.1, h.2.2.2.2.2.2.2.1⟩
section RK
variable {xs : List Int32} {n : Nat} {Q : hQ} {T : Nat → Int} {L p : Nat} {m0 m : gx_M} {K : hCode} {CL : List hCl}
theorem r0_he (hS : rS0 T L p K m) : aHere m = tx T L p := by
  obtain ⟨⟨t1, t2, t3⟩, -, b1, -⟩ := hS
  unfold aHere
  rw [t1, t2]
  by_cases c : p < L
  · rw [if_neg (by omega), Int.toNat_natCast, t3 p c, tx_eq c]
  · rw [if_pos (by omega), tx_no (by omega)]
theorem r0_172 (hS : rS0 T L p K m) {a : Int} (ha : 0 ≤ a ∧ a ≤ 9) (h : ∀ m', m' 86 7 = lfl a p → rFz m m' → Q (some (.inl 0)) m') : hxn xs n yp_m172 0 [(0, .inr (.inl 86)), (1, .inl a), (2, .inl (p : Int))] [] m Q := by
  obtain ⟨-, -, b1, b2, -⟩ := hS
  refine hx_dn (hs172 (h _ ?_ ⟨fun c c1 _ _ _ _ _ _ => ?_, fun k _ k2 _ _ _ _ _ => ?_⟩))
  · rw [gx_u_self, gx_w_id (x := (-1000) * a) (by omega) (by omega), gx_w_id (by omega) (by omega)]
    rfl
  · funext k
    rw [gx_u_ne (by omega)]
  · rw [gx_u_ne (by omega)]
/-- behind a clause's letter -/
theorem r_kd {j : Nat} {M : gx_M} (hS : rS0 T L p K m) (hlt : p < L) (hM : M = gx_u (gx_u (gx_u (gx_u (gx_u m 93 j (tx T L p)) 86 5 (gx_w ((m 86 5) + 1))) 94 j (m 86 10)) 86 9 0) 86 11 0) : rS T L M (p + 1) K [] 0 M ∧ M 93 j = tx T L p ∧ M 94 j = (K.length : Int) ∧ (∀ c k, c ≠ 86 → ¬ (k = j ∧ (c = 93 ∨ c = 94)) → M c k = m c k) ∧ ∀ k, k ≠ 5 → k ≠ 9 → k ≠ 11 → M 86 k = m 86 k := by
  obtain ⟨⟨t1, t2, t3⟩, ⟨k1, k2⟩, b1, b2, b3⟩ := hS
  refine ⟨⟨⟨?_, ?_, fun k hk => ?_⟩, ⟨?_, fun i c hc => ?_⟩, ⟨?_, fun i q hq => by cases hq⟩, ?_, ⟨fun _ _ _ _ => rfl, fun _ _ _ _ _ _ _ => rfl⟩, hlt, b2, b3, by decide, by decide⟩, ?_, ?_, fun c k c1 c2 => ?_, fun k k1 k2 k3 => ?_⟩
  · rw [hM, gx_u_ne (by omega), gx_u_ne (by omega), gx_u_ne (by omega), gx_u_self, t1, gx_w_id (by omega) (by omega)]
    omega
  · rw [hM, gx_u_ne (by omega), gx_u_ne (by omega), gx_u_ne (by omega), gx_u_ne (by omega), gx_u_ne (by omega)]
    exact t2
  · rw [hM, gx_u_ne (by omega), gx_u_ne (by omega), gx_u_ne (by omega), gx_u_ne (by omega), gx_u_ne (by omega)]
    exact t3 k hk
  · rw [hM, gx_u_ne (by omega), gx_u_ne (by omega), gx_u_ne (by omega), gx_u_ne (by omega), gx_u_ne (by omega)]
    exact k1
  · rw [hM, gx_u_ne (by omega), gx_u_ne (by omega), gx_u_ne (by omega), gx_u_ne (by omega), gx_u_ne (by omega)]
    exact k2 i c hc
  · rw [hM, gx_u_self]
    rfl
  · rw [hM, gx_u_ne (by omega), gx_u_self]
    rfl
  · rw [hM, gx_u_ne (by omega), gx_u_ne (by omega), gx_u_ne (by omega), gx_u_ne (by omega), gx_u_self]
  · rw [hM, gx_u_ne (by omega), gx_u_ne (by omega), gx_u_self]
    exact k1
  · rw [hM, gx_u_ne (by omega), gx_u_ne (by omega), gx_u_ne (by omega), gx_u_ne (by omega), gx_u_ne (by omega)]
  · rw [hM, gx_u_ne (by omega), gx_u_ne (by omega), gx_u_ne (by omega), gx_u_ne (by omega), gx_u_ne (by omega)]
/-- its half is noted -/
theorem r_half {j : Nat} {p1 : Nat} {K1 : hCode} {m2 M : gx_M} (hS : rS T L m p1 K1 [] 0 m2) (hM : M = gx_u m2 95 j (m2 86 10)) : rS T L M p1 K1 [] 0 M ∧ M 95 j = (K1.length : Int) ∧ (∀ c k, c ≠ 86 → c ≠ 91 → c ≠ 92 → ¬ (k = j ∧ c = 95) → M c k = m c k) ∧ ∀ k, k ≠ 5 → k ≠ 7 → k ≠ 8 → k ≠ 9 → k ≠ 10 → k ≠ 11 → M 86 k = m 86 k := by
  obtain ⟨⟨t1, t2, t3⟩, ⟨k1, k2⟩, ⟨w1, w2⟩, o1, ⟨f1, f2⟩, b⟩ := hS
  refine ⟨⟨⟨?_, ?_, fun k hk => ?_⟩, ⟨?_, fun i c hc => ?_⟩, ⟨?_, fun i q hq => by cases hq⟩, ?_, ⟨fun _ _ _ _ => rfl, fun _ _ _ _ _ _ _ => rfl⟩, b⟩, ?_, fun c k c1 c2 c3 c4 => ?_, fun k a1 a2 a3 a4 a5 a6 => ?_⟩
  · rw [hM, gx_u_ne (by omega)]
    exact t1
  · rw [hM, gx_u_ne (by omega)]
    exact t2
  · rw [hM, gx_u_ne (by omega)]
    exact t3 k hk
  · rw [hM, gx_u_ne (by omega)]
    exact k1
  · rw [hM, gx_u_ne (by omega)]
    exact k2 i c hc
  · rw [hM, gx_u_ne (by omega)]
    exact w1
  · rw [hM, gx_u_ne (by omega)]
    exact o1
  · rw [hM, gx_u_self]
    exact k1
  · rw [hM, gx_u_ne (by omega)]
    exact congrFun (f1 c c1 c2 c3) k
  · rw [hM, gx_u_ne (by omega)]
    exact f2 k a1 a2 a3 a4 a5 a6
/-- a clause's end -/
theorem r_done {j p' : Nat} {K1 K' : hCode} {M m4 : gx_M} (hC : rCl CL m) (hj : j = CL.length) (hj16 : j < 16) (e93 : M 93 j = tx T L p) (e94 : M 94 j = (K.length : Int)) (e95 : M 95 j = (K1.length : Int)) (fM : ∀ c k, c ≠ 86 → c ≠ 91 → c ≠ 92 → ¬ (k = j ∧ (c = 93 ∨ c = 94 ∨ c = 95)) → M c k = m c k) (fM2 : ∀ k, k ≠ 5 → k ≠ 7 → k ≠ 8 → k ≠ 9 → k ≠ 10 → k ≠ 11 → M 86 k = m 86 k) (hS : rS T L M p' K' [] 0 m4) (h : ∀ m', rS0 T L p' K' m' → rCl (CL ++ [(tx T L p, K.length, K1.length, K'.length)]) m' → rFz m m' → Q (some (.inl 1)) m') : hxn xs n yp_m169 116 [(0, .inr (.inl 86))] [.inl 1] m4 Q := by
  obtain ⟨⟨t1, t2, t3⟩, ⟨k1, k2⟩, ⟨w1, w2⟩, o1, ⟨f1, f2⟩, b1, b2, b3, b4, b5⟩ := hS
  have e12 : m4 86 12 = (j : Int) := by
    rw [f2 12 (by decide) (by decide) (by decide) (by decide) (by decide) (by decide), fM2 12 (by decide) (by decide) (by decide) (by decide) (by decide) (by decide), hC.1, hj]
  refine hx_dn (hr169_116 (fun _ => ?_) (fun c => absurd c (by decide)))
  rw [e12, Int.toNat_natCast, k1, gx_w_id (by omega) (by omega)]
  refine h _ ⟨⟨?_, ?_, fun k hk => ?_⟩, ⟨?_, fun i c hc => ?_⟩, b1, b2, b3⟩ ⟨?_, fun i c hc => ?_⟩ ⟨fun c c1 c2 c3 c4 c5 c6 c7 => ?_, fun k a1 a2 a3 a4 a5 a6 a7 => ?_⟩
  · rw [gx_u_ne (by omega), gx_u_ne (by omega)]
    exact t1
  · rw [gx_u_ne (by omega), gx_u_ne (by omega)]
    exact t2
  · rw [gx_u_ne (by omega), gx_u_ne (by omega)]
    exact t3 k hk
  · rw [gx_u_ne (by omega), gx_u_ne (by omega)]
    exact k1
  · rw [gx_u_ne (by omega), gx_u_ne (by omega)]
    exact k2 i c hc
  · rw [gx_u_self, List.length_append, List.length_singleton]
    omega
  · rcases lg_app hc with hc | ⟨rfl, rfl⟩
    · have hlt := lg_lt hc
      obtain ⟨q1, q2, q3, q4⟩ := hC.2 i c hc
      have st : ∀ d, d = 93 ∨ d = 94 ∨ d = 95 ∨ d = 96 → m4 d i = m d i := fun d hd => by
        rw [congrFun (f1 d (by omega) (by omega) (by omega)) i, fM d i (by omega) (by omega) (by omega) (by omega)]
      refine ⟨?_, ?_, ?_, ?_⟩
      · rw [gx_u_ne (by omega), gx_u_ne (by omega), st 93 (by decide)]
        exact q1
      · rw [gx_u_ne (by omega), gx_u_ne (by omega), st 94 (by decide)]
        exact q2
      · rw [gx_u_ne (by omega), gx_u_ne (by omega), st 95 (by decide)]
        exact q3
      · rw [gx_u_ne (by omega), gx_u_ne (by omega), st 96 (by decide)]
        exact q4
    · subst hj
      refine ⟨?_, ?_, ?_, ?_⟩
      · rw [gx_u_ne (by omega), gx_u_ne (by omega), congrFun (f1 93 (by decide) (by decide) (by decide)) _]
        exact e93
      · rw [gx_u_ne (by omega), gx_u_ne (by omega), congrFun (f1 94 (by decide) (by decide) (by decide)) _]
        exact e94
      · rw [gx_u_ne (by omega), gx_u_ne (by omega), congrFun (f1 95 (by decide) (by decide) (by decide)) _]
        exact e95
      · rw [gx_u_ne (by omega), gx_u_self]
  · funext k
    rw [gx_u_ne (by omega), gx_u_ne (by omega), congrFun (f1 c c1 c2 c3) k, fM c k c1 c2 c3 (by omega)]
  · rw [gx_u_ne (by omega), gx_u_ne (by omega), f2 k a1 a2 a3 a4 a5 a6, fM2 k a1 a2 a3 a4 a5 a6]
theorem r169T {j p' : Nat} {K' : hCode} {c : hCl} (hS : rS0 T L p K m) (hC : rCl CL m) (hj : j = CL.length) (hj16 : j < 16) (hk : K.length ≤ p) (hc : lCl T L p K p' K' c) (h : ∀ m', rS0 T L p' K' m' → rCl (CL ++ [c]) m' → rFz m m' → Q (some (.inl 1)) m') : hxn xs n yp_m169 0 [(0, .inr (.inl 86))] [] m Q := by
  obtain ⟨hkd, p1, K1, p2, hh, h40, hd, h41, rfl, rfl⟩ := hc
  have hhe := r0_he hS
  have hlt : p < L := tx_lt (fun e => by rw [e] at hkd; unfold isKd at hkd; omega)
  have e12 : m 86 12 = (j : Int) := by rw [hC.1, hj]
  obtain ⟨M1, hM1⟩ : ∃ M, M = gx_u (gx_u (gx_u (gx_u (gx_u m 93 j (tx T L p)) 86 5 (gx_w ((m 86 5) + 1))) 94 j (m 86 10)) 86 9 0) 86 11 0 := ⟨_, rfl⟩
  obtain ⟨s1, e93, e94, f1, f2⟩ := r_kd hS hlt hM1
  refine hx_dn (hr169_0 (fun _ _ c => ?_) (fun _ _ c => ?_) (fun _ c => absurd c (by omega)) (fun c => absurd (by rw [hhe]; exact hkd) c))
  · rw [hhe] at c ⊢
    rcases hh with ⟨-, rfl, rfl⟩ | ⟨c', -⟩
    · rw [e12, Int.toNat_natCast, ← hM1]
      have e10 : M1 86 10 = m 86 10 := f2 10 (by decide) (by decide) (by decide)
      obtain ⟨M2, hM2⟩ : ∃ M, M = gx_u M1 95 j (M1 86 10) := ⟨_, rfl⟩
      obtain ⟨s2, e95, g1, g2⟩ := r_half s1 hM2
      rw [← e10, ← hM2]
      refine r_conT hd h40 h41 s2 (by omega) (fun m4 s4 => ?_)
      show hxn xs n yp_m169 116 _ [.inl 1] m4 Q
      refine r_done hC hj hj16 (by rw [g1 93 j (by decide) (by decide) (by decide) (by omega)]; exact e93) (by rw [g1 94 j (by decide) (by decide) (by decide) (by omega)]; exact e94) e95 (fun c k a1 a2 a3 a4 => ?_) (fun k a1 a2 a3 a4 a5 a6 => ?_) s4 h
      · rw [g1 c k a1 a2 a3 (by omega), f1 c k a1 (by omega)]
      · rw [g2 k a1 a2 a3 a4 a5 a6, f2 k a1 a4 a6]
    · exact absurd c c'
  · rw [hhe] at c ⊢
    rcases hh with ⟨c', -⟩ | ⟨-, hd1, hsm⟩
    · exact absurd c' c
    · have hg := lD_grow hd1
      rw [e12, Int.toNat_natCast, ← hM1]
      refine r_sumT hd1 hsm s1 (by omega) (by decide) (by decide) (fun m2 s2 => ?_)
      show hxn xs n yp_m169 94 _ [.inl 1] m2 Q
      refine hx_dn (hr169_94 (fun _ => ?_) (fun c => absurd c (by decide)))
      have e12b : m2 86 12 = (j : Int) := by
        rw [(rs_fr s2).2 12 (by decide) (by decide) (by decide) (by decide) (by decide) (by decide), f2 12 (by decide) (by decide) (by decide)]
        exact e12
      obtain ⟨M2, hM2⟩ : ∃ M, M = gx_u m2 95 j (m2 86 10) := ⟨_, rfl⟩
      obtain ⟨s3, e95, g1, g2⟩ := r_half s2 hM2
      rw [e12b, Int.toNat_natCast, ← hM2]
      refine r_conT hd h40 h41 s3 (by omega) (fun m4 s4 => ?_)
      show hxn xs n yp_m169 116 _ [.inl 1] m4 Q
      refine r_done hC hj hj16 (by rw [g1 93 j (by decide) (by decide) (by decide) (by omega)]; exact e93) (by rw [g1 94 j (by decide) (by decide) (by decide) (by omega)]; exact e94) e95 (fun c k a1 a2 a3 a4 => ?_) (fun k a1 a2 a3 a4 a5 a6 => ?_) s4 h
      · rw [g1 c k a1 a2 a3 (by omega), f1 c k a1 (by omega)]
      · rw [g2 k a1 a2 a3 a4 a5 a6, f2 k a1 a4 a6]
theorem r169F {j : Nat} {f : Int} (hS : rS0 T L p K m) (hC : rCl CL m) (hj : j = CL.length) (hj16 : j ≤ 16) (hk : K.length ≤ p) (hc : lCF T L j p K f) (h : ∀ m', m' 86 7 = f → rFz m m' → Q (some (.inl 0)) m') : hxn xs n yp_m169 0 [(0, .inr (.inl 86))] [] m Q := by
  have hhe := r0_he hS
  have hpl : m 86 5 = (p : Int) := hS.1.1
  have e12 : m 86 12 = (j : Int) := by rw [hC.1, hj]
  obtain ⟨M1, hM1⟩ : ∃ M, M = gx_u (gx_u (gx_u (gx_u (gx_u m 93 j (tx T L p)) 86 5 (gx_w ((m 86 5) + 1))) 94 j (m 86 10)) 86 9 0) 86 11 0 := ⟨_, rfl⟩
  have fz1 : ∀ {M m4 : gx_M}, p < L → (∀ c k, c ≠ 86 → c ≠ 91 → c ≠ 92 → c ≠ 95 → M c k = M1 c k) → (∀ k, k ≠ 5 → k ≠ 7 → k ≠ 8 → k ≠ 9 → k ≠ 10 → k ≠ 11 → M 86 k = M1 86 k) → rF M f m4 → rFz m m4 := fun {M m4} hlt a b hF => by
    obtain ⟨-, -, -, f1, f2⟩ := r_kd hS hlt hM1
    refine ⟨fun c c1 c2 c3 c4 c5 c6 c7 => ?_, fun k a1 a2 a3 a4 a5 a6 a7 => ?_⟩
    · funext k
      rw [congrFun (hF.2.1 c c1 c2 c3) k, a c k c1 c2 c3 c6, f1 c k c1 (by omega)]
    · rw [hF.2.2 k a1 a2 a3 a4 a5 a6, b k a1 a2 a3 a4 a5 a6, f2 k a1 a4 a6]
  have hltk : isKd (tx T L p) → p < L := fun hkd => tx_lt (fun e => by rw [e] at hkd; unfold isKd at hkd; omega)
  rcases hc with ⟨nk, rfl⟩ | ⟨hkd, h16, rfl⟩ | ⟨hkd, hlt, h110, hE⟩ | ⟨hkd, hlt, p1, K1, hh, hb⟩
  · refine hx_dn (hr169_0 (fun c => absurd (by rw [← hhe]; exact c) nk) (fun c => absurd (by rw [← hhe]; exact c) nk) (fun c => absurd (by rw [← hhe]; exact c) nk) (fun _ => ?_))
    rw [hpl]
    exact r0_172 hS (by decide) (fun m1 a b => hx_dn (hr169_21 (h m1 a b)))
  · refine hx_dn (hr169_0 (fun _ c => absurd (by omega) c) (fun _ c => absurd (by omega) c) (fun _ _ => ?_) (fun c => absurd (by rw [hhe]; exact hkd) c))
    rw [hpl]
    exact r0_172 hS (by decide) (fun m1 a b => hx_dn (hr169_40 (h m1 a b)))
  · obtain ⟨s1, -, -, f1, f2⟩ := r_kd hS (hltk hkd) hM1
    refine hx_dn (hr169_0 (fun _ _ c => absurd (by rw [← hhe]; exact c) h110) (fun _ _ c => ?_) (fun _ c => absurd c (by omega)) (fun c => absurd (by rw [hhe]; exact hkd) c))
    rw [hhe, e12, Int.toNat_natCast, ← hM1]
    refine r_sumF hE s1 (by omega) (by decide) (by decide) (fun m2 hF => ?_)
    show hxn xs n yp_m169 94 _ [.inl 0] m2 Q
    exact hx_dn (hr169_94 (fun c => absurd rfl c) (fun _ => h m2 hF.1 (fz1 (hltk hkd) (fun _ _ _ _ _ _ => rfl) (fun _ _ _ _ _ _ _ => rfl) hF)))
  · obtain ⟨s1, -, -, f1, f2⟩ := r_kd hS (hltk hkd) hM1
    refine hx_dn (hr169_0 (fun _ _ c => ?_) (fun _ _ c => ?_) (fun _ c => absurd c (by omega)) (fun c => absurd (by rw [hhe]; exact hkd) c))
    · rw [hhe] at c ⊢
      rcases hh with ⟨-, rfl, rfl⟩ | ⟨c', -⟩
      · rw [e12, Int.toNat_natCast, ← hM1]
        have e10 : M1 86 10 = m 86 10 := f2 10 (by decide) (by decide) (by decide)
        obtain ⟨M2, hM2⟩ : ∃ M, M = gx_u M1 95 j (M1 86 10) := ⟨_, rfl⟩
        obtain ⟨s2, e95, g1, g2⟩ := r_half s1 hM2
        rw [← e10, ← hM2]
        refine r_conF hb s2 (by omega) (fun m4 hF => ?_)
        show hxn xs n yp_m169 116 _ [.inl 0] m4 Q
        exact hx_dn (hr169_116 (fun c => absurd rfl c) (fun _ => h m4 hF.1 (fz1 (hltk hkd) (fun c k a1 a2 a3 a4 => g1 c k a1 a2 a3 (by omega)) g2 hF)))
      · exact absurd c c'
    · rw [hhe] at c ⊢
      rcases hh with ⟨c', -⟩ | ⟨-, hd1, hsm⟩
      · exact absurd c' c
      · have hg := lD_grow hd1
        rw [e12, Int.toNat_natCast, ← hM1]
        refine r_sumT hd1 hsm s1 (by omega) (by decide) (by decide) (fun m2 s2 => ?_)
        show hxn xs n yp_m169 94 _ [.inl 1] m2 Q
        refine hx_dn (hr169_94 (fun _ => ?_) (fun c => absurd c (by decide)))
        have e12b : m2 86 12 = (j : Int) := by
          rw [(rs_fr s2).2 12 (by decide) (by decide) (by decide) (by decide) (by decide) (by decide), f2 12 (by decide) (by decide) (by decide)]
          exact e12
        obtain ⟨M2, hM2⟩ : ∃ M, M = gx_u m2 95 j (m2 86 10) := ⟨_, rfl⟩
        obtain ⟨s3, e95, g1, g2⟩ := r_half s2 hM2
        rw [e12b, Int.toNat_natCast, ← hM2]
        refine r_conF hb s3 (by omega) (fun m4 hF => ?_)
        show hxn xs n yp_m169 116 _ [.inl 0] m4 Q
        exact hx_dn (hr169_116 (fun c => absurd rfl c) (fun _ => h m4 hF.1 (fz1 (hltk hkd) (fun c k a1 a2 a3 a4 => g1 c k a1 a2 a3 (by omega)) g2 hF)))
/-- one clause behind another: from the first one on -/
theorem r_ls (hS : rS0 T L 0 [] m0) (hC : rCl [] m0) : ∀ {j p : Nat} {K : hCode} {CL : List hCl}, lLs T L (j + 1) p K CL → (∀ m', rS0 T L p K m' → rCl CL m' → rFz m0 m' → hxn xs n yp_m168 46 [(0, .inr (.inl 86)), (2, .inl 1)] [] m' Q) → hxn xs n yp_m169 0 [(0, .inr (.inl 86))] [] m0 (fun r m' => hxn xs n yp_m168 45 [(0, .inr (.inl 86))] (hrs r ++ []) m' Q)
  | 0, p, K, CL, hl, h => by
    obtain ⟨p0, K0, CL0, ps, c, ⟨rfl, rfl, rfl⟩, hs, -, hc, rfl⟩ := hl
    have hps : ps = 0 := by
      rcases hs with ⟨-, e⟩ | ⟨e, -⟩
      · exact e
      · exact absurd rfl e
    subst hps
    refine r169T hS hC rfl (by decide) (Nat.le_refl _) hc (fun m' s' c' f' => ?_)
    show hxn xs n yp_m168 45 _ [.inl 1] m' Q
    exact hx_dn (hr168_45 (h m' s' c' f'))
  | j + 1, p, K, CL, hl, h => by
    obtain ⟨p0, K0, CL0, ps, c, hl0, hs, hj16, hc, rfl⟩ := hl
    have h59 : tx T L p0 = 59 ∧ ps = p0 + 1 := by
      rcases hs with ⟨e, -⟩ | ⟨-, a, b⟩
      · exact absurd e (by omega)
      · exact ⟨a, b⟩
    obtain ⟨h59, rfl⟩ := h59
    have hlt : p0 < L := tx_lt (by rw [h59]; decide)
    refine r_ls hS hC hl0 (fun m1 s1 c1 f1 => ?_)
    have he1 := r0_he s1
    obtain ⟨⟨t1, t2, t3⟩, ⟨k1, k2⟩, b1, b2, b3⟩ := s1
    refine hx_dn (hr168_46 (fun c => absurd c (by decide)) (fun _ c => absurd c (by omega)) (fun _ c => absurd c (by omega)) (fun _ _ => ?_))
    refine hx_dn (hr189_0 (fun _ => ?_) (fun c => absurd (by rw [he1]; exact h59) c))
    rw [t1, gx_w_id (by omega) (by omega)]
    show hxn xs n yp_m168 67 _ [.inl 1] _ Q
    refine hx_dn (hr168_67 (fun c => absurd c (by decide)) (fun _ => ?_))
    have s2 : rS0 T L (p0 + 1) K0 (gx_u m1 86 5 ((p0 : Int) + 1)) := by
      refine ⟨⟨?_, ?_, fun k hk => ?_⟩, ⟨?_, fun i c hc => ?_⟩, hlt, b2, b3⟩
      · rw [gx_u_self]
        omega
      · rw [gx_u_ne (by omega)]
        exact t2
      · rw [gx_u_ne (by omega)]
        exact t3 k hk
      · rw [gx_u_ne (by omega)]
        exact k1
      · rw [gx_u_ne (by omega)]
        exact k2 i c hc
    have c2 : rCl CL0 (gx_u m1 86 5 ((p0 : Int) + 1)) := by
      refine ⟨?_, fun i c hc => ?_⟩
      · rw [gx_u_ne (by omega)]
        exact c1.1
      · rw [gx_u_ne (by omega), gx_u_ne (by omega), gx_u_ne (by omega), gx_u_ne (by omega)]
        exact c1.2 i c hc
    have f2 : rFz m1 (gx_u m1 86 5 ((p0 : Int) + 1)) := by
      refine ⟨fun c c1 _ _ _ _ _ _ => ?_, fun k k1 _ _ _ _ _ _ => ?_⟩
      · funext k
        rw [gx_u_ne (by omega)]
      · rw [gx_u_ne (by omega)]
    have hkl := lLs_kl hl0
    refine r169T s2 c2 (lLs_len hl0).symm hj16 (by omega) hc (fun m3 s3 c3 f3 => ?_)
    show hxn xs n yp_m168 74 _ [.inl 1] m3 Q
    exact hx_dn (hr168_74 (fun c => absurd c (by decide)) (fun _ => h m3 s3 c3 (rFz_t f1 (rFz_t f2 f3))))
/-- what the reference's law answers, and what stands then -/
def rLw (K : hCode) (CL : List hCl) (m : gx_M) : Prop := m 86 13 = (CL.length : Int) ∧ (∀ i c, K[i]? = some c → m 97 i = lenc c) ∧ ∀ i c, CL[i]? = some c → m 98 i = c.1 ∧ m 99 i = (c.2.1 : Int) ∧ m 100 i = (c.2.2.1 : Int) ∧ m 101 i = (c.2.2.2 : Int)
def rFl (m m' : gx_M) : Prop := (∀ c k, c ≠ 86 → c ≠ 91 → c ≠ 92 → c ≠ 93 → c ≠ 94 → c ≠ 95 → c ≠ 96 → m' c k = m c k) ∧ ∀ k, k ≠ 4 → k ≠ 5 → k ≠ 6 → k ≠ 7 → k ≠ 8 → k ≠ 9 → k ≠ 10 → k ≠ 11 → k ≠ 12 → m' 86 k = m 86 k
def rGl (m m' : gx_M) : Prop := (∀ c k, c ≠ 86 → c ≠ 91 → c ≠ 92 → c ≠ 93 → c ≠ 94 → c ≠ 95 → c ≠ 96 → c ≠ 97 → c ≠ 98 → c ≠ 99 → c ≠ 100 → c ≠ 101 → m' c k = m c k) ∧ ∀ k, k ≠ 4 → k ≠ 5 → k ≠ 6 → k ≠ 7 → k ≠ 8 → k ≠ 9 → k ≠ 10 → k ≠ 11 → k ≠ 12 → k ≠ 13 → m' 86 k = m 86 k
theorem rl138 {M : gx_M} (hcl : CL.length ≤ 16) (h12 : M 86 12 = (CL.length : Int)) (h : ∀ m', (∀ c k, c ≠ 98 → c ≠ 99 → c ≠ 100 → c ≠ 101 → m' c k = M c k) → (∀ i, i < CL.length → m' 98 i = M 93 i ∧ m' 99 i = M 94 i ∧ m' 100 i = M 95 i ∧ m' 101 i = M 96 i) → Q (some (.inl (CL.length : Int))) m') : ∀ e k : Nat, k + e = CL.length → ∀ m', (∀ c k, c ≠ 98 → c ≠ 99 → c ≠ 100 → c ≠ 101 → m' c k = M c k) → (∀ i, i < k → m' 98 i = M 93 i ∧ m' 99 i = M 94 i ∧ m' 100 i = M 95 i ∧ m' 101 i = M 96 i) → hxn xs n yp_m168 138 [(0, .inr (.inl 86)), (3, .inl (k : Int))] [] m' Q := by
  intro e
  induction e with
  | zero =>
    intro k hk m' f g
    have ek : k = CL.length := by omega
    have e12 : m' 86 12 = (CL.length : Int) := by rw [f 86 12 (by decide) (by decide) (by decide) (by decide)]; exact h12
    refine hx_dn (hr168_138 (by omega) (fun _ => ?_) (fun c => absurd c (by omega)))
    rw [e12]
    exact h m' f (fun i hi => g i (by omega))
  | succ e ih =>
    intro k hk m' f g
    have e12 : m' 86 12 = (CL.length : Int) := by rw [f 86 12 (by decide) (by decide) (by decide) (by decide)]; exact h12
    refine hx_dn (hr168_138 (by omega) (fun c => absurd c (by omega)) (fun _ => ?_))
    rw [Int.toNat_natCast]
    refine ih (k + 1) (by omega) _ (fun c k' a1 a2 a3 a4 => ?_) (fun i hi => ?_)
    · rw [gx_u_ne (by omega), gx_u_ne (by omega), gx_u_ne (by omega), gx_u_ne (by omega)]
      exact f c k' a1 a2 a3 a4
    · by_cases e : i = k
      · subst e
        refine ⟨?_, ?_, ?_, ?_⟩
        · rw [gx_u_ne (by omega), gx_u_ne (by omega), gx_u_ne (by omega), gx_u_self]
          exact f 93 i (by decide) (by decide) (by decide) (by decide)
        · rw [gx_u_ne (by omega), gx_u_ne (by omega), gx_u_self]
          exact f 94 i (by decide) (by decide) (by decide) (by decide)
        · rw [gx_u_ne (by omega), gx_u_self]
          exact f 95 i (by decide) (by decide) (by decide) (by decide)
        · rw [gx_u_self]
          exact f 96 i (by decide) (by decide) (by decide) (by decide)
      · rw [gx_u_ne (by omega), gx_u_ne (by omega), gx_u_ne (by omega), gx_u_ne (by omega), gx_u_ne (by omega), gx_u_ne (by omega), gx_u_ne (by omega), gx_u_ne (by omega), gx_u_ne (by omega), gx_u_ne (by omega), gx_u_ne (by omega), gx_u_ne (by omega), gx_u_ne (by omega), gx_u_ne (by omega), gx_u_ne (by omega), gx_u_ne (by omega)]
        exact g i (by omega)
theorem rl110 {M : gx_M} (hkl : K.length ≤ 240) (h10 : M 86 10 = (K.length : Int)) (h : ∀ m', (∀ c k, c ≠ 97 → m' c k = M c k) → (∀ i, i < K.length → m' 97 i = M 91 i) → hxn xs n yp_m168 138 [(0, .inr (.inl 86)), (3, .inl 0)] [] m' Q) : ∀ e k : Nat, k + e = K.length → ∀ m', (∀ c k, c ≠ 97 → m' c k = M c k) → (∀ i, i < k → m' 97 i = M 91 i) → hxn xs n yp_m168 110 [(0, .inr (.inl 86)), (3, .inl (k : Int))] [] m' Q := by
  intro e
  induction e with
  | zero =>
    intro k hk m' f g
    have e10 : m' 86 10 = (K.length : Int) := by rw [f 86 10 (by decide)]; exact h10
    refine hx_dn (hr168_110 (by omega) (fun _ => ?_) (fun c => absurd c (by omega)))
    exact h m' f (fun i hi => g i (by omega))
  | succ e ih =>
    intro k hk m' f g
    have e10 : m' 86 10 = (K.length : Int) := by rw [f 86 10 (by decide)]; exact h10
    refine hx_dn (hr168_110 (by omega) (fun c => absurd c (by omega)) (fun _ => ?_))
    rw [Int.toNat_natCast]
    refine ih (k + 1) (by omega) _ (fun c k' a1 => ?_) (fun i hi => ?_)
    · rw [gx_u_ne (by omega)]
      exact f c k' a1
    · by_cases e : i = k
      · subst e
        rw [gx_u_self]
        exact f 91 i (by decide)
      · rw [gx_u_ne (by omega)]
        exact g i (by omega)
/-- the text's beginning -/
theorem r_st0 {N : Nat} {M : gx_M} (hT : ∀ k, k < N → gx_and (m 90 k) 255 = T k) (hN : N ≤ 240) (hM : M = gx_u (gx_u (gx_u (gx_u m 86 5 0) 86 6 (N : Int)) 86 10 0) 86 12 0) : rS0 T N 0 [] M ∧ rCl [] M ∧ (∀ c k, c ≠ 86 → M c k = m c k) ∧ ∀ k, k ≠ 5 → k ≠ 6 → k ≠ 10 → k ≠ 12 → M 86 k = m 86 k := by
  refine ⟨⟨⟨?_, ?_, fun k hk => ?_⟩, ⟨?_, fun i c hc => by cases hc⟩, Nat.zero_le _, hN, by decide⟩, ⟨?_, fun i c hc => by cases hc⟩, fun c k c1 => ?_, fun k a1 a2 a3 a4 => ?_⟩
  · rw [hM, gx_u_ne (by omega), gx_u_ne (by omega), gx_u_ne (by omega), gx_u_self]
    rfl
  · rw [hM, gx_u_ne (by omega), gx_u_ne (by omega), gx_u_self]
  · rw [hM, gx_u_ne (by omega), gx_u_ne (by omega), gx_u_ne (by omega), gx_u_ne (by omega)]
    exact hT k hk
  · rw [hM, gx_u_ne (by omega), gx_u_self]
    rfl
  · rw [hM, gx_u_self]
    rfl
  · rw [hM, gx_u_ne (by omega), gx_u_ne (by omega), gx_u_ne (by omega), gx_u_ne (by omega)]
  · rw [hM, gx_u_ne (by omega), gx_u_ne (by omega), gx_u_ne (by omega), gx_u_ne (by omega)]
theorem r168T {N : Nat} (hN : 1 ≤ N ∧ N ≤ 240) (ht : (N : Int) ≤ m 86 4) (hT : ∀ k, k < N → gx_and (m 90 k) 255 = T k) (ok : lOk T N K CL) (h : ∀ m', rLw K CL m' → m' 86 4 = 0 → rGl m m' → Q (some (.inl (CL.length : Int))) m') : hxn xs n yp_m168 0 [(0, .inr (.inl 86)), (1, .inl (N : Int))] [] m Q := by
  obtain ⟨j, hj⟩ := ok
  have hcl := lLs_len hj
  have h16 := lLs_16 hj
  obtain ⟨M0, hM0⟩ : ∃ M, M = gx_u (gx_u (gx_u (gx_u m 86 5 0) 86 6 (N : Int)) 86 10 0) 86 12 0 := ⟨_, rfl⟩
  obtain ⟨s0, c0, f0, g0⟩ := r_st0 hT hN.2 hM0
  refine hx_dn (hr168_0 (fun _ _ => ?_) (fun _ c => absurd c (by omega)) (fun c => absurd (by omega) c))
  rw [← hM0]
  refine r_ls s0 c0 hj (fun m1 s1 c1 f1 => ?_)
  obtain ⟨⟨t1, t2, t3⟩, ⟨k1, k2⟩, b1, b2, b3⟩ := s1
  refine hx_dn (hr168_46 (fun c => absurd c (by decide)) (fun _ _ _ => ?_) (fun _ _ c => absurd c (by decide)) (fun _ c => absurd c (by omega)))
  obtain ⟨M, hM⟩ : ∃ M, M = gx_u (gx_u m1 86 4 0) 86 13 (m1 86 12) := ⟨_, rfl⟩
  rw [← hM]
  have eM : ∀ c k, ¬ (c = 86 ∧ (k = 4 ∨ k = 13)) → M c k = m1 c k := fun c k hn => by rw [hM, gx_u_ne (by omega), gx_u_ne (by omega)]
  refine rl110 (K := K) (M := M) b3 (by rw [eM 86 10 (by omega)]; exact k1) (fun m2 a2 d2 => ?_) K.length 0 (Nat.zero_add _) M (fun _ _ _ => rfl) (fun i hi => absurd hi (by omega))
  refine rl138 (CL := CL) (M := m2) (by omega) (by rw [a2 86 12 (by decide), eM 86 12 (by omega)]; exact c1.1) (fun m3 a3 d3 => ?_) CL.length 0 (Nat.zero_add _) m2 (fun _ _ _ _ _ _ => rfl) (fun i hi => absurd hi (by omega))
  refine h m3 ⟨?_, fun i c hc => ?_, fun i c hc => ?_⟩ ?_ ⟨fun c k q1 q2 q3 q4 q5 q6 q7 q8 q9 q10 q11 q12 => ?_, fun k q4 q5 q6 q7 q8 q9 q10 q11 q12 q13 => ?_⟩
  · rw [a3 86 13 (by decide) (by decide) (by decide) (by decide), a2 86 13 (by decide), hM, gx_u_self]
    exact c1.1
  · have hlt := lk_lt hc
    rw [a3 97 i (by decide) (by decide) (by decide) (by decide), d2 i hlt, eM 91 i (by omega)]
    exact k2 i c hc
  · have hlt := lg_lt hc
    obtain ⟨u1, u2, u3, u4⟩ := c1.2 i c hc
    obtain ⟨v1, v2, v3, v4⟩ := d3 i hlt
    rw [v1, v2, v3, v4, a2 93 i (by decide), a2 94 i (by decide), a2 95 i (by decide), a2 96 i (by decide), eM 93 i (by omega), eM 94 i (by omega), eM 95 i (by omega), eM 96 i (by omega)]
    exact ⟨u1, u2, u3, u4⟩
  · rw [a3 86 4 (by decide) (by decide) (by decide) (by decide), a2 86 4 (by decide), hM, gx_u_ne (by omega), gx_u_self]
  · rw [a3 c k q9 q10 q11 q12, a2 c k q8, eM c k (by omega), congrFun (f1.1 c q1 q2 q3 q4 q5 q6 q7) k, f0 c k q1]
  · rw [a3 86 k (by decide) (by decide) (by decide) (by decide), a2 86 k (by decide), eM 86 k (by omega), f1.2 k q5 q7 q8 q9 q10 q11 q12, g0 k q5 q6 q10 q12]
theorem r168F {N : Nat} {f : Int} (hN : 1 ≤ N ∧ N ≤ 240) (ht : (N : Int) ≤ m 86 4) (hT : ∀ k, k < N → gx_and (m 90 k) 255 = T k) (wr : lWr T N f) (h : ∀ m', m' 86 4 = 0 → rFl m m' → Q (some (.inl f)) m') : hxn xs n yp_m168 0 [(0, .inr (.inl 86)), (1, .inl (N : Int))] [] m Q := by
  obtain ⟨M0, hM0⟩ : ∃ M, M = gx_u (gx_u (gx_u (gx_u m 86 5 0) 86 6 (N : Int)) 86 10 0) 86 12 0 := ⟨_, rfl⟩
  obtain ⟨s0, c0, f0, g0⟩ := r_st0 hT hN.2 hM0
  have fin : ∀ m2, m2 86 7 = f → rFz M0 m2 → hxn xs n yp_m168 46 [(0, .inr (.inl 86)), (2, .inl 0)] [] m2 Q := fun m2 e7 fz => by
    have q : Q (some (.inl (m2 86 7))) (gx_u m2 86 4 0) := by
      rw [e7]
      refine h _ (by rw [gx_u_self]) ⟨fun c k q1 q2 q3 q4 q5 q6 q7 => ?_, fun k q4 q5 q6 q7 q8 q9 q10 q11 q12 => ?_⟩
      · rw [gx_u_ne (by omega), congrFun (fz.1 c q1 q2 q3 q4 q5 q6 q7) k, f0 c k q1]
      · rw [gx_u_ne (by omega), fz.2 k q5 q7 q8 q9 q10 q11 q12, g0 k q5 q6 q10 q12]
    exact hx_dn (hr168_46 (fun _ _ => q) (fun c => absurd rfl c) (fun c => absurd rfl c) (fun c => absurd rfl c))
  refine hx_dn (hr168_0 (fun _ _ => ?_) (fun _ c => absurd c (by omega)) (fun c => absurd (by omega) c))
  rw [← hM0]
  have sep : ∀ {j p0 K0 CL0}, lLs T N (j + 1) p0 K0 CL0 → p0 < N → (tx T N p0 = 59 → ∀ m2, rS0 T N (p0 + 1) K0 m2 → rCl CL0 m2 → rFz M0 m2 → hxn xs n yp_m169 0 [(0, .inr (.inl 86))] [] m2 (fun r m' => hxn xs n yp_m168 74 [(0, .inr (.inl 86))] (hrs r ++ []) m' Q)) → (tx T N p0 ≠ 59 → f = lfl 1 p0) → hxn xs n yp_m169 0 [(0, .inr (.inl 86))] [] M0 (fun r m' => hxn xs n yp_m168 45 [(0, .inr (.inl 86))] (hrs r ++ []) m' Q) := fun {j p0 K0 CL0} hl hlt g1 g2 => by
    refine r_ls s0 c0 hl (fun m1 s1 c1 f1 => ?_)
    have he1 := r0_he s1
    have s1' := s1
    obtain ⟨⟨t1, t2, t3⟩, ⟨k1, k2⟩, b1, b2, b3⟩ := s1
    refine hx_dn (hr168_46 (fun c => absurd c (by decide)) (fun _ c => absurd c (by omega)) (fun _ c => absurd c (by omega)) (fun _ _ => ?_))
    refine hx_dn (hr189_0 (fun c => ?_) (fun c => ?_))
    · rw [he1] at c
      rw [t1, gx_w_id (by omega) (by omega)]
      show hxn xs n yp_m168 67 _ [.inl 1] _ Q
      refine hx_dn (hr168_67 (fun c => absurd c (by decide)) (fun _ => ?_))
      refine g1 c _ ⟨⟨?_, ?_, fun k hk => ?_⟩, ⟨?_, fun i c hc => ?_⟩, hlt, b2, b3⟩ ⟨?_, fun i c hc => ?_⟩ ⟨fun c q1 q2 q3 q4 q5 q6 q7 => ?_, fun k q5 q7 q8 q9 q10 q11 q12 => ?_⟩
      · rw [gx_u_self]
        omega
      · rw [gx_u_ne (by omega)]
        exact t2
      · rw [gx_u_ne (by omega)]
        exact t3 k hk
      · rw [gx_u_ne (by omega)]
        exact k1
      · rw [gx_u_ne (by omega)]
        exact k2 i c hc
      · rw [gx_u_ne (by omega)]
        exact c1.1
      · rw [gx_u_ne (by omega), gx_u_ne (by omega), gx_u_ne (by omega), gx_u_ne (by omega)]
        exact c1.2 i c hc
      · funext k
        rw [gx_u_ne (by omega)]
        exact congrFun (f1.1 c q1 q2 q3 q4 q5 q6 q7) k
      · rw [gx_u_ne (by omega)]
        exact f1.2 k q5 q7 q8 q9 q10 q11 q12
    · rw [he1] at c
      rw [t1]
      refine r0_172 s1' (by decide) (fun m2 e7 fz => ?_)
      show hxn xs n yp_m189 17 [] [.inl 0] m2 _
      refine hx_dn (hr189_17 ?_)
      show hxn xs n yp_m168 67 _ [.inl 0] m2 Q
      exact hx_dn (hr168_67 (fun _ => fin m2 (by rw [e7, g2 c]) (rFz_t f1 fz)) (fun c => absurd rfl c))
  rcases wr with ⟨j, p0, K0, CL0, ps, hj16, hl, hs, hf⟩ | ⟨j, p0, K0, CL0, hl, hlt, hne, rfl⟩
  · cases j with
    | zero =>
      obtain ⟨rfl, rfl, rfl⟩ := hl
      have hps : ps = 0 := by
        rcases hs with ⟨-, e⟩ | ⟨e, -⟩
        · exact e
        · exact absurd rfl e
      subst hps
      refine r169F s0 c0 rfl (by decide) (Nat.le_refl _) hf (fun m2 e7 fz => ?_)
      show hxn xs n yp_m168 45 _ [.inl 0] m2 Q
      exact hx_dn (hr168_45 (fin m2 e7 fz))
    | succ j =>
      have h59 : tx T N p0 = 59 ∧ ps = p0 + 1 := by
        rcases hs with ⟨e, -⟩ | ⟨-, a, b⟩
        · exact absurd e (by omega)
        · exact ⟨a, b⟩
      obtain ⟨h59, rfl⟩ := h59
      have hkl := lLs_kl hl
      refine sep hl (tx_lt (by rw [h59]; decide)) (fun _ m2 s2 c2 f2 => ?_) (fun c => absurd h59 c)
      refine r169F s2 c2 (lLs_len hl).symm hj16 (by omega) hf (fun m3 e7 fz => ?_)
      show hxn xs n yp_m168 74 _ [.inl 0] m3 Q
      exact hx_dn (hr168_74 (fun _ => fin m3 e7 (rFz_t f2 fz)) (fun c => absurd rfl c))
  · exact sep hl hlt (fun c => absurd c hne) (fun _ => rfl)
theorem r168n {N : Int} (hN : ¬ (1 ≤ N ∧ N ≤ 240 ∧ N ≤ m 86 4)) (h : Q (some (.inl (-1))) m) : hxn xs n yp_m168 0 [(0, .inr (.inl 86)), (1, .inl N)] [] m Q :=
  hx_dn (hr168_0 (fun a b => absurd ⟨a.1, a.2, b⟩ hN) (fun _ _ => h) (fun _ => h))
end RK
end
