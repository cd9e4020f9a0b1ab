/-! roads of methods read by hand, from cut points to the next ones (printed by wip/gen/gxall.py) -/
/-- here from 0 on -/
theorem gt170_0 {xs : List Int32} {w0 : sx_W} {d : Nat} {Q : gx_Q} {m : gx_M} (hI : gx_I m)
    (h1 : ((m 86 6) ≤ (m 86 5)) → Q (some (-1)) m)
    (h2 : ((m 86 5) < (m 86 6)) → Q (some (gx_and (m 90 (m 86 5).toNat) 255)) m) : gx_to xs w0 d yp_m170 0 [(0, .inr 86)] [] m Q := by
  have f1 := gx_I_n hI 86 5 0 260 (by decide +kernel)
  have f2 := gx_I_n hI 86 6 0 260 (by decide +kernel)
  refine gx_blk (C := True) (npc := 8) (L' := [(0, .inr 86)]) (st' := [.inl (m 86 6), .inl (m 86 5)]) (m' := m) [((0, .aload_n 0, 1, 0, 0, 0, 0), (0, 0, 0)), ((1, .getfield 132, 3, 10, 5, 5118, 0), (0, 86, 0)), ((4, .aload_n 0, 1, 0, 0, 0, 0), (0, 0, 0)), ((5, .getfield 135, 3, 10, 6, 5119, 0), (0, 86, 0))] (by decide +kernel) rfl trivial ?_
  refine gx_cmp .ge 27 (by decide +kernel) (fun c1 => ?_) (fun c1 => ?_)
  · have c1 : (m 86 6) ≤ (m 86 5) := c1
    refine gx_blk (C := True) (npc := 28) (L' := [(0, .inr 86)]) (st' := [.inl (-1)]) (m' := m) [((27, .iconst (-1), 1, 0, 0, 0, 0), (0, 0, 0))] (by decide +kernel) rfl trivial ?_
    exact gx_reti (by decide +kernel) (h1 c1)
  · have c1 : (m 86 5) < (m 86 6) := by have h : ¬ ((m 86 6) ≤ (m 86 5)) := c1; omega
    have f3 := gx_I_at hI 90 (z := m 86 5) 0 259 (-128) 127 (by decide +kernel) (by omega) (by omega)
    have f4 := gx_and_bd (m 90 (m 86 5).toNat) 255 (by decide)
    refine gx_blk (C := (True ∧ (0 ≤ (m 86 5) ∧ (m 86 5) < 260))) (npc := 28) (L' := [(0, .inr 86)]) (st' := [.inl (gx_and (m 90 (m 86 5).toNat) 255)]) (m' := m) [((11, .aload_n 0, 1, 0, 0, 0, 0), (0, 0, 0)), ((12, .getfield 19, 3, 10, 3, 5116, 0), (1, 86, 90)), ((15, .aload_n 0, 1, 0, 0, 0, 0), (0, 0, 0)), ((16, .getfield 132, 3, 10, 5, 5118, 0), (0, 86, 0)), ((19, .baload, 1, 0, 0, 0, 0), (0, 90, 260)), ((20, .sipush 255, 3, 0, 0, 0, 0), (0, 0, 0)), ((23, .iand, 1, 0, 0, 0, 0), (0, 0, 0)), ((24, .goto 4, 3, 0, 0, 0, 0), (0, 0, 0))] (by decide +kernel) rfl ⟨trivial, (by omega)⟩ ?_
    exact gx_reti (by decide +kernel) (h2 c1)

/-- isClause from 0 on -/
theorem gt171_0 {xs : List Int32} {w0 : sx_W} {d : Nat} {Q : gx_Q} {m : gx_M} {x0 : Int}
    (h1 : (x0 = 118) → Q (some 1) m)
    (h2 : (x0 ≠ 118) → (x0 = 105) → Q (some 1) m)
    (h3 : (x0 ≠ 118) → (x0 ≠ 105) → (x0 = 102) → Q (some 1) m)
    (h4 : (x0 ≠ 118) → (x0 ≠ 105) → (x0 ≠ 102) → (x0 = 103) → Q (some 1) m)
    (h5 : (x0 ≠ 118) → (x0 ≠ 105) → (x0 ≠ 102) → (x0 ≠ 103) → (x0 ≠ 110) → Q (some 0) m)
    (h6 : (x0 ≠ 118) → (x0 ≠ 105) → (x0 ≠ 102) → (x0 ≠ 103) → (x0 = 110) → Q (some 1) m) : gx_to xs w0 d yp_m171 0 [(0, .inl x0)] [] m Q := by
  refine gx_blk (C := True) (npc := 3) (L' := [(0, .inl x0)]) (st' := [.inl 118, .inl x0]) (m' := m) [((0, .iload_n 0, 1, 0, 0, 0, 0), (0, 0, 0)), ((1, .bipush 118, 2, 0, 0, 0, 0), (0, 0, 0))] (by decide +kernel) rfl trivial ?_
  refine gx_cmp .eq 30 (by decide +kernel) (fun c1 => ?_) (fun c1 => ?_)
  · have c1 : x0 = 118 := c1
    refine gx_blk (C := True) (npc := 35) (L' := [(0, .inl x0)]) (st' := [.inl 1]) (m' := m) [((30, .iconst 1, 1, 0, 0, 0, 0), (0, 0, 0)), ((31, .goto 4, 3, 0, 0, 0, 0), (0, 0, 0))] (by decide +kernel) rfl trivial ?_
    exact gx_retb (by decide +kernel) (by omega) (h1 c1)
  · have c1 : x0 ≠ 118 := c1
    refine gx_blk (C := True) (npc := 9) (L' := [(0, .inl x0)]) (st' := [.inl 105, .inl x0]) (m' := m) [((6, .iload_n 0, 1, 0, 0, 0, 0), (0, 0, 0)), ((7, .bipush 105, 2, 0, 0, 0, 0), (0, 0, 0))] (by decide +kernel) rfl trivial ?_
    refine gx_cmp .eq 30 (by decide +kernel) (fun c2 => ?_) (fun c2 => ?_)
    · have c2 : x0 = 105 := c2
      refine gx_blk (C := True) (npc := 35) (L' := [(0, .inl x0)]) (st' := [.inl 1]) (m' := m) [((30, .iconst 1, 1, 0, 0, 0, 0), (0, 0, 0)), ((31, .goto 4, 3, 0, 0, 0, 0), (0, 0, 0))] (by decide +kernel) rfl trivial ?_
      exact gx_retb (by decide +kernel) (by omega) (h2 c1 c2)
    · have c2 : x0 ≠ 105 := c2
      refine gx_blk (C := True) (npc := 15) (L' := [(0, .inl x0)]) (st' := [.inl 102, .inl x0]) (m' := m) [((12, .iload_n 0, 1, 0, 0, 0, 0), (0, 0, 0)), ((13, .bipush 102, 2, 0, 0, 0, 0), (0, 0, 0))] (by decide +kernel) rfl trivial ?_
      refine gx_cmp .eq 30 (by decide +kernel) (fun c3 => ?_) (fun c3 => ?_)
      · have c3 : x0 = 102 := c3
        refine gx_blk (C := True) (npc := 35) (L' := [(0, .inl x0)]) (st' := [.inl 1]) (m' := m) [((30, .iconst 1, 1, 0, 0, 0, 0), (0, 0, 0)), ((31, .goto 4, 3, 0, 0, 0, 0), (0, 0, 0))] (by decide +kernel) rfl trivial ?_
        exact gx_retb (by decide +kernel) (by omega) (h3 c1 c2 c3)
      · have c3 : x0 ≠ 102 := c3
        refine gx_blk (C := True) (npc := 21) (L' := [(0, .inl x0)]) (st' := [.inl 103, .inl x0]) (m' := m) [((18, .iload_n 0, 1, 0, 0, 0, 0), (0, 0, 0)), ((19, .bipush 103, 2, 0, 0, 0, 0), (0, 0, 0))] (by decide +kernel) rfl trivial ?_
        refine gx_cmp .eq 30 (by decide +kernel) (fun c4 => ?_) (fun c4 => ?_)
        · have c4 : x0 = 103 := c4
          refine gx_blk (C := True) (npc := 35) (L' := [(0, .inl x0)]) (st' := [.inl 1]) (m' := m) [((30, .iconst 1, 1, 0, 0, 0, 0), (0, 0, 0)), ((31, .goto 4, 3, 0, 0, 0, 0), (0, 0, 0))] (by decide +kernel) rfl trivial ?_
          exact gx_retb (by decide +kernel) (by omega) (h4 c1 c2 c3 c4)
        · have c4 : x0 ≠ 103 := c4
          refine gx_blk (C := True) (npc := 27) (L' := [(0, .inl x0)]) (st' := [.inl 110, .inl x0]) (m' := m) [((24, .iload_n 0, 1, 0, 0, 0, 0), (0, 0, 0)), ((25, .bipush 110, 2, 0, 0, 0, 0), (0, 0, 0))] (by decide +kernel) rfl trivial ?_
          refine gx_cmp .ne 34 (by decide +kernel) (fun c5 => ?_) (fun c5 => ?_)
          · have c5 : x0 ≠ 110 := c5
            refine gx_blk (C := True) (npc := 35) (L' := [(0, .inl x0)]) (st' := [.inl 0]) (m' := m) [((34, .iconst 0, 1, 0, 0, 0, 0), (0, 0, 0))] (by decide +kernel) rfl trivial ?_
            exact gx_retb (by decide +kernel) (by omega) (h5 c1 c2 c3 c4 c5)
          · have c5 : x0 = 110 := by have h : ¬ (x0 ≠ 110) := c5; omega
            refine gx_blk (C := True) (npc := 35) (L' := [(0, .inl x0)]) (st' := [.inl 1]) (m' := m) [((30, .iconst 1, 1, 0, 0, 0, 0), (0, 0, 0)), ((31, .goto 4, 3, 0, 0, 0, 0), (0, 0, 0))] (by decide +kernel) rfl trivial ?_
            exact gx_retb (by decide +kernel) (by omega) (h6 c1 c2 c3 c4 c5)

/-- wrongAt from 0 on -/
theorem gt172_0 {xs : List Int32} {w0 : sx_W} {d : Nat} {Q : gx_Q} {m : gx_M} {x1 x2 : Int}
    (h1 : Q (some 0) (gx_u m 86 7 (gx_w ((gx_w ((-1000) * x1)) - x2)))) : gx_to xs w0 d yp_m172 0 [(0, .inr 86), (1, .inl x1), (2, .inl x2)] [] m Q := by
  refine gx_blk (C := True) (npc := 12) (L' := [(0, .inr 86), (1, .inl x1), (2, .inl x2)]) (st' := [.inl 0]) (m' := (gx_u m 86 7 (gx_w ((gx_w ((-1000) * x1)) - x2)))) [((0, .aload_n 0, 1, 0, 0, 0, 0), (0, 0, 0)), ((1, .sipush (-1000), 3, 0, 0, 0, 0), (0, 0, 0)), ((4, .iload_n 1, 1, 0, 0, 0, 0), (0, 0, 0)), ((5, .imul, 1, 0, 0, 0, 0), (0, 0, 0)), ((6, .iload_n 2, 1, 0, 0, 0, 0), (0, 0, 0)), ((7, .isub, 1, 0, 0, 0, 0), (0, 0, 0)), ((8, .putfield 142, 3, 10, 7, 5120, 0), (0, 86, 0)), ((11, .iconst 0, 1, 0, 0, 0, 0), (0, 0, 0))] (by decide +kernel) rfl trivial ?_
  exact gx_retb (by decide +kernel) (by omega) h1

/-- opens from 0 on -/
theorem gt175_0 {xs : List Int32} {w0 : sx_W} {d : Nat} {Q : gx_Q} {m : gx_M} {x1 : Int} (hI : gx_I m) (r_x1 : 10 ≤ x1 ∧ x1 ≤ 14) (g1 : 0 ≤ (m 86 11) ∧ (m 86 11) ≤ 250)
    (h1 : ((m 86 9) ≠ 6) → Q (some 1) (gx_u (gx_u (gx_u (gx_u m 86 9 (gx_w ((m 86 9) + 1))) 92 (m 86 11).toNat (1048576 * x1)) 86 11 ((m 86 11) + 1)) 86 5 ((m 86 5) + 1)))
    (h2 : ((m 86 9) = 6) → gx_to xs w0 d yp_m172 0 [(0, .inr 86), (1, .inl 5), (2, .inl (m 86 5))] [] m (fun r m' => gx_to xs w0 (d + 1) yp_m175 18 [] (gx_rs r ++ []) m' Q)) : gx_to xs w0 (d + 1) yp_m175 0 [(0, .inr 86), (1, .inl x1)] [] m Q := by
  refine gx_blk (C := True) (npc := 6) (L' := [(0, .inr 86), (1, .inl x1)]) (st' := [.inl 6, .inl (m 86 9)]) (m' := m) [((0, .aload_n 0, 1, 0, 0, 0, 0), (0, 0, 0)), ((1, .getfield 159, 3, 10, 9, 5122, 0), (0, 86, 0)), ((4, .bipush 6, 2, 0, 0, 0, 0), (0, 0, 0))] (by decide +kernel) rfl trivial ?_
  refine gx_cmp .ne 19 (by decide +kernel) (fun c1 => ?_) (fun c1 => ?_)
  · have c1 : (m 86 9) ≠ 6 := c1
    have e1 : gx_w (1048576 * x1) = 1048576 * x1 := gx_w_id (by omega) (by omega)
    have e2 : gx_w ((m 86 11) + 1) = (m 86 11) + 1 := gx_w_id (by omega) (by omega)
    have f3 := gx_I_n hI 86 5 0 260 (by decide +kernel)
    have e4 : gx_w ((m 86 5) + 1) = (m 86 5) + 1 := gx_w_id (by omega) (by omega)
    refine gx_blk (C := (True ∧ (0 ≤ (m 86 11) ∧ (m 86 11) < 260))) (npc := 63) (L' := [(0, .inr 86), (1, .inl x1)]) (st' := [.inl 1]) (m' := (gx_u (gx_u (gx_u (gx_u m 86 9 (gx_w ((m 86 9) + 1))) 92 (m 86 11).toNat (gx_w (1048576 * x1))) 86 11 (gx_w ((m 86 11) + 1))) 86 5 (gx_w ((m 86 5) + 1)))) [((19, .aload_n 0, 1, 0, 0, 0, 0), (0, 0, 0)), ((20, .aload_n 0, 1, 0, 0, 0, 0), (0, 0, 0)), ((21, .getfield 159, 3, 10, 9, 5122, 0), (0, 86, 0)), ((24, .iconst 1, 1, 0, 0, 0, 0), (0, 0, 0)), ((25, .iadd, 1, 0, 0, 0, 0), (0, 0, 0)), ((26, .putfield 159, 3, 10, 9, 5122, 0), (0, 86, 0)), ((29, .aload_n 0, 1, 0, 0, 0, 0), (0, 0, 0)), ((30, .getfield 26, 3, 10, 15, 5128, 0), (1, 86, 92)), ((33, .aload_n 0, 1, 0, 0, 0, 0), (0, 0, 0)), ((34, .getfield 162, 3, 10, 11, 5124, 0), (0, 86, 0)), ((37, .ldc 158, 2, 0, 0, 6077, 1048576), (0, 0, 0)), ((39, .iload_n 1, 1, 0, 0, 0, 0), (0, 0, 0)), ((40, .imul, 1, 0, 0, 0, 0), (0, 0, 0)), ((41, .iastore, 1, 0, 0, 0, 0), (0, 92, 260)), ((42, .aload_n 0, 1, 0, 0, 0, 0), (0, 0, 0)), ((43, .aload_n 0, 1, 0, 0, 0, 0), (0, 0, 0)), ((44, .getfield 162, 3, 10, 11, 5124, 0), (0, 86, 0)), ((47, .iconst 1, 1, 0, 0, 0, 0), (0, 0, 0)), ((48, .iadd, 1, 0, 0, 0, 0), (0, 0, 0)), ((49, .putfield 162, 3, 10, 11, 5124, 0), (0, 86, 0)), ((52, .aload_n 0, 1, 0, 0, 0, 0), (0, 0, 0)), ((53, .aload_n 0, 1, 0, 0, 0, 0), (0, 0, 0)), ((54, .getfield 132, 3, 10, 5, 5118, 0), (0, 86, 0)), ((57, .iconst 1, 1, 0, 0, 0, 0), (0, 0, 0)), ((58, .iadd, 1, 0, 0, 0, 0), (0, 0, 0)), ((59, .putfield 132, 3, 10, 5, 5118, 0), (0, 86, 0)), ((62, .iconst 1, 1, 0, 0, 0, 0), (0, 0, 0))] (by decide +kernel) rfl ⟨trivial, (by omega)⟩ ?_
    rw [e1, e2, e4]
    exact gx_retb (by decide +kernel) (by omega) (h1 c1)
  · have c1 : (m 86 9) = 6 := by have h : ¬ ((m 86 9) ≠ 6) := c1; omega
    have f5 := gx_I_n hI 86 5 0 260 (by decide +kernel)
    refine gx_blk (C := True) (npc := 15) (L' := [(0, .inr 86), (1, .inl x1)]) (st' := [.inl (m 86 5), .inl 5, .inr 86]) (m' := m) [((9, .aload_n 0, 1, 0, 0, 0, 0), (0, 0, 0)), ((10, .iconst 5, 1, 0, 0, 0, 0), (0, 0, 0)), ((11, .aload_n 0, 1, 0, 0, 0, 0), (0, 0, 0)), ((12, .getfield 132, 3, 10, 5, 5118, 0), (0, 86, 0))] (by decide +kernel) rfl trivial ?_
    exact gx_callv (E := (15, .invokevirtual 145, 3, 172, 0, 6061, 0)) (M' := yp_m172) (c := 86) [.inl 5, .inl (m 86 5)] [] rfl (by decide +kernel) rfl ⟨rfl, rfl⟩ rfl rfl (Nat.le_of_ble_eq_true rfl) (Nat.le_of_ble_eq_true rfl) (by decide +kernel) (gx_to_mono (h2 c1) (fun r m' h' => gx_to_pick [] h'))

/-- opens from 18 on -/
theorem gt175_18 {xs : List Int32} {w0 : sx_W} {d : Nat} {Q : gx_Q} {m : gx_M} {s0 : Int}
    (k1 : s0 = 0 ∨ s0 = 1)
    (h1 : Q (some s0) m) : gx_to xs w0 d yp_m175 18 [] [.inl s0] m Q := by
  exact gx_retb (by decide +kernel) (k1) h1

/-- isDigit from 0 on -/
theorem gt176_0 {xs : List Int32} {w0 : sx_W} {d : Nat} {Q : gx_Q} {m : gx_M}
    (h1 : gx_to xs w0 d yp_m170 0 [(0, .inr 86)] [] m (fun r m' => gx_to xs w0 (d + 1) yp_m176 4 [(0, .inr 86)] (gx_rs r ++ []) m' Q)) : gx_to xs w0 (d + 1) yp_m176 0 [(0, .inr 86)] [] m Q := by
  refine gx_blk (C := True) (npc := 1) (L' := [(0, .inr 86)]) (st' := [.inr 86]) (m' := m) [((0, .aload_n 0, 1, 0, 0, 0, 0), (0, 0, 0))] (by decide +kernel) rfl trivial ?_
  exact gx_callv (E := (1, .invokevirtual 138, 3, 170, 0, 6054, 0)) (M' := yp_m170) (c := 86) [] [] rfl (by decide +kernel) rfl ⟨rfl, rfl⟩ rfl rfl (Nat.le_of_ble_eq_true rfl) (Nat.le_of_ble_eq_true rfl) (by decide +kernel) (gx_to_mono h1 (fun r m' h' => gx_to_pick [0] h'))

/-- isDigit from 4 on -/
theorem gt176_4 {xs : List Int32} {w0 : sx_W} {d : Nat} {Q : gx_Q} {m : gx_M} {s0 : Int}
    (h1 : (s0 < 48) → Q (some 0) m)
    (h2 : (48 ≤ s0) → gx_to xs w0 d yp_m170 0 [(0, .inr 86)] [] m (fun r m' => gx_to xs w0 (d + 1) yp_m176 13 [] (gx_rs r ++ []) m' Q)) : gx_to xs w0 (d + 1) yp_m176 4 [(0, .inr 86)] [.inl s0] m Q := by
  refine gx_blk (C := True) (npc := 6) (L' := [(0, .inr 86)]) (st' := [.inl 48, .inl s0]) (m' := m) [((4, .bipush 48, 2, 0, 0, 0, 0), (0, 0, 0))] (by decide +kernel) rfl trivial ?_
  refine gx_cmp .lt 22 (by decide +kernel) (fun c1 => ?_) (fun c1 => ?_)
  · have c1 : s0 < 48 := c1
    refine gx_blk (C := True) (npc := 23) (L' := [(0, .inr 86)]) (st' := [.inl 0]) (m' := m) [((22, .iconst 0, 1, 0, 0, 0, 0), (0, 0, 0))] (by decide +kernel) rfl trivial ?_
    exact gx_retb (by decide +kernel) (by omega) (h1 c1)
  · have c1 : 48 ≤ s0 := by have h : ¬ (s0 < 48) := c1; omega
    refine gx_blk (C := True) (npc := 10) (L' := [(0, .inr 86)]) (st' := [.inr 86]) (m' := m) [((9, .aload_n 0, 1, 0, 0, 0, 0), (0, 0, 0))] (by decide +kernel) rfl trivial ?_
    exact gx_callv (E := (10, .invokevirtual 138, 3, 170, 0, 6054, 0)) (M' := yp_m170) (c := 86) [] [] rfl (by decide +kernel) rfl ⟨rfl, rfl⟩ rfl rfl (Nat.le_of_ble_eq_true rfl) (Nat.le_of_ble_eq_true rfl) (by decide +kernel) (gx_to_mono (h2 c1) (fun r m' h' => gx_to_pick [] h'))

/-- isDigit from 13 on -/
theorem gt176_13 {xs : List Int32} {w0 : sx_W} {d : Nat} {Q : gx_Q} {m : gx_M} {s0 : Int}
    (h1 : (57 < s0) → Q (some 0) m)
    (h2 : (s0 ≤ 57) → Q (some 1) m) : gx_to xs w0 d yp_m176 13 [] [.inl s0] m Q := by
  refine gx_blk (C := True) (npc := 15) (L' := []) (st' := [.inl 57, .inl s0]) (m' := m) [((13, .bipush 57, 2, 0, 0, 0, 0), (0, 0, 0))] (by decide +kernel) rfl trivial ?_
  refine gx_cmp .gt 22 (by decide +kernel) (fun c1 => ?_) (fun c1 => ?_)
  · have c1 : 57 < s0 := c1
    refine gx_blk (C := True) (npc := 23) (L' := []) (st' := [.inl 0]) (m' := m) [((22, .iconst 0, 1, 0, 0, 0, 0), (0, 0, 0))] (by decide +kernel) rfl trivial ?_
    exact gx_retb (by decide +kernel) (by omega) (h1 c1)
  · have c1 : s0 ≤ 57 := by have h : ¬ (57 < s0) := c1; omega
    refine gx_blk (C := True) (npc := 23) (L' := []) (st' := [.inl 1]) (m' := m) [((18, .iconst 1, 1, 0, 0, 0, 0), (0, 0, 0)), ((19, .goto 4, 3, 0, 0, 0, 0), (0, 0, 0))] (by decide +kernel) rfl trivial ?_
    exact gx_retb (by decide +kernel) (by omega) (h2 c1)

/-- readsNumber from 0 on -/
theorem gt177_0 {xs : List Int32} {w0 : sx_W} {d : Nat} {Q : gx_Q} {m : gx_M} (hI : gx_I m)
    (h1 : gx_to xs w0 d yp_m177 10 [(0, .inr 86), (1, .inl (m 86 5))] [] (gx_u m 86 8 0) Q) : gx_to xs w0 d yp_m177 0 [(0, .inr 86)] [] m Q := by
  have f1 := gx_I_n hI 86 5 0 260 (by decide +kernel)
  refine gx_blk (C := True) (npc := 10) (L' := [(0, .inr 86), (1, .inl (m 86 5))]) (st' := []) (m' := (gx_u m 86 8 0)) [((0, .aload_n 0, 1, 0, 0, 0, 0), (0, 0, 0)), ((1, .getfield 132, 3, 10, 5, 5118, 0), (0, 86, 0)), ((4, .istore_n 1, 1, 0, 0, 0, 0), (0, 0, 0)), ((5, .aload_n 0, 1, 0, 0, 0, 0), (0, 0, 0)), ((6, .iconst 0, 1, 0, 0, 0, 0), (0, 0, 0)), ((7, .putfield 148, 3, 10, 8, 5121, 0), (0, 86, 0))] (by decide +kernel) rfl trivial ?_
  exact gx_to_pick [0, 1] h1

/-- readsNumber from 10 on -/
theorem gt177_10 {xs : List Int32} {w0 : sx_W} {d : Nat} {Q : gx_Q} {m : gx_M} {x1 : Int} (r_x1 : 0 ≤ x1 ∧ x1 ≤ 250)
    (h1 : gx_to xs w0 d yp_m176 0 [(0, .inr 86)] [] m (fun r m' => gx_to xs w0 (d + 1) yp_m177 14 [(0, .inr 86), (1, .inl x1)] (gx_rs r ++ []) m' Q)) : gx_to xs w0 (d + 1) yp_m177 10 [(0, .inr 86), (1, .inl x1)] [] m Q := by
  refine gx_blk (C := True) (npc := 11) (L' := [(0, .inr 86), (1, .inl x1)]) (st' := [.inr 86]) (m' := m) [((10, .aload_n 0, 1, 0, 0, 0, 0), (0, 0, 0))] (by decide +kernel) rfl trivial ?_
  exact gx_callv (E := (11, .invokevirtual 151, 3, 176, 0, 6078, 0)) (M' := yp_m176) (c := 86) [] [] rfl (by decide +kernel) rfl ⟨rfl, rfl⟩ rfl rfl (Nat.le_of_ble_eq_true rfl) (Nat.le_of_ble_eq_true rfl) (by decide +kernel) (gx_to_mono h1 (fun r m' h' => gx_to_pick [0, 1] h'))

/-- readsNumber from 14 on -/
theorem gt177_14 {xs : List Int32} {w0 : sx_W} {d : Nat} {Q : gx_Q} {m : gx_M} {x1 s0 : Int} (hI : gx_I m) (r_x1 : 0 ≤ x1 ∧ x1 ≤ 250)
    (h1 : (s0 = 0) → Q (some 1) m)
    (h2 : (s0 ≠ 0) → ((m 86 5) ≠ (x1 + 5)) → gx_to xs w0 d yp_m170 0 [(0, .inr 86)] [] m (fun r m' => gx_to xs w0 (d + 1) yp_m177 49 [(0, .inr 86), (1, .inl x1)] (gx_rs r ++ [.inl (gx_w (10 * (m 86 8))), .inr 86]) m' Q))
    (h3 : (s0 ≠ 0) → ((m 86 5) = (x1 + 5)) → gx_to xs w0 d yp_m172 0 [(0, .inr 86), (1, .inl 2), (2, .inl (m 86 5))] [] m (fun r m' => gx_to xs w0 (d + 1) yp_m177 36 [] (gx_rs r ++ []) m' Q)) : gx_to xs w0 (d + 1) yp_m177 14 [(0, .inr 86), (1, .inl x1)] [.inl s0] m Q := by
  refine gx_if .eq 69 (by decide +kernel) (fun c1 => ?_) (fun c1 => ?_)
  · have c1 : s0 = 0 := c1
    refine gx_blk (C := True) (npc := 70) (L' := [(0, .inr 86), (1, .inl x1)]) (st' := [.inl 1]) (m' := m) [((69, .iconst 1, 1, 0, 0, 0, 0), (0, 0, 0))] (by decide +kernel) rfl trivial ?_
    exact gx_retb (by decide +kernel) (by omega) (h1 c1)
  · have c1 : s0 ≠ 0 := c1
    have f1 := gx_I_n hI 86 5 0 260 (by decide +kernel)
    have e2 : gx_w (x1 + 5) = x1 + 5 := gx_w_id (by omega) (by omega)
    refine gx_blk (C := True) (npc := 24) (L' := [(0, .inr 86), (1, .inl x1)]) (st' := [.inl (gx_w (x1 + 5)), .inl (m 86 5)]) (m' := m) [((17, .aload_n 0, 1, 0, 0, 0, 0), (0, 0, 0)), ((18, .getfield 132, 3, 10, 5, 5118, 0), (0, 86, 0)), ((21, .iload_n 1, 1, 0, 0, 0, 0), (0, 0, 0)), ((22, .iconst 5, 1, 0, 0, 0, 0), (0, 0, 0)), ((23, .iadd, 1, 0, 0, 0, 0), (0, 0, 0))] (by decide +kernel) rfl trivial ?_
    rw [e2]
    refine gx_cmp .ne 37 (by decide +kernel) (fun c2 => ?_) (fun c2 => ?_)
    · have c2 : (m 86 5) ≠ (x1 + 5) := c2
      refine gx_blk (C := True) (npc := 46) (L' := [(0, .inr 86), (1, .inl x1)]) (st' := [.inr 86, .inl (gx_w (10 * (m 86 8))), .inr 86]) (m' := m) [((37, .aload_n 0, 1, 0, 0, 0, 0), (0, 0, 0)), ((38, .bipush 10, 2, 0, 0, 0, 0), (0, 0, 0)), ((40, .aload_n 0, 1, 0, 0, 0, 0), (0, 0, 0)), ((41, .getfield 148, 3, 10, 8, 5121, 0), (0, 86, 0)), ((44, .imul, 1, 0, 0, 0, 0), (0, 0, 0)), ((45, .aload_n 0, 1, 0, 0, 0, 0), (0, 0, 0))] (by decide +kernel) rfl trivial ?_
      exact gx_callv (E := (46, .invokevirtual 138, 3, 170, 0, 6054, 0)) (M' := yp_m170) (c := 86) [] [.inl (gx_w (10 * (m 86 8))), .inr 86] rfl (by decide +kernel) rfl ⟨rfl, rfl⟩ rfl rfl (Nat.le_of_ble_eq_true rfl) (Nat.le_of_ble_eq_true rfl) (by decide +kernel) (gx_to_mono (h2 c1 c2) (fun r m' h' => gx_to_pick [0, 1] h'))
    · have c2 : (m 86 5) = (x1 + 5) := by have h : ¬ ((m 86 5) ≠ (x1 + 5)) := c2; omega
      refine gx_blk (C := True) (npc := 33) (L' := [(0, .inr 86), (1, .inl x1)]) (st' := [.inl (m 86 5), .inl 2, .inr 86]) (m' := m) [((27, .aload_n 0, 1, 0, 0, 0, 0), (0, 0, 0)), ((28, .iconst 2, 1, 0, 0, 0, 0), (0, 0, 0)), ((29, .aload_n 0, 1, 0, 0, 0, 0), (0, 0, 0)), ((30, .getfield 132, 3, 10, 5, 5118, 0), (0, 86, 0))] (by decide +kernel) rfl trivial ?_
      exact gx_callv (E := (33, .invokevirtual 145, 3, 172, 0, 6061, 0)) (M' := yp_m172) (c := 86) [.inl 2, .inl (m 86 5)] [] rfl (by decide +kernel) rfl ⟨rfl, rfl⟩ rfl rfl (Nat.le_of_ble_eq_true rfl) (Nat.le_of_ble_eq_true rfl) (by decide +kernel) (gx_to_mono (h3 c1 c2) (fun r m' h' => gx_to_pick [] h'))

/-- readsNumber from 36 on -/
theorem gt177_36 {xs : List Int32} {w0 : sx_W} {d : Nat} {Q : gx_Q} {m : gx_M} {s0 : Int}
    (k1 : s0 = 0 ∨ s0 = 1)
    (h1 : Q (some s0) m) : gx_to xs w0 d yp_m177 36 [] [.inl s0] m Q := by
  exact gx_retb (by decide +kernel) (k1) h1

/-- readsNumber from 49 on -/
theorem gt177_49 {xs : List Int32} {w0 : sx_W} {d : Nat} {Q : gx_Q} {m : gx_M} {x1 s1 s2 : Int} (hI : gx_I m) (r_x1 : 0 ≤ x1 ∧ x1 ≤ 250)
    (h1 : gx_to xs w0 d yp_m177 10 [(0, .inr 86), (1, .inl x1)] [] (gx_u (gx_u m 86 8 (gx_w ((gx_w (s1 + s2)) - 48))) 86 5 ((m 86 5) + 1)) Q) : gx_to xs w0 d yp_m177 49 [(0, .inr 86), (1, .inl x1)] [.inl s2, .inl s1, .inr 86] m Q := by
  have f1 := gx_I_n hI 86 5 0 260 (by decide +kernel)
  have e2 : gx_w ((m 86 5) + 1) = (m 86 5) + 1 := gx_w_id (by omega) (by omega)
  refine gx_blk (C := True) (npc := 10) (L' := [(0, .inr 86), (1, .inl x1)]) (st' := []) (m' := (gx_u (gx_u m 86 8 (gx_w ((gx_w (s1 + s2)) - 48))) 86 5 (gx_w ((m 86 5) + 1)))) [((49, .iadd, 1, 0, 0, 0, 0), (0, 0, 0)), ((50, .bipush 48, 2, 0, 0, 0, 0), (0, 0, 0)), ((52, .isub, 1, 0, 0, 0, 0), (0, 0, 0)), ((53, .putfield 148, 3, 10, 8, 5121, 0), (0, 86, 0)), ((56, .aload_n 0, 1, 0, 0, 0, 0), (0, 0, 0)), ((57, .aload_n 0, 1, 0, 0, 0, 0), (0, 0, 0)), ((58, .getfield 132, 3, 10, 5, 5118, 0), (0, 86, 0)), ((61, .iconst 1, 1, 0, 0, 0, 0), (0, 0, 0)), ((62, .iadd, 1, 0, 0, 0, 0), (0, 0, 0)), ((63, .putfield 132, 3, 10, 5, 5118, 0), (0, 86, 0)), ((66, .goto (-56), 3, 0, 0, 0, 0), (0, 0, 0))] (by decide +kernel) rfl trivial ?_
  rw [e2]
  exact gx_to_pick [0, 1] h1

/-- notes from 0 on -/
theorem gt178_0 {xs : List Int32} {w0 : sx_W} {d : Nat} {Q : gx_Q} {m : gx_M} {x1 x2 : Int} (r_x1 : 0 ≤ x1 ∧ x1 ≤ 14) (r_x2 : 0 ≤ x2 ∧ x2 ≤ 1048575) (g2 : 0 ≤ (m 86 10) ∧ (m 86 10) ≤ 250)
    (h1 : Q none (gx_u (gx_u m 91 (m 86 10).toNat ((1048576 * x1) + x2)) 86 10 ((m 86 10) + 1))) : gx_to xs w0 d yp_m178 0 [(0, .inr 86), (1, .inl x1), (2, .inl x2)] [] m Q := by
  have e1 : gx_w (1048576 * x1) = 1048576 * x1 := gx_w_id (by omega) (by omega)
  have e2 : gx_w ((1048576 * x1) + x2) = (1048576 * x1) + x2 := gx_w_id (by omega) (by omega)
  have e3 : gx_w ((m 86 10) + 1) = (m 86 10) + 1 := gx_w_id (by omega) (by omega)
  refine gx_blk (C := (True ∧ (0 ≤ (m 86 10) ∧ (m 86 10) < 260))) (npc := 25) (L' := [(0, .inr 86), (1, .inl x1), (2, .inl x2)]) (st' := []) (m' := (gx_u (gx_u m 91 (m 86 10).toNat (gx_w ((gx_w (1048576 * x1)) + x2))) 86 10 (gx_w ((m 86 10) + 1)))) [((0, .aload_n 0, 1, 0, 0, 0, 0), (0, 0, 0)), ((1, .getfield 23, 3, 10, 14, 5127, 0), (1, 86, 91)), ((4, .aload_n 0, 1, 0, 0, 0, 0), (0, 0, 0)), ((5, .getfield 155, 3, 10, 10, 5123, 0), (0, 86, 0)), ((8, .ldc 158, 2, 0, 0, 6077, 1048576), (0, 0, 0)), ((10, .iload_n 1, 1, 0, 0, 0, 0), (0, 0, 0)), ((11, .imul, 1, 0, 0, 0, 0), (0, 0, 0)), ((12, .iload_n 2, 1, 0, 0, 0, 0), (0, 0, 0)), ((13, .iadd, 1, 0, 0, 0, 0), (0, 0, 0)), ((14, .iastore, 1, 0, 0, 0, 0), (0, 91, 260)), ((15, .aload_n 0, 1, 0, 0, 0, 0), (0, 0, 0)), ((16, .aload_n 0, 1, 0, 0, 0, 0), (0, 0, 0)), ((17, .getfield 155, 3, 10, 10, 5123, 0), (0, 86, 0)), ((20, .iconst 1, 1, 0, 0, 0, 0), (0, 0, 0)), ((21, .iadd, 1, 0, 0, 0, 0), (0, 0, 0)), ((22, .putfield 155, 3, 10, 10, 5123, 0), (0, 86, 0))] (by decide +kernel) rfl ⟨trivial, (by omega)⟩ ?_
  rw [e1, e2, e3]
  exact gx_ret0 (by decide +kernel) h1

/-- factOf from 0 on -/
theorem gt179_0 {xs : List Int32} {w0 : sx_W} {d : Nat} {Q : gx_Q} {m : gx_M} {x0 : Int}
    (h1 : (x0 < 97 ∨ 122 < x0) → Q (some (-1)) m)
    (h2 : (x0 = 97) → Q (some 10) m)
    (h3 : (x0 = 98) → Q (some (-1)) m)
    (h4 : (x0 = 99) → Q (some 11) m)
    (h5 : (x0 = 100) → Q (some 2) m)
    (h6 : (x0 = 101) → Q (some 12) m)
    (h7 : (x0 = 102) → Q (some (-1)) m)
    (h8 : (x0 = 103) → Q (some (-1)) m)
    (h9 : (x0 = 104) → Q (some 8) m)
    (h10 : (x0 = 105) → Q (some (-1)) m)
    (h11 : (x0 = 106) → Q (some (-1)) m)
    (h12 : (x0 = 107) → Q (some 7) m)
    (h13 : (x0 = 108) → Q (some 3) m)
    (h14 : (x0 = 109) → Q (some 6) m)
    (h15 : (x0 = 110) → Q (some (-1)) m)
    (h16 : (x0 = 111) → Q (some 4) m)
    (h17 : (x0 = 112) → Q (some 9) m)
    (h18 : (x0 = 113) → Q (some (-1)) m)
    (h19 : (x0 = 114) → Q (some (-1)) m)
    (h20 : (x0 = 115) → Q (some 5) m)
    (h21 : (x0 = 116) → Q (some 0) m)
    (h22 : (x0 = 117) → Q (some (-1)) m)
    (h23 : (x0 = 118) → Q (some (-1)) m)
    (h24 : (x0 = 119) → Q (some (-1)) m)
    (h25 : (x0 = 120) → Q (some (-1)) m)
    (h26 : (x0 = 121) → Q (some 1) m)
    (h27 : (x0 = 122) → Q (some 13) m) : gx_to xs w0 d yp_m179 0 [(0, .inl x0)] [] m Q := by
  refine gx_blk (C := True) (npc := 1) (L' := [(0, .inl x0)]) (st' := [.inl x0]) (m' := m) [((0, .iload_n 0, 1, 0, 0, 0, 0), (0, 0, 0))] (by decide +kernel) rfl trivial ?_
  refine gx_tsw 156 97 122 [144, 156, 147, 124, 150, 156, 156, 138, 156, 156, 135, 126, 132, 156, 128, 141, 156, 156, 130, 120, 156, 156, 156, 156, 122, 153] (by decide +kernel) (fun c1 => ?_) (gx_sw_c (fun c1 => ?_) (gx_sw_c (fun c1 => ?_) (gx_sw_c (fun c1 => ?_) (gx_sw_c (fun c1 => ?_) (gx_sw_c (fun c1 => ?_) (gx_sw_c (fun c1 => ?_) (gx_sw_c (fun c1 => ?_) (gx_sw_c (fun c1 => ?_) (gx_sw_c (fun c1 => ?_) (gx_sw_c (fun c1 => ?_) (gx_sw_c (fun c1 => ?_) (gx_sw_c (fun c1 => ?_) (gx_sw_c (fun c1 => ?_) (gx_sw_c (fun c1 => ?_) (gx_sw_c (fun c1 => ?_) (gx_sw_c (fun c1 => ?_) (gx_sw_c (fun c1 => ?_) (gx_sw_c (fun c1 => ?_) (gx_sw_c (fun c1 => ?_) (gx_sw_c (fun c1 => ?_) (gx_sw_c (fun c1 => ?_) (gx_sw_c (fun c1 => ?_) (gx_sw_c (fun c1 => ?_) (gx_sw_c (fun c1 => ?_) (gx_sw_c (fun c1 => ?_) (gx_sw_c (fun c1 => ?_) gx_sw_n))))))))))))))))))))))))))
  · have c1 : x0 < 97 ∨ 122 < x0 := c1
    refine gx_blk (C := True) (npc := 157) (L' := [(0, .inl x0)]) (st' := [.inl (-1)]) (m' := m) [((156, .iconst (-1), 1, 0, 0, 0, 0), (0, 0, 0))] (by decide +kernel) rfl trivial ?_
    exact gx_reti (by decide +kernel) (h1 c1)
  · have c1 : x0 = 97 := c1
    refine gx_blk (C := True) (npc := 146) (L' := [(0, .inl x0)]) (st' := [.inl 10]) (m' := m) [((144, .bipush 10, 2, 0, 0, 0, 0), (0, 0, 0))] (by decide +kernel) rfl trivial ?_
    exact gx_reti (by decide +kernel) (h2 c1)
  · have c1 : x0 = 98 := c1
    refine gx_blk (C := True) (npc := 157) (L' := [(0, .inl x0)]) (st' := [.inl (-1)]) (m' := m) [((156, .iconst (-1), 1, 0, 0, 0, 0), (0, 0, 0))] (by decide +kernel) rfl trivial ?_
    exact gx_reti (by decide +kernel) (h3 c1)
  · have c1 : x0 = 99 := c1
    refine gx_blk (C := True) (npc := 149) (L' := [(0, .inl x0)]) (st' := [.inl 11]) (m' := m) [((147, .bipush 11, 2, 0, 0, 0, 0), (0, 0, 0))] (by decide +kernel) rfl trivial ?_
    exact gx_reti (by decide +kernel) (h4 c1)
  · have c1 : x0 = 100 := c1
    refine gx_blk (C := True) (npc := 125) (L' := [(0, .inl x0)]) (st' := [.inl 2]) (m' := m) [((124, .iconst 2, 1, 0, 0, 0, 0), (0, 0, 0))] (by decide +kernel) rfl trivial ?_
    exact gx_reti (by decide +kernel) (h5 c1)
  · have c1 : x0 = 101 := c1
    refine gx_blk (C := True) (npc := 152) (L' := [(0, .inl x0)]) (st' := [.inl 12]) (m' := m) [((150, .bipush 12, 2, 0, 0, 0, 0), (0, 0, 0))] (by decide +kernel) rfl trivial ?_
    exact gx_reti (by decide +kernel) (h6 c1)
  · have c1 : x0 = 102 := c1
    refine gx_blk (C := True) (npc := 157) (L' := [(0, .inl x0)]) (st' := [.inl (-1)]) (m' := m) [((156, .iconst (-1), 1, 0, 0, 0, 0), (0, 0, 0))] (by decide +kernel) rfl trivial ?_
    exact gx_reti (by decide +kernel) (h7 c1)
  · have c1 : x0 = 103 := c1
    refine gx_blk (C := True) (npc := 157) (L' := [(0, .inl x0)]) (st' := [.inl (-1)]) (m' := m) [((156, .iconst (-1), 1, 0, 0, 0, 0), (0, 0, 0))] (by decide +kernel) rfl trivial ?_
    exact gx_reti (by decide +kernel) (h8 c1)
  · have c1 : x0 = 104 := c1
    refine gx_blk (C := True) (npc := 140) (L' := [(0, .inl x0)]) (st' := [.inl 8]) (m' := m) [((138, .bipush 8, 2, 0, 0, 0, 0), (0, 0, 0))] (by decide +kernel) rfl trivial ?_
    exact gx_reti (by decide +kernel) (h9 c1)
  · have c1 : x0 = 105 := c1
    refine gx_blk (C := True) (npc := 157) (L' := [(0, .inl x0)]) (st' := [.inl (-1)]) (m' := m) [((156, .iconst (-1), 1, 0, 0, 0, 0), (0, 0, 0))] (by decide +kernel) rfl trivial ?_
    exact gx_reti (by decide +kernel) (h10 c1)
  · have c1 : x0 = 106 := c1
    refine gx_blk (C := True) (npc := 157) (L' := [(0, .inl x0)]) (st' := [.inl (-1)]) (m' := m) [((156, .iconst (-1), 1, 0, 0, 0, 0), (0, 0, 0))] (by decide +kernel) rfl trivial ?_
    exact gx_reti (by decide +kernel) (h11 c1)
  · have c1 : x0 = 107 := c1
    refine gx_blk (C := True) (npc := 137) (L' := [(0, .inl x0)]) (st' := [.inl 7]) (m' := m) [((135, .bipush 7, 2, 0, 0, 0, 0), (0, 0, 0))] (by decide +kernel) rfl trivial ?_
    exact gx_reti (by decide +kernel) (h12 c1)
  · have c1 : x0 = 108 := c1
    refine gx_blk (C := True) (npc := 127) (L' := [(0, .inl x0)]) (st' := [.inl 3]) (m' := m) [((126, .iconst 3, 1, 0, 0, 0, 0), (0, 0, 0))] (by decide +kernel) rfl trivial ?_
    exact gx_reti (by decide +kernel) (h13 c1)
  · have c1 : x0 = 109 := c1
    refine gx_blk (C := True) (npc := 134) (L' := [(0, .inl x0)]) (st' := [.inl 6]) (m' := m) [((132, .bipush 6, 2, 0, 0, 0, 0), (0, 0, 0))] (by decide +kernel) rfl trivial ?_
    exact gx_reti (by decide +kernel) (h14 c1)
  · have c1 : x0 = 110 := c1
    refine gx_blk (C := True) (npc := 157) (L' := [(0, .inl x0)]) (st' := [.inl (-1)]) (m' := m) [((156, .iconst (-1), 1, 0, 0, 0, 0), (0, 0, 0))] (by decide +kernel) rfl trivial ?_
    exact gx_reti (by decide +kernel) (h15 c1)
  · have c1 : x0 = 111 := c1
    refine gx_blk (C := True) (npc := 129) (L' := [(0, .inl x0)]) (st' := [.inl 4]) (m' := m) [((128, .iconst 4, 1, 0, 0, 0, 0), (0, 0, 0))] (by decide +kernel) rfl trivial ?_
    exact gx_reti (by decide +kernel) (h16 c1)
  · have c1 : x0 = 112 := c1
    refine gx_blk (C := True) (npc := 143) (L' := [(0, .inl x0)]) (st' := [.inl 9]) (m' := m) [((141, .bipush 9, 2, 0, 0, 0, 0), (0, 0, 0))] (by decide +kernel) rfl trivial ?_
    exact gx_reti (by decide +kernel) (h17 c1)
  · have c1 : x0 = 113 := c1
    refine gx_blk (C := True) (npc := 157) (L' := [(0, .inl x0)]) (st' := [.inl (-1)]) (m' := m) [((156, .iconst (-1), 1, 0, 0, 0, 0), (0, 0, 0))] (by decide +kernel) rfl trivial ?_
    exact gx_reti (by decide +kernel) (h18 c1)
  · have c1 : x0 = 114 := c1
    refine gx_blk (C := True) (npc := 157) (L' := [(0, .inl x0)]) (st' := [.inl (-1)]) (m' := m) [((156, .iconst (-1), 1, 0, 0, 0, 0), (0, 0, 0))] (by decide +kernel) rfl trivial ?_
    exact gx_reti (by decide +kernel) (h19 c1)
  · have c1 : x0 = 115 := c1
    refine gx_blk (C := True) (npc := 131) (L' := [(0, .inl x0)]) (st' := [.inl 5]) (m' := m) [((130, .iconst 5, 1, 0, 0, 0, 0), (0, 0, 0))] (by decide +kernel) rfl trivial ?_
    exact gx_reti (by decide +kernel) (h20 c1)
  · have c1 : x0 = 116 := c1
    refine gx_blk (C := True) (npc := 121) (L' := [(0, .inl x0)]) (st' := [.inl 0]) (m' := m) [((120, .iconst 0, 1, 0, 0, 0, 0), (0, 0, 0))] (by decide +kernel) rfl trivial ?_
    exact gx_reti (by decide +kernel) (h21 c1)
  · have c1 : x0 = 117 := c1
    refine gx_blk (C := True) (npc := 157) (L' := [(0, .inl x0)]) (st' := [.inl (-1)]) (m' := m) [((156, .iconst (-1), 1, 0, 0, 0, 0), (0, 0, 0))] (by decide +kernel) rfl trivial ?_
    exact gx_reti (by decide +kernel) (h22 c1)
  · have c1 : x0 = 118 := c1
    refine gx_blk (C := True) (npc := 157) (L' := [(0, .inl x0)]) (st' := [.inl (-1)]) (m' := m) [((156, .iconst (-1), 1, 0, 0, 0, 0), (0, 0, 0))] (by decide +kernel) rfl trivial ?_
    exact gx_reti (by decide +kernel) (h23 c1)
  · have c1 : x0 = 119 := c1
    refine gx_blk (C := True) (npc := 157) (L' := [(0, .inl x0)]) (st' := [.inl (-1)]) (m' := m) [((156, .iconst (-1), 1, 0, 0, 0, 0), (0, 0, 0))] (by decide +kernel) rfl trivial ?_
    exact gx_reti (by decide +kernel) (h24 c1)
  · have c1 : x0 = 120 := c1
    refine gx_blk (C := True) (npc := 157) (L' := [(0, .inl x0)]) (st' := [.inl (-1)]) (m' := m) [((156, .iconst (-1), 1, 0, 0, 0, 0), (0, 0, 0))] (by decide +kernel) rfl trivial ?_
    exact gx_reti (by decide +kernel) (h25 c1)
  · have c1 : x0 = 121 := c1
    refine gx_blk (C := True) (npc := 123) (L' := [(0, .inl x0)]) (st' := [.inl 1]) (m' := m) [((122, .iconst 1, 1, 0, 0, 0, 0), (0, 0, 0))] (by decide +kernel) rfl trivial ?_
    exact gx_reti (by decide +kernel) (h26 c1)
  · have c1 : x0 = 122 := c1
    refine gx_blk (C := True) (npc := 155) (L' := [(0, .inl x0)]) (st' := [.inl 13]) (m' := m) [((153, .bipush 13, 2, 0, 0, 0, 0), (0, 0, 0))] (by decide +kernel) rfl trivial ?_
    exact gx_reti (by decide +kernel) (h27 c1)

/-- sumSign from 0 on -/
theorem gt180_0 {xs : List Int32} {w0 : sx_W} {d : Nat} {Q : gx_Q} {m : gx_M} {x0 : Int}
    (h1 : (x0 ≠ 43) → (x0 ≠ 45) → (x0 ≠ 42) → (x0 ≠ 47) → (x0 ≠ 37) → Q (some (-1)) m)
    (h2 : (x0 ≠ 43) → (x0 ≠ 45) → (x0 ≠ 42) → (x0 ≠ 47) → (x0 = 37) → Q (some 6) m)
    (h3 : (x0 ≠ 43) → (x0 ≠ 45) → (x0 ≠ 42) → (x0 = 47) → Q (some 5) m)
    (h4 : (x0 ≠ 43) → (x0 ≠ 45) → (x0 = 42) → Q (some 4) m)
    (h5 : (x0 ≠ 43) → (x0 = 45) → Q (some 3) m)
    (h6 : (x0 = 43) → Q (some 2) m) : gx_to xs w0 d yp_m180 0 [(0, .inl x0)] [] m Q := by
  refine gx_blk (C := True) (npc := 3) (L' := [(0, .inl x0)]) (st' := [.inl 43, .inl x0]) (m' := m) [((0, .iload_n 0, 1, 0, 0, 0, 0), (0, 0, 0)), ((1, .bipush 43, 2, 0, 0, 0, 0), (0, 0, 0))] (by decide +kernel) rfl trivial ?_
  refine gx_cmp .ne 10 (by decide +kernel) (fun c1 => ?_) (fun c1 => ?_)
  · have c1 : x0 ≠ 43 := c1
    refine gx_blk (C := True) (npc := 13) (L' := [(0, .inl x0)]) (st' := [.inl 45, .inl x0]) (m' := m) [((10, .iload_n 0, 1, 0, 0, 0, 0), (0, 0, 0)), ((11, .bipush 45, 2, 0, 0, 0, 0), (0, 0, 0))] (by decide +kernel) rfl trivial ?_
    refine gx_cmp .ne 20 (by decide +kernel) (fun c2 => ?_) (fun c2 => ?_)
    · have c2 : x0 ≠ 45 := c2
      refine gx_blk (C := True) (npc := 23) (L' := [(0, .inl x0)]) (st' := [.inl 42, .inl x0]) (m' := m) [((20, .iload_n 0, 1, 0, 0, 0, 0), (0, 0, 0)), ((21, .bipush 42, 2, 0, 0, 0, 0), (0, 0, 0))] (by decide +kernel) rfl trivial ?_
      refine gx_cmp .ne 30 (by decide +kernel) (fun c3 => ?_) (fun c3 => ?_)
      · have c3 : x0 ≠ 42 := c3
        refine gx_blk (C := True) (npc := 33) (L' := [(0, .inl x0)]) (st' := [.inl 47, .inl x0]) (m' := m) [((30, .iload_n 0, 1, 0, 0, 0, 0), (0, 0, 0)), ((31, .bipush 47, 2, 0, 0, 0, 0), (0, 0, 0))] (by decide +kernel) rfl trivial ?_
        refine gx_cmp .ne 40 (by decide +kernel) (fun c4 => ?_) (fun c4 => ?_)
        · have c4 : x0 ≠ 47 := c4
          refine gx_blk (C := True) (npc := 43) (L' := [(0, .inl x0)]) (st' := [.inl 37, .inl x0]) (m' := m) [((40, .iload_n 0, 1, 0, 0, 0, 0), (0, 0, 0)), ((41, .bipush 37, 2, 0, 0, 0, 0), (0, 0, 0))] (by decide +kernel) rfl trivial ?_
          refine gx_cmp .ne 51 (by decide +kernel) (fun c5 => ?_) (fun c5 => ?_)
          · have c5 : x0 ≠ 37 := c5
            refine gx_blk (C := True) (npc := 52) (L' := [(0, .inl x0)]) (st' := [.inl (-1)]) (m' := m) [((51, .iconst (-1), 1, 0, 0, 0, 0), (0, 0, 0))] (by decide +kernel) rfl trivial ?_
            exact gx_reti (by decide +kernel) (h1 c1 c2 c3 c4 c5)
          · have c5 : x0 = 37 := by have h : ¬ (x0 ≠ 37) := c5; omega
            refine gx_blk (C := True) (npc := 52) (L' := [(0, .inl x0)]) (st' := [.inl 6]) (m' := m) [((46, .bipush 6, 2, 0, 0, 0, 0), (0, 0, 0)), ((48, .goto 4, 3, 0, 0, 0, 0), (0, 0, 0))] (by decide +kernel) rfl trivial ?_
            exact gx_reti (by decide +kernel) (h2 c1 c2 c3 c4 c5)
        · have c4 : x0 = 47 := by have h : ¬ (x0 ≠ 47) := c4; omega
          refine gx_blk (C := True) (npc := 52) (L' := [(0, .inl x0)]) (st' := [.inl 5]) (m' := m) [((36, .iconst 5, 1, 0, 0, 0, 0), (0, 0, 0)), ((37, .goto 15, 3, 0, 0, 0, 0), (0, 0, 0))] (by decide +kernel) rfl trivial ?_
          exact gx_reti (by decide +kernel) (h3 c1 c2 c3 c4)
      · have c3 : x0 = 42 := by have h : ¬ (x0 ≠ 42) := c3; omega
        refine gx_blk (C := True) (npc := 52) (L' := [(0, .inl x0)]) (st' := [.inl 4]) (m' := m) [((26, .iconst 4, 1, 0, 0, 0, 0), (0, 0, 0)), ((27, .goto 25, 3, 0, 0, 0, 0), (0, 0, 0))] (by decide +kernel) rfl trivial ?_
        exact gx_reti (by decide +kernel) (h4 c1 c2 c3)
    · have c2 : x0 = 45 := by have h : ¬ (x0 ≠ 45) := c2; omega
      refine gx_blk (C := True) (npc := 52) (L' := [(0, .inl x0)]) (st' := [.inl 3]) (m' := m) [((16, .iconst 3, 1, 0, 0, 0, 0), (0, 0, 0)), ((17, .goto 35, 3, 0, 0, 0, 0), (0, 0, 0))] (by decide +kernel) rfl trivial ?_
      exact gx_reti (by decide +kernel) (h5 c1 c2)
  · have c1 : x0 = 43 := by have h : ¬ (x0 ≠ 43) := c1; omega
    refine gx_blk (C := True) (npc := 52) (L' := [(0, .inl x0)]) (st' := [.inl 2]) (m' := m) [((6, .iconst 2, 1, 0, 0, 0, 0), (0, 0, 0)), ((7, .goto 45, 3, 0, 0, 0, 0), (0, 0, 0))] (by decide +kernel) rfl trivial ?_
    exact gx_reti (by decide +kernel) (h6 c1)

/-- closesSums from 0 on -/
theorem gt181_0 {xs : List Int32} {w0 : sx_W} {d : Nat} {Q : gx_Q} {m : gx_M} {x1 : Int}
    (h1 : gx_to xs w0 d yp_m182 0 [(0, .inr 86)] [] m (fun r m' => gx_to xs w0 (d + 1) yp_m181 4 [(0, .inr 86), (1, .inl x1)] (gx_rs r ++ []) m' Q)) : gx_to xs w0 (d + 1) yp_m181 0 [(0, .inr 86), (1, .inl x1)] [] m Q := by
  refine gx_blk (C := True) (npc := 1) (L' := [(0, .inr 86), (1, .inl x1)]) (st' := [.inr 86]) (m' := m) [((0, .aload_n 0, 1, 0, 0, 0, 0), (0, 0, 0))] (by decide +kernel) rfl trivial ?_
  exact gx_callv (E := (1, .invokevirtual 165, 3, 182, 0, 6100, 0)) (M' := yp_m182) (c := 86) [] [] rfl (by decide +kernel) rfl ⟨rfl, rfl⟩ rfl rfl (Nat.le_of_ble_eq_true rfl) (Nat.le_of_ble_eq_true rfl) (by decide +kernel) (gx_to_mono h1 (fun r m' h' => gx_to_pick [0, 1] h'))

/-- closesSums from 4 on -/
theorem gt181_4 {xs : List Int32} {w0 : sx_W} {d : Nat} {Q : gx_Q} {m : gx_M} {x1 s0 : Int}
    (h1 : (s0 < 4) → (x1 = 0) → Q none m)
    (h2 : (s0 < 4) → (x1 ≠ 0) → gx_to xs w0 d yp_m182 0 [(0, .inr 86)] [] m (fun r m' => gx_to xs w0 (d + 1) yp_m181 25 [(0, .inr 86), (1, .inl x1)] (gx_rs r ++ []) m' Q))
    (h3 : (4 ≤ s0) → gx_to xs w0 d yp_m182 0 [(0, .inr 86)] [] m (fun r m' => gx_to xs w0 (d + 1) yp_m181 12 [(0, .inr 86), (1, .inl x1)] (gx_rs r ++ []) m' Q)) : gx_to xs w0 (d + 1) yp_m181 4 [(0, .inr 86), (1, .inl x1)] [.inl s0] m Q := by
  refine gx_blk (C := True) (npc := 5) (L' := [(0, .inr 86), (1, .inl x1)]) (st' := [.inl 4, .inl s0]) (m' := m) [((4, .iconst 4, 1, 0, 0, 0, 0), (0, 0, 0))] (by decide +kernel) rfl trivial ?_
  refine gx_cmp .lt 17 (by decide +kernel) (fun c1 => ?_) (fun c1 => ?_)
  · have c1 : s0 < 4 := c1
    refine gx_blk (C := True) (npc := 18) (L' := [(0, .inr 86), (1, .inl x1)]) (st' := [.inl x1]) (m' := m) [((17, .iload_n 1, 1, 0, 0, 0, 0), (0, 0, 0))] (by decide +kernel) rfl trivial ?_
    refine gx_if .eq 59 (by decide +kernel) (fun c2 => ?_) (fun c2 => ?_)
    · have c2 : x1 = 0 := c2
      exact gx_ret0 (by decide +kernel) (h1 c1 c2)
    · have c2 : x1 ≠ 0 := c2
      refine gx_blk (C := True) (npc := 22) (L' := [(0, .inr 86), (1, .inl x1)]) (st' := [.inr 86]) (m' := m) [((21, .aload_n 0, 1, 0, 0, 0, 0), (0, 0, 0))] (by decide +kernel) rfl trivial ?_
      exact gx_callv (E := (22, .invokevirtual 165, 3, 182, 0, 6100, 0)) (M' := yp_m182) (c := 86) [] [] rfl (by decide +kernel) rfl ⟨rfl, rfl⟩ rfl rfl (Nat.le_of_ble_eq_true rfl) (Nat.le_of_ble_eq_true rfl) (by decide +kernel) (gx_to_mono (h2 c1 c2) (fun r m' h' => gx_to_pick [0, 1] h'))
  · have c1 : 4 ≤ s0 := by have h : ¬ (s0 < 4) := c1; omega
    refine gx_blk (C := True) (npc := 9) (L' := [(0, .inr 86), (1, .inl x1)]) (st' := [.inr 86]) (m' := m) [((8, .aload_n 0, 1, 0, 0, 0, 0), (0, 0, 0))] (by decide +kernel) rfl trivial ?_
    exact gx_callv (E := (9, .invokevirtual 165, 3, 182, 0, 6100, 0)) (M' := yp_m182) (c := 86) [] [] rfl (by decide +kernel) rfl ⟨rfl, rfl⟩ rfl rfl (Nat.le_of_ble_eq_true rfl) (Nat.le_of_ble_eq_true rfl) (by decide +kernel) (gx_to_mono (h3 c1) (fun r m' h' => gx_to_pick [0, 1] h'))

/-- closesSums from 12 on -/
theorem gt181_12 {xs : List Int32} {w0 : sx_W} {d : Nat} {Q : gx_Q} {m : gx_M} {x1 s0 : Int}
    (h1 : (s0 ≤ 6) → gx_to xs w0 d yp_m182 0 [(0, .inr 86)] [] m (fun r m' => gx_to xs w0 (d + 1) yp_m181 42 [(0, .inr 86), (1, .inl x1)] (gx_rs r ++ [.inr 86]) m' Q))
    (h2 : (6 < s0) → (x1 = 0) → Q none m)
    (h3 : (6 < s0) → (x1 ≠ 0) → gx_to xs w0 d yp_m182 0 [(0, .inr 86)] [] m (fun r m' => gx_to xs w0 (d + 1) yp_m181 25 [(0, .inr 86), (1, .inl x1)] (gx_rs r ++ []) m' Q)) : gx_to xs w0 (d + 1) yp_m181 12 [(0, .inr 86), (1, .inl x1)] [.inl s0] m Q := by
  refine gx_blk (C := True) (npc := 14) (L' := [(0, .inr 86), (1, .inl x1)]) (st' := [.inl 6, .inl s0]) (m' := m) [((12, .bipush 6, 2, 0, 0, 0, 0), (0, 0, 0))] (by decide +kernel) rfl trivial ?_
  refine gx_cmp .le 37 (by decide +kernel) (fun c1 => ?_) (fun c1 => ?_)
  · have c1 : s0 ≤ 6 := c1
    refine gx_blk (C := True) (npc := 39) (L' := [(0, .inr 86), (1, .inl x1)]) (st' := [.inr 86, .inr 86]) (m' := m) [((37, .aload_n 0, 1, 0, 0, 0, 0), (0, 0, 0)), ((38, .aload_n 0, 1, 0, 0, 0, 0), (0, 0, 0))] (by decide +kernel) rfl trivial ?_
    exact gx_callv (E := (39, .invokevirtual 165, 3, 182, 0, 6100, 0)) (M' := yp_m182) (c := 86) [] [.inr 86] rfl (by decide +kernel) rfl ⟨rfl, rfl⟩ rfl rfl (Nat.le_of_ble_eq_true rfl) (Nat.le_of_ble_eq_true rfl) (by decide +kernel) (gx_to_mono (h1 c1) (fun r m' h' => gx_to_pick [0, 1] h'))
  · have c1 : 6 < s0 := by have h : ¬ (s0 ≤ 6) := c1; omega
    refine gx_blk (C := True) (npc := 18) (L' := [(0, .inr 86), (1, .inl x1)]) (st' := [.inl x1]) (m' := m) [((17, .iload_n 1, 1, 0, 0, 0, 0), (0, 0, 0))] (by decide +kernel) rfl trivial ?_
    refine gx_if .eq 59 (by decide +kernel) (fun c2 => ?_) (fun c2 => ?_)
    · have c2 : x1 = 0 := c2
      exact gx_ret0 (by decide +kernel) (h2 c1 c2)
    · have c2 : x1 ≠ 0 := c2
      refine gx_blk (C := True) (npc := 22) (L' := [(0, .inr 86), (1, .inl x1)]) (st' := [.inr 86]) (m' := m) [((21, .aload_n 0, 1, 0, 0, 0, 0), (0, 0, 0))] (by decide +kernel) rfl trivial ?_
      exact gx_callv (E := (22, .invokevirtual 165, 3, 182, 0, 6100, 0)) (M' := yp_m182) (c := 86) [] [] rfl (by decide +kernel) rfl ⟨rfl, rfl⟩ rfl rfl (Nat.le_of_ble_eq_true rfl) (Nat.le_of_ble_eq_true rfl) (by decide +kernel) (gx_to_mono (h3 c1 c2) (fun r m' h' => gx_to_pick [0, 1] h'))

/-- closesSums from 25 on -/
theorem gt181_25 {xs : List Int32} {w0 : sx_W} {d : Nat} {Q : gx_Q} {m : gx_M} {x1 s0 : Int}
    (h1 : (s0 = 2) → gx_to xs w0 d yp_m182 0 [(0, .inr 86)] [] m (fun r m' => gx_to xs w0 (d + 1) yp_m181 42 [(0, .inr 86), (1, .inl x1)] (gx_rs r ++ [.inr 86]) m' Q))
    (h2 : (s0 ≠ 2) → gx_to xs w0 d yp_m182 0 [(0, .inr 86)] [] m (fun r m' => gx_to xs w0 (d + 1) yp_m181 33 [(0, .inr 86), (1, .inl x1)] (gx_rs r ++ []) m' Q)) : gx_to xs w0 (d + 1) yp_m181 25 [(0, .inr 86), (1, .inl x1)] [.inl s0] m Q := by
  refine gx_blk (C := True) (npc := 26) (L' := [(0, .inr 86), (1, .inl x1)]) (st' := [.inl 2, .inl s0]) (m' := m) [((25, .iconst 2, 1, 0, 0, 0, 0), (0, 0, 0))] (by decide +kernel) rfl trivial ?_
  refine gx_cmp .eq 37 (by decide +kernel) (fun c1 => ?_) (fun c1 => ?_)
  · have c1 : s0 = 2 := c1
    refine gx_blk (C := True) (npc := 39) (L' := [(0, .inr 86), (1, .inl x1)]) (st' := [.inr 86, .inr 86]) (m' := m) [((37, .aload_n 0, 1, 0, 0, 0, 0), (0, 0, 0)), ((38, .aload_n 0, 1, 0, 0, 0, 0), (0, 0, 0))] (by decide +kernel) rfl trivial ?_
    exact gx_callv (E := (39, .invokevirtual 165, 3, 182, 0, 6100, 0)) (M' := yp_m182) (c := 86) [] [.inr 86] rfl (by decide +kernel) rfl ⟨rfl, rfl⟩ rfl rfl (Nat.le_of_ble_eq_true rfl) (Nat.le_of_ble_eq_true rfl) (by decide +kernel) (gx_to_mono (h1 c1) (fun r m' h' => gx_to_pick [0, 1] h'))
  · have c1 : s0 ≠ 2 := c1
    refine gx_blk (C := True) (npc := 30) (L' := [(0, .inr 86), (1, .inl x1)]) (st' := [.inr 86]) (m' := m) [((29, .aload_n 0, 1, 0, 0, 0, 0), (0, 0, 0))] (by decide +kernel) rfl trivial ?_
    exact gx_callv (E := (30, .invokevirtual 165, 3, 182, 0, 6100, 0)) (M' := yp_m182) (c := 86) [] [] rfl (by decide +kernel) rfl ⟨rfl, rfl⟩ rfl rfl (Nat.le_of_ble_eq_true rfl) (Nat.le_of_ble_eq_true rfl) (by decide +kernel) (gx_to_mono (h2 c1) (fun r m' h' => gx_to_pick [0, 1] h'))

/-- closesSums from 33 on -/
theorem gt181_33 {xs : List Int32} {w0 : sx_W} {d : Nat} {Q : gx_Q} {m : gx_M} {x1 s0 : Int}
    (h1 : (s0 ≠ 3) → Q none m)
    (h2 : (s0 = 3) → gx_to xs w0 d yp_m182 0 [(0, .inr 86)] [] m (fun r m' => gx_to xs w0 (d + 1) yp_m181 42 [(0, .inr 86), (1, .inl x1)] (gx_rs r ++ [.inr 86]) m' Q)) : gx_to xs w0 (d + 1) yp_m181 33 [(0, .inr 86), (1, .inl x1)] [.inl s0] m Q := by
  refine gx_blk (C := True) (npc := 34) (L' := [(0, .inr 86), (1, .inl x1)]) (st' := [.inl 3, .inl s0]) (m' := m) [((33, .iconst 3, 1, 0, 0, 0, 0), (0, 0, 0))] (by decide +kernel) rfl trivial ?_
  refine gx_cmp .ne 59 (by decide +kernel) (fun c1 => ?_) (fun c1 => ?_)
  · have c1 : s0 ≠ 3 := c1
    exact gx_ret0 (by decide +kernel) (h1 c1)
  · have c1 : s0 = 3 := by have h : ¬ (s0 ≠ 3) := c1; omega
    refine gx_blk (C := True) (npc := 39) (L' := [(0, .inr 86), (1, .inl x1)]) (st' := [.inr 86, .inr 86]) (m' := m) [((37, .aload_n 0, 1, 0, 0, 0, 0), (0, 0, 0)), ((38, .aload_n 0, 1, 0, 0, 0, 0), (0, 0, 0))] (by decide +kernel) rfl trivial ?_
    exact gx_callv (E := (39, .invokevirtual 165, 3, 182, 0, 6100, 0)) (M' := yp_m182) (c := 86) [] [.inr 86] rfl (by decide +kernel) rfl ⟨rfl, rfl⟩ rfl rfl (Nat.le_of_ble_eq_true rfl) (Nat.le_of_ble_eq_true rfl) (by decide +kernel) (gx_to_mono (h2 c1) (fun r m' h' => gx_to_pick [0, 1] h'))

/-- closesSums from 42 on -/
theorem gt181_42 {xs : List Int32} {w0 : sx_W} {d : Nat} {Q : gx_Q} {m : gx_M} {x1 s1 : Int}
    (h1 : gx_to xs w0 d yp_m178 0 [(0, .inr 86), (1, .inl s1), (2, .inl 0)] [] m (fun r m' => gx_to xs w0 (d + 1) yp_m181 46 [(0, .inr 86), (1, .inl x1)] (gx_rs r ++ []) m' Q)) : gx_to xs w0 (d + 1) yp_m181 42 [(0, .inr 86), (1, .inl x1)] [.inl s1, .inr 86] m Q := by
  refine gx_blk (C := True) (npc := 43) (L' := [(0, .inr 86), (1, .inl x1)]) (st' := [.inl 0, .inl s1, .inr 86]) (m' := m) [((42, .iconst 0, 1, 0, 0, 0, 0), (0, 0, 0))] (by decide +kernel) rfl trivial ?_
  exact gx_callv (E := (43, .invokevirtual 168, 3, 178, 0, 6086, 0)) (M' := yp_m178) (c := 86) [.inl s1, .inl 0] [] rfl (by decide +kernel) rfl ⟨rfl, rfl⟩ rfl rfl (Nat.le_of_ble_eq_true rfl) (Nat.le_of_ble_eq_true rfl) (by decide +kernel) (gx_to_mono h1 (fun r m' h' => gx_to_pick [0, 1] h'))

/-- closesSums from 46 on -/
theorem gt181_46 {xs : List Int32} {w0 : sx_W} {d : Nat} {Q : gx_Q} {m : gx_M} {x1 : Int} (g0 : 0 ≤ (m 86 11) ∧ (m 86 11) ≤ 250)
    (h1 : gx_to xs w0 d yp_m181 0 [(0, .inr 86), (1, .inl x1)] [] (gx_u m 86 11 ((m 86 11) - 1)) Q) : gx_to xs w0 d yp_m181 46 [(0, .inr 86), (1, .inl x1)] [] m Q := by
  have e1 : gx_w ((m 86 11) - 1) = (m 86 11) - 1 := gx_w_id (by omega) (by omega)
  refine gx_blk (C := True) (npc := 0) (L' := [(0, .inr 86), (1, .inl x1)]) (st' := []) (m' := (gx_u m 86 11 (gx_w ((m 86 11) - 1)))) [((46, .aload_n 0, 1, 0, 0, 0, 0), (0, 0, 0)), ((47, .aload_n 0, 1, 0, 0, 0, 0), (0, 0, 0)), ((48, .getfield 162, 3, 10, 11, 5124, 0), (0, 86, 0)), ((51, .iconst 1, 1, 0, 0, 0, 0), (0, 0, 0)), ((52, .isub, 1, 0, 0, 0, 0), (0, 0, 0)), ((53, .putfield 162, 3, 10, 11, 5124, 0), (0, 86, 0)), ((56, .goto (-56), 3, 0, 0, 0, 0), (0, 0, 0))] (by decide +kernel) rfl trivial ?_
  rw [e1]
  exact gx_to_pick [0, 1] h1

/-- waitTop from 0 on -/
theorem gt182_0 {xs : List Int32} {w0 : sx_W} {d : Nat} {Q : gx_Q} {m : gx_M} (g0 : 0 ≤ (m 86 11) ∧ (m 86 11) ≤ 250)
    (h1 : ((m 86 11) ≠ 0) → Q (some (gx_w (Int.tdiv (m 92 ((m 86 11) - 1).toNat) 1048576))) m)
    (h2 : ((m 86 11) = 0) → Q (some (-1)) m) : gx_to xs w0 d yp_m182 0 [(0, .inr 86)] [] m Q := by
  refine gx_blk (C := True) (npc := 4) (L' := [(0, .inr 86)]) (st' := [.inl (m 86 11)]) (m' := m) [((0, .aload_n 0, 1, 0, 0, 0, 0), (0, 0, 0)), ((1, .getfield 162, 3, 10, 11, 5124, 0), (0, 86, 0))] (by decide +kernel) rfl trivial ?_
  refine gx_if .ne 11 (by decide +kernel) (fun c1 => ?_) (fun c1 => ?_)
  · have c1 : (m 86 11) ≠ 0 := c1
    have e1 : gx_w ((m 86 11) - 1) = (m 86 11) - 1 := gx_w_id (by omega) (by omega)
    refine gx_blk (C := (((True ∧ (0 ≤ (gx_w ((m 86 11) - 1)) ∧ (gx_w ((m 86 11) - 1)) < 260))) ∧ (1048576 ≠ 0))) (npc := 25) (L' := [(0, .inr 86)]) (st' := [.inl (gx_w (Int.tdiv (m 92 (gx_w ((m 86 11) - 1)).toNat) 1048576))]) (m' := m) [((11, .aload_n 0, 1, 0, 0, 0, 0), (0, 0, 0)), ((12, .getfield 26, 3, 10, 15, 5128, 0), (1, 86, 92)), ((15, .aload_n 0, 1, 0, 0, 0, 0), (0, 0, 0)), ((16, .getfield 162, 3, 10, 11, 5124, 0), (0, 86, 0)), ((19, .iconst 1, 1, 0, 0, 0, 0), (0, 0, 0)), ((20, .isub, 1, 0, 0, 0, 0), (0, 0, 0)), ((21, .iaload, 1, 0, 0, 0, 0), (0, 92, 260)), ((22, .ldc 158, 2, 0, 0, 6077, 1048576), (0, 0, 0)), ((24, .idiv, 1, 0, 0, 0, 0), (0, 0, 0))] (by decide +kernel) rfl ⟨⟨trivial, (by rw [e1]; omega)⟩, (by omega)⟩ ?_
    rw [e1]
    exact gx_reti (by decide +kernel) (h1 c1)
  · have c1 : (m 86 11) = 0 := by have h : ¬ ((m 86 11) ≠ 0) := c1; omega
    refine gx_blk (C := True) (npc := 25) (L' := [(0, .inr 86)]) (st' := [.inl (-1)]) (m' := m) [((7, .iconst (-1), 1, 0, 0, 0, 0), (0, 0, 0)), ((8, .goto 17, 3, 0, 0, 0, 0), (0, 0, 0))] (by decide +kernel) rfl trivial ?_
    exact gx_reti (by decide +kernel) (h2 c1)

/-- hasOpenSum from 0 on -/
theorem gt183_0 {xs : List Int32} {w0 : sx_W} {d : Nat} {Q : gx_Q} {m : gx_M} {x1 : Int} (r_x1 : 0 ≤ x1 ∧ x1 ≤ 250)
    (h1 : gx_to xs w0 d yp_m183 2 [(0, .inr 86), (2, .inl x1)] [] m Q) : gx_to xs w0 d yp_m183 0 [(0, .inr 86), (1, .inl x1)] [] m Q := by
  refine gx_blk (C := True) (npc := 2) (L' := [(0, .inr 86), (1, .inl x1), (2, .inl x1)]) (st' := []) (m' := m) [((0, .iload_n 1, 1, 0, 0, 0, 0), (0, 0, 0)), ((1, .istore_n 2, 1, 0, 0, 0, 0), (0, 0, 0))] (by decide +kernel) rfl trivial ?_
  exact gx_to_pick [0, 2] h1

/-- hasOpenSum from 2 on -/
theorem gt183_2 {xs : List Int32} {w0 : sx_W} {d : Nat} {Q : gx_Q} {m : gx_M} {x2 : Int} (r_x2 : 0 ≤ x2 ∧ x2 ≤ 250) (g1 : 0 ≤ (m 86 11) ∧ (m 86 11) ≤ 250)
    (h1 : ((m 86 11) ≤ x2) → Q (some 0) m)
    (h2 : (x2 < (m 86 11)) → ((gx_w (Int.tdiv (m 92 (x2).toNat) 1048576)) ≠ 14) → gx_to xs w0 d yp_m183 2 [(0, .inr 86), (2, .inl (x2 + 1))] [] m Q)
    (h3 : (x2 < (m 86 11)) → ((gx_w (Int.tdiv (m 92 (x2).toNat) 1048576)) = 14) → Q (some 1) m) : gx_to xs w0 d yp_m183 2 [(0, .inr 86), (2, .inl x2)] [] m Q := by
  refine gx_blk (C := True) (npc := 7) (L' := [(0, .inr 86), (2, .inl x2)]) (st' := [.inl (m 86 11), .inl x2]) (m' := m) [((2, .iload_n 2, 1, 0, 0, 0, 0), (0, 0, 0)), ((3, .aload_n 0, 1, 0, 0, 0, 0), (0, 0, 0)), ((4, .getfield 162, 3, 10, 11, 5124, 0), (0, 86, 0))] (by decide +kernel) rfl trivial ?_
  refine gx_cmp .ge 32 (by decide +kernel) (fun c1 => ?_) (fun c1 => ?_)
  · have c1 : (m 86 11) ≤ x2 := c1
    refine gx_blk (C := True) (npc := 33) (L' := [(0, .inr 86), (2, .inl x2)]) (st' := [.inl 0]) (m' := m) [((32, .iconst 0, 1, 0, 0, 0, 0), (0, 0, 0))] (by decide +kernel) rfl trivial ?_
    exact gx_retb (by decide +kernel) (by omega) (h1 c1)
  · have c1 : x2 < (m 86 11) := by have h : ¬ ((m 86 11) ≤ x2) := c1; omega
    refine gx_blk (C := (((True ∧ (0 ≤ x2 ∧ x2 < 260))) ∧ (1048576 ≠ 0))) (npc := 21) (L' := [(0, .inr 86), (2, .inl x2)]) (st' := [.inl 14, .inl (gx_w (Int.tdiv (m 92 (x2).toNat) 1048576))]) (m' := m) [((10, .aload_n 0, 1, 0, 0, 0, 0), (0, 0, 0)), ((11, .getfield 26, 3, 10, 15, 5128, 0), (1, 86, 92)), ((14, .iload_n 2, 1, 0, 0, 0, 0), (0, 0, 0)), ((15, .iaload, 1, 0, 0, 0, 0), (0, 92, 260)), ((16, .ldc 158, 2, 0, 0, 6077, 1048576), (0, 0, 0)), ((18, .idiv, 1, 0, 0, 0, 0), (0, 0, 0)), ((19, .bipush 14, 2, 0, 0, 0, 0), (0, 0, 0))] (by decide +kernel) rfl ⟨⟨trivial, (by omega)⟩, (by omega)⟩ ?_
    refine gx_cmp .ne 26 (by decide +kernel) (fun c2 => ?_) (fun c2 => ?_)
    · have c2 : (gx_w (Int.tdiv (m 92 (x2).toNat) 1048576)) ≠ 14 := c2
      have e1 : gx_w (x2 + 1) = x2 + 1 := gx_w_id (by omega) (by omega)
      refine gx_blk (C := True) (npc := 2) (L' := [(0, .inr 86), (2, .inl (gx_w (x2 + 1)))]) (st' := []) (m' := m) [((26, .iinc 2 1, 3, 0, 0, 0, 0), (0, 0, 0)), ((29, .goto (-27), 3, 0, 0, 0, 0), (0, 0, 0))] (by decide +kernel) rfl trivial ?_
      rw [e1]
      exact gx_to_pick [0, 2] (h2 c1 c2)
    · have c2 : (gx_w (Int.tdiv (m 92 (x2).toNat) 1048576)) = 14 := by have h : ¬ ((gx_w (Int.tdiv (m 92 (x2).toNat) 1048576)) ≠ 14) := c2; omega
      refine gx_blk (C := True) (npc := 25) (L' := [(0, .inr 86), (2, .inl x2)]) (st' := [.inl 1]) (m' := m) [((24, .iconst 1, 1, 0, 0, 0, 0), (0, 0, 0))] (by decide +kernel) rfl trivial ?_
      exact gx_retb (by decide +kernel) (by omega) (h3 c1 c2)

/-- endsPiece from 0 on -/
theorem gt186_0 {xs : List Int32} {w0 : sx_W} {d : Nat} {Q : gx_Q} {m : gx_M}
    (h1 : gx_to xs w0 d yp_m182 0 [(0, .inr 86)] [] m (fun r m' => gx_to xs w0 (d + 1) yp_m186 4 [(0, .inr 86)] (gx_rs r ++ []) m' Q)) : gx_to xs w0 (d + 1) yp_m186 0 [(0, .inr 86)] [] m Q := by
  refine gx_blk (C := True) (npc := 1) (L' := [(0, .inr 86)]) (st' := [.inr 86]) (m' := m) [((0, .aload_n 0, 1, 0, 0, 0, 0), (0, 0, 0))] (by decide +kernel) rfl trivial ?_
  exact gx_callv (E := (1, .invokevirtual 165, 3, 182, 0, 6100, 0)) (M' := yp_m182) (c := 86) [] [] rfl (by decide +kernel) rfl ⟨rfl, rfl⟩ rfl rfl (Nat.le_of_ble_eq_true rfl) (Nat.le_of_ble_eq_true rfl) (by decide +kernel) (gx_to_mono h1 (fun r m' h' => gx_to_pick [0] h'))

/-- endsPiece from 4 on -/
theorem gt186_4 {xs : List Int32} {w0 : sx_W} {d : Nat} {Q : gx_Q} {m : gx_M} {s0 : Int}
    (h1 : (s0 ≠ 10) → Q none m)
    (h2 : (s0 = 10) → gx_to xs w0 d yp_m178 0 [(0, .inr 86), (1, .inl 10), (2, .inl 0)] [] m (fun r m' => gx_to xs w0 (d + 1) yp_m186 16 [(0, .inr 86)] (gx_rs r ++ []) m' Q)) : gx_to xs w0 (d + 1) yp_m186 4 [(0, .inr 86)] [.inl s0] m Q := by
  refine gx_blk (C := True) (npc := 6) (L' := [(0, .inr 86)]) (st' := [.inl 10, .inl s0]) (m' := m) [((4, .bipush 10, 2, 0, 0, 0, 0), (0, 0, 0))] (by decide +kernel) rfl trivial ?_
  refine gx_cmp .ne 39 (by decide +kernel) (fun c1 => ?_) (fun c1 => ?_)
  · have c1 : s0 ≠ 10 := c1
    exact gx_ret0 (by decide +kernel) (h1 c1)
  · have c1 : s0 = 10 := by have h : ¬ (s0 ≠ 10) := c1; omega
    refine gx_blk (C := True) (npc := 13) (L' := [(0, .inr 86)]) (st' := [.inl 0, .inl 10, .inr 86]) (m' := m) [((9, .aload_n 0, 1, 0, 0, 0, 0), (0, 0, 0)), ((10, .bipush 10, 2, 0, 0, 0, 0), (0, 0, 0)), ((12, .iconst 0, 1, 0, 0, 0, 0), (0, 0, 0))] (by decide +kernel) rfl trivial ?_
    exact gx_callv (E := (13, .invokevirtual 168, 3, 178, 0, 6086, 0)) (M' := yp_m178) (c := 86) [.inl 10, .inl 0] [] rfl (by decide +kernel) rfl ⟨rfl, rfl⟩ rfl rfl (Nat.le_of_ble_eq_true rfl) (Nat.le_of_ble_eq_true rfl) (by decide +kernel) (gx_to_mono (h2 c1) (fun r m' h' => gx_to_pick [0] h'))

/-- endsPiece from 16 on -/
theorem gt186_16 {xs : List Int32} {w0 : sx_W} {d : Nat} {Q : gx_Q} {m : gx_M} (g0 : 0 ≤ (m 86 11) ∧ (m 86 11) ≤ 250)
    (h1 : gx_to xs w0 d yp_m186 0 [(0, .inr 86)] [] (gx_u (gx_u m 86 11 ((m 86 11) - 1)) 86 9 (gx_w ((m 86 9) - 1))) Q) : gx_to xs w0 d yp_m186 16 [(0, .inr 86)] [] m Q := by
  have e1 : gx_w ((m 86 11) - 1) = (m 86 11) - 1 := gx_w_id (by omega) (by omega)
  refine gx_blk (C := True) (npc := 0) (L' := [(0, .inr 86)]) (st' := []) (m' := (gx_u (gx_u m 86 11 (gx_w ((m 86 11) - 1))) 86 9 (gx_w ((m 86 9) - 1)))) [((16, .aload_n 0, 1, 0, 0, 0, 0), (0, 0, 0)), ((17, .aload_n 0, 1, 0, 0, 0, 0), (0, 0, 0)), ((18, .getfield 162, 3, 10, 11, 5124, 0), (0, 86, 0)), ((21, .iconst 1, 1, 0, 0, 0, 0), (0, 0, 0)), ((22, .isub, 1, 0, 0, 0, 0), (0, 0, 0)), ((23, .putfield 162, 3, 10, 11, 5124, 0), (0, 86, 0)), ((26, .aload_n 0, 1, 0, 0, 0, 0), (0, 0, 0)), ((27, .aload_n 0, 1, 0, 0, 0, 0), (0, 0, 0)), ((28, .getfield 159, 3, 10, 9, 5122, 0), (0, 86, 0)), ((31, .iconst 1, 1, 0, 0, 0, 0), (0, 0, 0)), ((32, .isub, 1, 0, 0, 0, 0), (0, 0, 0)), ((33, .putfield 159, 3, 10, 9, 5122, 0), (0, 86, 0)), ((36, .goto (-36), 3, 0, 0, 0, 0), (0, 0, 0))] (by decide +kernel) rfl trivial ?_
  rw [e1]
  exact gx_to_pick [0] h1

/-- lands from 0 on -/
theorem gt187_0 {xs : List Int32} {w0 : sx_W} {d : Nat} {Q : gx_Q} {m : gx_M} {x1 : Int}
    (h1 : gx_to xs w0 d yp_m182 0 [(0, .inr 86)] [] m (fun r m' => gx_to xs w0 (d + 1) yp_m187 4 [(0, .inr 86), (1, .inl x1)] (gx_rs r ++ []) m' Q)) : gx_to xs w0 (d + 1) yp_m187 0 [(0, .inr 86), (1, .inl x1)] [] m Q := by
  refine gx_blk (C := True) (npc := 1) (L' := [(0, .inr 86), (1, .inl x1)]) (st' := [.inr 86]) (m' := m) [((0, .aload_n 0, 1, 0, 0, 0, 0), (0, 0, 0))] (by decide +kernel) rfl trivial ?_
  exact gx_callv (E := (1, .invokevirtual 165, 3, 182, 0, 6100, 0)) (M' := yp_m182) (c := 86) [] [] rfl (by decide +kernel) rfl ⟨rfl, rfl⟩ rfl rfl (Nat.le_of_ble_eq_true rfl) (Nat.le_of_ble_eq_true rfl) (by decide +kernel) (gx_to_mono h1 (fun r m' h' => gx_to_pick [0, 1] h'))

/-- lands from 4 on -/
theorem gt187_4 {xs : List Int32} {w0 : sx_W} {d : Nat} {Q : gx_Q} {m : gx_M} {x1 s0 : Int} (g0 : 0 ≤ (m 86 10) ∧ (m 86 10) ≤ 250) (g1 : 0 ≤ (m 86 11) ∧ (m 86 11) ≤ 250)
    (k1 : (s0 = 11) → 0 ≤ ((m 86 11) - 1) ∧ ((m 86 11) - 1) < 260)
    (k2 : (s0 = 11) → 0 ≤ (Int.tmod (m 92 ((m 86 11) - 1).toNat) 1048576) ∧ (Int.tmod (m 92 ((m 86 11) - 1).toNat) 1048576) < 260)
    (k3 : (s0 = 11) → 0 ≤ (Int.tmod (m 92 ((m 86 11) - 1).toNat) 1048576) ∧ (Int.tmod (m 92 ((m 86 11) - 1).toNat) 1048576) < 260)
    (h1 : (s0 = 11) → gx_to xs w0 (d + 1) yp_m187 0 [(0, .inr 86), (1, .inl x1)] [] (gx_u (gx_u m 91 (Int.tmod (m 92 ((m 86 11) - 1).toNat) 1048576).toNat (gx_w ((gx_w (1048576 * (gx_w (Int.tdiv (m 91 (Int.tmod (m 92 ((m 86 11) - 1).toNat) 1048576).toNat) 1048576)))) + (m 86 10)))) 86 11 ((m 86 11) - 1)) Q)
    (h2 : (s0 ≠ 11) → (x1 = 0) → Q none m)
    (h3 : (s0 ≠ 11) → (x1 ≠ 0) → gx_to xs w0 d yp_m182 0 [(0, .inr 86)] [] m (fun r m' => gx_to xs w0 (d + 1) yp_m187 17 [(0, .inr 86), (1, .inl x1)] (gx_rs r ++ []) m' Q)) : gx_to xs w0 (d + 1) yp_m187 4 [(0, .inr 86), (1, .inl x1)] [.inl s0] m Q := by
  refine gx_blk (C := True) (npc := 6) (L' := [(0, .inr 86), (1, .inl x1)]) (st' := [.inl 11, .inl s0]) (m' := m) [((4, .bipush 11, 2, 0, 0, 0, 0), (0, 0, 0))] (by decide +kernel) rfl trivial ?_
  refine gx_cmp .eq 22 (by decide +kernel) (fun c1 => ?_) (fun c1 => ?_)
  · have c1 : s0 = 11 := c1
    have e1 : gx_w ((m 86 11) - 1) = (m 86 11) - 1 := gx_w_id (by omega) (by omega)
    have e2 : gx_w ((m 86 11) - 1) = (m 86 11) - 1 := gx_w_id (by omega) (by omega)
    refine gx_blk (C := (((((((((True ∧ (0 ≤ (gx_w ((m 86 11) - 1)) ∧ (gx_w ((m 86 11) - 1)) < 260))) ∧ (1048576 ≠ 0))) ∧ (0 ≤ (Int.tmod (m 92 (gx_w ((m 86 11) - 1)).toNat) 1048576) ∧ (Int.tmod (m 92 (gx_w ((m 86 11) - 1)).toNat) 1048576) < 260))) ∧ (1048576 ≠ 0))) ∧ (0 ≤ (Int.tmod (m 92 (gx_w ((m 86 11) - 1)).toNat) 1048576) ∧ (Int.tmod (m 92 (gx_w ((m 86 11) - 1)).toNat) 1048576) < 260))) (npc := 0) (L' := [(0, .inr 86), (1, .inl x1), (2, .inl (Int.tmod (m 92 (gx_w ((m 86 11) - 1)).toNat) 1048576))]) (st' := []) (m' := (gx_u (gx_u m 91 (Int.tmod (m 92 (gx_w ((m 86 11) - 1)).toNat) 1048576).toNat (gx_w ((gx_w (1048576 * (gx_w (Int.tdiv (m 91 (Int.tmod (m 92 (gx_w ((m 86 11) - 1)).toNat) 1048576).toNat) 1048576)))) + (m 86 10)))) 86 11 (gx_w ((m 86 11) - 1)))) [((22, .aload_n 0, 1, 0, 0, 0, 0), (0, 0, 0)), ((23, .getfield 26, 3, 10, 15, 5128, 0), (1, 86, 92)), ((26, .aload_n 0, 1, 0, 0, 0, 0), (0, 0, 0)), ((27, .getfield 162, 3, 10, 11, 5124, 0), (0, 86, 0)), ((30, .iconst 1, 1, 0, 0, 0, 0), (0, 0, 0)), ((31, .isub, 1, 0, 0, 0, 0), (0, 0, 0)), ((32, .iaload, 1, 0, 0, 0, 0), (0, 92, 260)), ((33, .ldc 158, 2, 0, 0, 6077, 1048576), (0, 0, 0)), ((35, .irem, 1, 0, 0, 0, 0), (0, 0, 0)), ((36, .istore_n 2, 1, 0, 0, 0, 0), (0, 0, 0)), ((37, .aload_n 0, 1, 0, 0, 0, 0), (0, 0, 0)), ((38, .getfield 23, 3, 10, 14, 5127, 0), (1, 86, 91)), ((41, .iload_n 2, 1, 0, 0, 0, 0), (0, 0, 0)), ((42, .ldc 158, 2, 0, 0, 6077, 1048576), (0, 0, 0)), ((44, .aload_n 0, 1, 0, 0, 0, 0), (0, 0, 0)), ((45, .getfield 23, 3, 10, 14, 5127, 0), (1, 86, 91)), ((48, .iload_n 2, 1, 0, 0, 0, 0), (0, 0, 0)), ((49, .iaload, 1, 0, 0, 0, 0), (0, 91, 260)), ((50, .ldc 158, 2, 0, 0, 6077, 1048576), (0, 0, 0)), ((52, .idiv, 1, 0, 0, 0, 0), (0, 0, 0)), ((53, .imul, 1, 0, 0, 0, 0), (0, 0, 0)), ((54, .aload_n 0, 1, 0, 0, 0, 0), (0, 0, 0)), ((55, .getfield 155, 3, 10, 10, 5123, 0), (0, 86, 0)), ((58, .iadd, 1, 0, 0, 0, 0), (0, 0, 0)), ((59, .iastore, 1, 0, 0, 0, 0), (0, 91, 260)), ((60, .aload_n 0, 1, 0, 0, 0, 0), (0, 0, 0)), ((61, .aload_n 0, 1, 0, 0, 0, 0), (0, 0, 0)), ((62, .getfield 162, 3, 10, 11, 5124, 0), (0, 86, 0)), ((65, .iconst 1, 1, 0, 0, 0, 0), (0, 0, 0)), ((66, .isub, 1, 0, 0, 0, 0), (0, 0, 0)), ((67, .putfield 162, 3, 10, 11, 5124, 0), (0, 86, 0)), ((70, .goto (-70), 3, 0, 0, 0, 0), (0, 0, 0))] (by decide +kernel) rfl ⟨⟨⟨⟨⟨trivial, (by rw [e1]; exact (k1 c1))⟩, (by omega)⟩, (by rw [e1]; exact (k2 c1))⟩, (by omega)⟩, (by rw [e1]; exact (k3 c1))⟩ ?_
    rw [e1]
    exact gx_to_pick [0, 1] (h1 c1)
  · have c1 : s0 ≠ 11 := c1
    refine gx_blk (C := True) (npc := 10) (L' := [(0, .inr 86), (1, .inl x1)]) (st' := [.inl x1]) (m' := m) [((9, .iload_n 1, 1, 0, 0, 0, 0), (0, 0, 0))] (by decide +kernel) rfl trivial ?_
    refine gx_if .eq 73 (by decide +kernel) (fun c2 => ?_) (fun c2 => ?_)
    · have c2 : x1 = 0 := c2
      exact gx_ret0 (by decide +kernel) (h2 c1 c2)
    · have c2 : x1 ≠ 0 := c2
      refine gx_blk (C := True) (npc := 14) (L' := [(0, .inr 86), (1, .inl x1)]) (st' := [.inr 86]) (m' := m) [((13, .aload_n 0, 1, 0, 0, 0, 0), (0, 0, 0))] (by decide +kernel) rfl trivial ?_
      exact gx_callv (E := (14, .invokevirtual 165, 3, 182, 0, 6100, 0)) (M' := yp_m182) (c := 86) [] [] rfl (by decide +kernel) rfl ⟨rfl, rfl⟩ rfl rfl (Nat.le_of_ble_eq_true rfl) (Nat.le_of_ble_eq_true rfl) (by decide +kernel) (gx_to_mono (h3 c1 c2) (fun r m' h' => gx_to_pick [0, 1] h'))

/-- lands from 17 on -/
theorem gt187_17 {xs : List Int32} {w0 : sx_W} {d : Nat} {Q : gx_Q} {m : gx_M} {x1 s0 : Int} (g0 : 0 ≤ (m 86 10) ∧ (m 86 10) ≤ 250) (g1 : 0 ≤ (m 86 11) ∧ (m 86 11) ≤ 250)
    (h1 : (s0 ≠ 12) → Q none m)
    (k1 : (s0 = 12) → 0 ≤ ((m 86 11) - 1) ∧ ((m 86 11) - 1) < 260)
    (k2 : (s0 = 12) → 0 ≤ (Int.tmod (m 92 ((m 86 11) - 1).toNat) 1048576) ∧ (Int.tmod (m 92 ((m 86 11) - 1).toNat) 1048576) < 260)
    (k3 : (s0 = 12) → 0 ≤ (Int.tmod (m 92 ((m 86 11) - 1).toNat) 1048576) ∧ (Int.tmod (m 92 ((m 86 11) - 1).toNat) 1048576) < 260)
    (h2 : (s0 = 12) → gx_to xs w0 d yp_m187 0 [(0, .inr 86), (1, .inl x1)] [] (gx_u (gx_u m 91 (Int.tmod (m 92 ((m 86 11) - 1).toNat) 1048576).toNat (gx_w ((gx_w (1048576 * (gx_w (Int.tdiv (m 91 (Int.tmod (m 92 ((m 86 11) - 1).toNat) 1048576).toNat) 1048576)))) + (m 86 10)))) 86 11 ((m 86 11) - 1)) Q) : gx_to xs w0 d yp_m187 17 [(0, .inr 86), (1, .inl x1)] [.inl s0] m Q := by
  refine gx_blk (C := True) (npc := 19) (L' := [(0, .inr 86), (1, .inl x1)]) (st' := [.inl 12, .inl s0]) (m' := m) [((17, .bipush 12, 2, 0, 0, 0, 0), (0, 0, 0))] (by decide +kernel) rfl trivial ?_
  refine gx_cmp .ne 73 (by decide +kernel) (fun c1 => ?_) (fun c1 => ?_)
  · have c1 : s0 ≠ 12 := c1
    exact gx_ret0 (by decide +kernel) (h1 c1)
  · have c1 : s0 = 12 := by have h : ¬ (s0 ≠ 12) := c1; omega
    have e1 : gx_w ((m 86 11) - 1) = (m 86 11) - 1 := gx_w_id (by omega) (by omega)
    have e2 : gx_w ((m 86 11) - 1) = (m 86 11) - 1 := gx_w_id (by omega) (by omega)
    refine gx_blk (C := (((((((((True ∧ (0 ≤ (gx_w ((m 86 11) - 1)) ∧ (gx_w ((m 86 11) - 1)) < 260))) ∧ (1048576 ≠ 0))) ∧ (0 ≤ (Int.tmod (m 92 (gx_w ((m 86 11) - 1)).toNat) 1048576) ∧ (Int.tmod (m 92 (gx_w ((m 86 11) - 1)).toNat) 1048576) < 260))) ∧ (1048576 ≠ 0))) ∧ (0 ≤ (Int.tmod (m 92 (gx_w ((m 86 11) - 1)).toNat) 1048576) ∧ (Int.tmod (m 92 (gx_w ((m 86 11) - 1)).toNat) 1048576) < 260))) (npc := 0) (L' := [(0, .inr 86), (1, .inl x1), (2, .inl (Int.tmod (m 92 (gx_w ((m 86 11) - 1)).toNat) 1048576))]) (st' := []) (m' := (gx_u (gx_u m 91 (Int.tmod (m 92 (gx_w ((m 86 11) - 1)).toNat) 1048576).toNat (gx_w ((gx_w (1048576 * (gx_w (Int.tdiv (m 91 (Int.tmod (m 92 (gx_w ((m 86 11) - 1)).toNat) 1048576).toNat) 1048576)))) + (m 86 10)))) 86 11 (gx_w ((m 86 11) - 1)))) [((22, .aload_n 0, 1, 0, 0, 0, 0), (0, 0, 0)), ((23, .getfield 26, 3, 10, 15, 5128, 0), (1, 86, 92)), ((26, .aload_n 0, 1, 0, 0, 0, 0), (0, 0, 0)), ((27, .getfield 162, 3, 10, 11, 5124, 0), (0, 86, 0)), ((30, .iconst 1, 1, 0, 0, 0, 0), (0, 0, 0)), ((31, .isub, 1, 0, 0, 0, 0), (0, 0, 0)), ((32, .iaload, 1, 0, 0, 0, 0), (0, 92, 260)), ((33, .ldc 158, 2, 0, 0, 6077, 1048576), (0, 0, 0)), ((35, .irem, 1, 0, 0, 0, 0), (0, 0, 0)), ((36, .istore_n 2, 1, 0, 0, 0, 0), (0, 0, 0)), ((37, .aload_n 0, 1, 0, 0, 0, 0), (0, 0, 0)), ((38, .getfield 23, 3, 10, 14, 5127, 0), (1, 86, 91)), ((41, .iload_n 2, 1, 0, 0, 0, 0), (0, 0, 0)), ((42, .ldc 158, 2, 0, 0, 6077, 1048576), (0, 0, 0)), ((44, .aload_n 0, 1, 0, 0, 0, 0), (0, 0, 0)), ((45, .getfield 23, 3, 10, 14, 5127, 0), (1, 86, 91)), ((48, .iload_n 2, 1, 0, 0, 0, 0), (0, 0, 0)), ((49, .iaload, 1, 0, 0, 0, 0), (0, 91, 260)), ((50, .ldc 158, 2, 0, 0, 6077, 1048576), (0, 0, 0)), ((52, .idiv, 1, 0, 0, 0, 0), (0, 0, 0)), ((53, .imul, 1, 0, 0, 0, 0), (0, 0, 0)), ((54, .aload_n 0, 1, 0, 0, 0, 0), (0, 0, 0)), ((55, .getfield 155, 3, 10, 10, 5123, 0), (0, 86, 0)), ((58, .iadd, 1, 0, 0, 0, 0), (0, 0, 0)), ((59, .iastore, 1, 0, 0, 0, 0), (0, 91, 260)), ((60, .aload_n 0, 1, 0, 0, 0, 0), (0, 0, 0)), ((61, .aload_n 0, 1, 0, 0, 0, 0), (0, 0, 0)), ((62, .getfield 162, 3, 10, 11, 5124, 0), (0, 86, 0)), ((65, .iconst 1, 1, 0, 0, 0, 0), (0, 0, 0)), ((66, .isub, 1, 0, 0, 0, 0), (0, 0, 0)), ((67, .putfield 162, 3, 10, 11, 5124, 0), (0, 86, 0)), ((70, .goto (-70), 3, 0, 0, 0, 0), (0, 0, 0))] (by decide +kernel) rfl ⟨⟨⟨⟨⟨trivial, (by rw [e1]; exact (k1 c1))⟩, (by omega)⟩, (by rw [e1]; exact (k2 c1))⟩, (by omega)⟩, (by rw [e1]; exact (k3 c1))⟩ ?_
    rw [e1]
    exact gx_to_pick [0, 1] (h2 c1)

/-- jumps from 0 on -/
theorem gt188_0 {xs : List Int32} {w0 : sx_W} {d : Nat} {Q : gx_Q} {m : gx_M} {x1 : Int} (r_x1 : 11 ≤ x1 ∧ x1 ≤ 12) (g1 : 0 ≤ (m 86 10) ∧ (m 86 10) ≤ 250) (g2 : 0 ≤ (m 86 11) ∧ (m 86 11) ≤ 250)
    (h1 : gx_to xs w0 d yp_m178 0 [(0, .inr 86), (1, .inl x1), (2, .inl 0)] [] (gx_u (gx_u m 92 (m 86 11).toNat ((1048576 * x1) + (m 86 10))) 86 11 ((m 86 11) + 1)) (fun r m' => gx_to xs w0 (d + 1) yp_m188 34 [(0, .inr 86)] (gx_rs r ++ []) m' Q)) : gx_to xs w0 (d + 1) yp_m188 0 [(0, .inr 86), (1, .inl x1)] [] m Q := by
  have e1 : gx_w (1048576 * x1) = 1048576 * x1 := gx_w_id (by omega) (by omega)
  have e2 : gx_w ((1048576 * x1) + (m 86 10)) = (1048576 * x1) + (m 86 10) := gx_w_id (by omega) (by omega)
  have e3 : gx_w ((m 86 11) + 1) = (m 86 11) + 1 := gx_w_id (by omega) (by omega)
  refine gx_blk (C := (True ∧ (0 ≤ (m 86 11) ∧ (m 86 11) < 260))) (npc := 31) (L' := [(0, .inr 86), (1, .inl x1)]) (st' := [.inl 0, .inl x1, .inr 86]) (m' := (gx_u (gx_u m 92 (m 86 11).toNat (gx_w ((gx_w (1048576 * x1)) + (m 86 10)))) 86 11 (gx_w ((m 86 11) + 1)))) [((0, .aload_n 0, 1, 0, 0, 0, 0), (0, 0, 0)), ((1, .getfield 26, 3, 10, 15, 5128, 0), (1, 86, 92)), ((4, .aload_n 0, 1, 0, 0, 0, 0), (0, 0, 0)), ((5, .getfield 162, 3, 10, 11, 5124, 0), (0, 86, 0)), ((8, .ldc 158, 2, 0, 0, 6077, 1048576), (0, 0, 0)), ((10, .iload_n 1, 1, 0, 0, 0, 0), (0, 0, 0)), ((11, .imul, 1, 0, 0, 0, 0), (0, 0, 0)), ((12, .aload_n 0, 1, 0, 0, 0, 0), (0, 0, 0)), ((13, .getfield 155, 3, 10, 10, 5123, 0), (0, 86, 0)), ((16, .iadd, 1, 0, 0, 0, 0), (0, 0, 0)), ((17, .iastore, 1, 0, 0, 0, 0), (0, 92, 260)), ((18, .aload_n 0, 1, 0, 0, 0, 0), (0, 0, 0)), ((19, .aload_n 0, 1, 0, 0, 0, 0), (0, 0, 0)), ((20, .getfield 162, 3, 10, 11, 5124, 0), (0, 86, 0)), ((23, .iconst 1, 1, 0, 0, 0, 0), (0, 0, 0)), ((24, .iadd, 1, 0, 0, 0, 0), (0, 0, 0)), ((25, .putfield 162, 3, 10, 11, 5124, 0), (0, 86, 0)), ((28, .aload_n 0, 1, 0, 0, 0, 0), (0, 0, 0)), ((29, .iload_n 1, 1, 0, 0, 0, 0), (0, 0, 0)), ((30, .iconst 0, 1, 0, 0, 0, 0), (0, 0, 0))] (by decide +kernel) rfl ⟨trivial, (by omega)⟩ ?_
  rw [e1, e2, e3]
  exact gx_callv (E := (31, .invokevirtual 168, 3, 178, 0, 6086, 0)) (M' := yp_m178) (c := 86) [.inl x1, .inl 0] [] rfl (by decide +kernel) rfl ⟨rfl, rfl⟩ rfl rfl (Nat.le_of_ble_eq_true rfl) (Nat.le_of_ble_eq_true rfl) (by decide +kernel) (gx_to_mono h1 (fun r m' h' => gx_to_pick [0] h'))

/-- jumps from 34 on -/
theorem gt188_34 {xs : List Int32} {w0 : sx_W} {d : Nat} {Q : gx_Q} {m : gx_M} (hI : gx_I m)
    (h1 : Q none (gx_u m 86 5 ((m 86 5) + 1))) : gx_to xs w0 d yp_m188 34 [(0, .inr 86)] [] m Q := by
  have f1 := gx_I_n hI 86 5 0 260 (by decide +kernel)
  have e2 : gx_w ((m 86 5) + 1) = (m 86 5) + 1 := gx_w_id (by omega) (by omega)
  refine gx_blk (C := True) (npc := 44) (L' := [(0, .inr 86)]) (st' := []) (m' := (gx_u m 86 5 (gx_w ((m 86 5) + 1)))) [((34, .aload_n 0, 1, 0, 0, 0, 0), (0, 0, 0)), ((35, .aload_n 0, 1, 0, 0, 0, 0), (0, 0, 0)), ((36, .getfield 132, 3, 10, 5, 5118, 0), (0, 86, 0)), ((39, .iconst 1, 1, 0, 0, 0, 0), (0, 0, 0)), ((40, .iadd, 1, 0, 0, 0, 0), (0, 0, 0)), ((41, .putfield 132, 3, 10, 5, 5118, 0), (0, 86, 0))] (by decide +kernel) rfl trivial ?_
  rw [e2]
  exact gx_ret0 (by decide +kernel) h1

/-- takes from 0 on -/
theorem gt189_0 {xs : List Int32} {w0 : sx_W} {d : Nat} {Q : gx_Q} {m : gx_M} {x1 : Int}
    (h1 : gx_to xs w0 d yp_m170 0 [(0, .inr 86)] [] m (fun r m' => gx_to xs w0 (d + 1) yp_m189 4 [(0, .inr 86), (1, .inl x1)] (gx_rs r ++ []) m' Q)) : gx_to xs w0 (d + 1) yp_m189 0 [(0, .inr 86), (1, .inl x1)] [] m Q := by
  refine gx_blk (C := True) (npc := 1) (L' := [(0, .inr 86), (1, .inl x1)]) (st' := [.inr 86]) (m' := m) [((0, .aload_n 0, 1, 0, 0, 0, 0), (0, 0, 0))] (by decide +kernel) rfl trivial ?_
  exact gx_callv (E := (1, .invokevirtual 138, 3, 170, 0, 6054, 0)) (M' := yp_m170) (c := 86) [] [] rfl (by decide +kernel) rfl ⟨rfl, rfl⟩ rfl rfl (Nat.le_of_ble_eq_true rfl) (Nat.le_of_ble_eq_true rfl) (by decide +kernel) (gx_to_mono h1 (fun r m' h' => gx_to_pick [0, 1] h'))

/-- takes from 4 on -/
theorem gt189_4 {xs : List Int32} {w0 : sx_W} {d : Nat} {Q : gx_Q} {m : gx_M} {x1 s0 : Int} (hI : gx_I m)
    (h1 : (s0 = x1) → Q (some 1) (gx_u m 86 5 ((m 86 5) + 1)))
    (h2 : (s0 ≠ x1) → gx_to xs w0 d yp_m172 0 [(0, .inr 86), (1, .inl 1), (2, .inl (m 86 5))] [] m (fun r m' => gx_to xs w0 (d + 1) yp_m189 17 [] (gx_rs r ++ []) m' Q)) : gx_to xs w0 (d + 1) yp_m189 4 [(0, .inr 86), (1, .inl x1)] [.inl s0] m Q := by
  refine gx_blk (C := True) (npc := 5) (L' := [(0, .inr 86), (1, .inl x1)]) (st' := [.inl x1, .inl s0]) (m' := m) [((4, .iload_n 1, 1, 0, 0, 0, 0), (0, 0, 0))] (by decide +kernel) rfl trivial ?_
  refine gx_cmp .eq 18 (by decide +kernel) (fun c1 => ?_) (fun c1 => ?_)
  · have c1 : s0 = x1 := c1
    have f1 := gx_I_n hI 86 5 0 260 (by decide +kernel)
    have e2 : gx_w ((m 86 5) + 1) = (m 86 5) + 1 := gx_w_id (by omega) (by omega)
    refine gx_blk (C := True) (npc := 29) (L' := [(0, .inr 86), (1, .inl x1)]) (st' := [.inl 1]) (m' := (gx_u m 86 5 (gx_w ((m 86 5) + 1)))) [((18, .aload_n 0, 1, 0, 0, 0, 0), (0, 0, 0)), ((19, .aload_n 0, 1, 0, 0, 0, 0), (0, 0, 0)), ((20, .getfield 132, 3, 10, 5, 5118, 0), (0, 86, 0)), ((23, .iconst 1, 1, 0, 0, 0, 0), (0, 0, 0)), ((24, .iadd, 1, 0, 0, 0, 0), (0, 0, 0)), ((25, .putfield 132, 3, 10, 5, 5118, 0), (0, 86, 0)), ((28, .iconst 1, 1, 0, 0, 0, 0), (0, 0, 0))] (by decide +kernel) rfl trivial ?_
    rw [e2]
    exact gx_retb (by decide +kernel) (by omega) (h1 c1)
  · have c1 : s0 ≠ x1 := c1
    have f3 := gx_I_n hI 86 5 0 260 (by decide +kernel)
    refine gx_blk (C := True) (npc := 14) (L' := [(0, .inr 86), (1, .inl x1)]) (st' := [.inl (m 86 5), .inl 1, .inr 86]) (m' := m) [((8, .aload_n 0, 1, 0, 0, 0, 0), (0, 0, 0)), ((9, .iconst 1, 1, 0, 0, 0, 0), (0, 0, 0)), ((10, .aload_n 0, 1, 0, 0, 0, 0), (0, 0, 0)), ((11, .getfield 132, 3, 10, 5, 5118, 0), (0, 86, 0))] (by decide +kernel) rfl trivial ?_
    exact gx_callv (E := (14, .invokevirtual 145, 3, 172, 0, 6061, 0)) (M' := yp_m172) (c := 86) [.inl 1, .inl (m 86 5)] [] rfl (by decide +kernel) rfl ⟨rfl, rfl⟩ rfl rfl (Nat.le_of_ble_eq_true rfl) (Nat.le_of_ble_eq_true rfl) (by decide +kernel) (gx_to_mono (h2 c1) (fun r m' h' => gx_to_pick [] h'))

/-- takes from 17 on -/
theorem gt189_17 {xs : List Int32} {w0 : sx_W} {d : Nat} {Q : gx_Q} {m : gx_M} {s0 : Int}
    (k1 : s0 = 0 ∨ s0 = 1)
    (h1 : Q (some s0) m) : gx_to xs w0 d yp_m189 17 [] [.inl s0] m Q := by
  exact gx_retb (by decide +kernel) (k1) h1

