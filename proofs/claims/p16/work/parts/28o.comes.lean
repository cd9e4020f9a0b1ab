/-! roads of methods read by hand, from cut points to the next ones (printed by wip/gen/gxall.py) -/
/-- comesTo from 0 on -/
theorem gt208_0 {xs : List Int32} {w0 : sx_W} {d : Nat} {Q : gx_Q} {m : gx_M} {x1 x2 : Int} (r_x1 : 0 ≤ x1 ∧ x1 ≤ 250) (r_x2 : 0 ≤ x2 ∧ x2 ≤ 250)
    (h1 : gx_to xs w0 d yp_m208 16 [(0, .inr 86), (2, .inl x2), (3, .inl 0), (4, .inl (gx_w (260 * (gx_w (Int.tdiv x1 260))))), (5, .inl x1)] [] m Q) : gx_to xs w0 d yp_m208 0 [(0, .inr 86), (1, .inl x1), (2, .inl x2)] [] m Q := by
  refine gx_blk (C := (True ∧ (260 ≠ 0))) (npc := 16) (L' := [(0, .inr 86), (1, .inl x1), (2, .inl x2), (3, .inl 0), (4, .inl (gx_w (260 * (gx_w (Int.tdiv x1 260))))), (5, .inl x1)]) (st' := []) (m' := m) [((0, .iconst 0, 1, 0, 0, 0, 0), (0, 0, 0)), ((1, .istore_n 3, 1, 0, 0, 0, 0), (0, 0, 0)), ((2, .sipush 260, 3, 0, 0, 0, 0), (0, 0, 0)), ((5, .iload_n 1, 1, 0, 0, 0, 0), (0, 0, 0)), ((6, .sipush 260, 3, 0, 0, 0, 0), (0, 0, 0)), ((9, .idiv, 1, 0, 0, 0, 0), (0, 0, 0)), ((10, .imul, 1, 0, 0, 0, 0), (0, 0, 0)), ((11, .istore 4, 2, 0, 0, 0, 0), (0, 0, 0)), ((13, .iload_n 1, 1, 0, 0, 0, 0), (0, 0, 0)), ((14, .istore 5, 2, 0, 0, 0, 0), (0, 0, 0))] (by decide +kernel) rfl ⟨trivial, (by omega)⟩ ?_
  exact gx_to_pick [0, 2, 3, 4, 5] h1

/-- comesTo from 16 on -/
theorem gt208_16 {xs : List Int32} {w0 : sx_W} {d : Nat} {Q : gx_Q} {m : gx_M} {x2 x3 x4 x5 : Int} (r_x2 : 0 ≤ x2 ∧ x2 ≤ 250) (r_x3 : 0 ≤ x3 ∧ x3 ≤ 250) (r_x4 : 0 ≤ x4 ∧ x4 ≤ 0) (r_x5 : 0 ≤ x5 ∧ x5 ≤ 250)
    (h1 : (x2 ≤ x5) → Q (some (m 102 0)) m)
    (h2 : (x5 < x2) → gx_to xs w0 d yp_m208 52 [(0, .inr 86), (2, .inl x2), (3, .inl x3), (4, .inl x4), (5, .inl (x5 + 1)), (6, .inl (gx_w (Int.tdiv (m 97 (x5).toNat) 1048576))), (7, .inl (Int.tmod (m 97 (x5).toNat) 1048576))] [] m Q) : gx_to xs w0 d yp_m208 16 [(0, .inr 86), (2, .inl x2), (3, .inl x3), (4, .inl x4), (5, .inl x5)] [] m Q := by
  refine gx_blk (C := True) (npc := 19) (L' := [(0, .inr 86), (2, .inl x2), (3, .inl x3), (4, .inl x4), (5, .inl x5)]) (st' := [.inl x2, .inl x5]) (m' := m) [((16, .iload 5, 2, 0, 0, 0, 0), (0, 0, 0)), ((18, .iload_n 2, 1, 0, 0, 0, 0), (0, 0, 0))] (by decide +kernel) rfl trivial ?_
  refine gx_cmp .ge 233 (by decide +kernel) (fun c1 => ?_) (fun c1 => ?_)
  · have c1 : x2 ≤ x5 := c1
    refine gx_blk (C := (True ∧ (0 ≤ 0 ∧ 0 < 260))) (npc := 239) (L' := [(0, .inr 86), (2, .inl x2), (3, .inl x3), (4, .inl x4), (5, .inl x5)]) (st' := [.inl (m 102 0)]) (m' := m) [((233, .aload_n 0, 1, 0, 0, 0, 0), (0, 0, 0)), ((234, .getfield 56, 3, 10, 25, 5138, 0), (1, 86, 102)), ((237, .iconst 0, 1, 0, 0, 0, 0), (0, 0, 0)), ((238, .iaload, 1, 0, 0, 0, 0), (0, 102, 260))] (by decide +kernel) rfl ⟨trivial, (by omega)⟩ ?_
    exact gx_reti (by decide +kernel) (h1 c1)
  · have c1 : x5 < x2 := by have h : ¬ (x2 ≤ x5) := c1; omega
    have e1 : gx_w (x5 + 1) = x5 + 1 := gx_w_id (by omega) (by omega)
    refine gx_blk (C := (((((((True ∧ (0 ≤ x5 ∧ x5 < 260))) ∧ (1048576 ≠ 0))) ∧ (0 ≤ x5 ∧ x5 < 260))) ∧ (1048576 ≠ 0))) (npc := 52) (L' := [(0, .inr 86), (2, .inl x2), (3, .inl x3), (4, .inl x4), (5, .inl (gx_w (x5 + 1))), (6, .inl (gx_w (Int.tdiv (m 97 (x5).toNat) 1048576))), (7, .inl (Int.tmod (m 97 (x5).toNat) 1048576))]) (st' := []) (m' := m) [((22, .aload_n 0, 1, 0, 0, 0, 0), (0, 0, 0)), ((23, .getfield 41, 3, 10, 20, 5133, 0), (1, 86, 97)), ((26, .iload 5, 2, 0, 0, 0, 0), (0, 0, 0)), ((28, .iaload, 1, 0, 0, 0, 0), (0, 97, 260)), ((29, .ldc 158, 2, 0, 0, 6077, 1048576), (0, 0, 0)), ((31, .idiv, 1, 0, 0, 0, 0), (0, 0, 0)), ((32, .istore 6, 2, 0, 0, 0, 0), (0, 0, 0)), ((34, .aload_n 0, 1, 0, 0, 0, 0), (0, 0, 0)), ((35, .getfield 41, 3, 10, 20, 5133, 0), (1, 86, 97)), ((38, .iload 5, 2, 0, 0, 0, 0), (0, 0, 0)), ((40, .iaload, 1, 0, 0, 0, 0), (0, 97, 260)), ((41, .ldc 158, 2, 0, 0, 6077, 1048576), (0, 0, 0)), ((43, .irem, 1, 0, 0, 0, 0), (0, 0, 0)), ((44, .istore 7, 2, 0, 0, 0, 0), (0, 0, 0)), ((46, .iload 5, 2, 0, 0, 0, 0), (0, 0, 0)), ((48, .iconst 1, 1, 0, 0, 0, 0), (0, 0, 0)), ((49, .iadd, 1, 0, 0, 0, 0), (0, 0, 0)), ((50, .istore 5, 2, 0, 0, 0, 0), (0, 0, 0))] (by decide +kernel) rfl ⟨⟨⟨⟨trivial, (by omega)⟩, (by omega)⟩, (by omega)⟩, (by omega)⟩ ?_
    rw [e1]
    exact gx_to_pick [0, 2, 3, 4, 5, 6, 7] (h2 c1)

/-- comesTo from 52 on -/
theorem gt208_52 {xs : List Int32} {w0 : sx_W} {d : Nat} {Q : gx_Q} {m : gx_M} {x2 x3 x4 x5 x6 x7 : Int} (r_x2 : 0 ≤ x2 ∧ x2 ≤ 250) (r_x3 : 0 ≤ x3 ∧ x3 ≤ 250) (r_x4 : 0 ≤ x4 ∧ x4 ≤ 0) (r_x5 : 1 ≤ x5 ∧ x5 ≤ 250) (r_x7 : 0 ≤ x7 ∧ x7 ≤ 1048575)
    (h1 : (x6 = 0) → (x6 = 0) → gx_to xs w0 (d + 1) yp_m208 16 [(0, .inr 86), (2, .inl x2), (3, .inl (x3 + 1)), (4, .inl x4), (5, .inl x5)] [] (gx_u m 102 (x3).toNat x7) Q)
    (k1 : (x6 ≠ 0) → (x6 ≠ 1) → (x6 ≠ 10) → (x6 = 11) → 0 ≤ (x3 - 1) ∧ (x3 - 1) < 260)
    (h2 : (x6 ≠ 0) → (x6 ≠ 1) → (x6 ≠ 10) → (x6 = 11) → (x6 ≠ 12) → ((m 102 (x3 - 1).toNat) ≠ 0) → gx_to xs w0 (d + 1) yp_m208 16 [(0, .inr 86), (2, .inl x2), (3, .inl (x3 - 1)), (4, .inl x4), (5, .inl x5)] [] m Q)
    (h3 : (x6 ≠ 0) → (x6 ≠ 1) → (x6 ≠ 10) → (x6 = 11) → (x6 ≠ 12) → ((m 102 (x3 - 1).toNat) = 0) → gx_to xs w0 (d + 1) yp_m208 16 [(0, .inr 86), (2, .inl x2), (3, .inl x3), (4, .inl x4), (5, .inl (x4 + x7))] [] m Q)
    (k2 : (x6 ≠ 0) → (x6 ≠ 1) → (x6 ≠ 10) → (x6 ≠ 11) → (x6 ≠ 12) → (x6 = 5) → 0 ≤ (x3 - 1) ∧ (x3 - 1) < 260)
    (k3 : (x6 ≠ 0) → (x6 ≠ 1) → (x6 ≠ 10) → (x6 ≠ 11) → (x6 ≠ 12) → (x6 = 5) → ((m 102 (x3 - 1).toNat) ≠ 0) → 0 ≤ ((x3 - 1) - 1) ∧ ((x3 - 1) - 1) < 260)
    (k4 : (x6 ≠ 0) → (x6 ≠ 1) → (x6 ≠ 10) → (x6 ≠ 11) → (x6 ≠ 12) → (x6 = 5) → ((m 102 (x3 - 1).toNat) ≠ 0) → 0 ≤ (x3 - 1) ∧ (x3 - 1) < 260)
    (h4 : (x6 ≠ 0) → (x6 ≠ 1) → (x6 ≠ 10) → (x6 ≠ 11) → (x6 ≠ 12) → (x6 = 5) → ((m 102 (x3 - 1).toNat) ≠ 0) → gx_to xs w0 d yp_m209 0 [(0, .inl x6), (1, .inl (m 102 ((x3 - 1) - 1).toNat)), (2, .inl (m 102 (x3 - 1).toNat))] [] m (fun r m' => gx_to xs w0 (d + 1) yp_m208 229 [(0, .inr 86), (2, .inl x2), (3, .inl (x3 - 1)), (4, .inl x4), (5, .inl x5)] (gx_rs r ++ [.inl ((x3 - 1) - 1), .inr 102]) m' Q))
    (h5 : (x6 ≠ 0) → (x6 ≠ 1) → (x6 ≠ 10) → (x6 ≠ 11) → (x6 ≠ 12) → (x6 = 5) → ((m 102 (x3 - 1).toNat) = 0) → Q (some 0) m)
    (k5 : (x6 ≠ 0) → (x6 ≠ 1) → (x6 ≠ 10) → (x6 ≠ 11) → (x6 ≠ 12) → (x6 ≠ 5) → (x6 ≠ 6) → 0 ≤ ((x3 - 1) - 1) ∧ ((x3 - 1) - 1) < 260)
    (k6 : (x6 ≠ 0) → (x6 ≠ 1) → (x6 ≠ 10) → (x6 ≠ 11) → (x6 ≠ 12) → (x6 ≠ 5) → (x6 ≠ 6) → 0 ≤ (x3 - 1) ∧ (x3 - 1) < 260)
    (h6 : (x6 ≠ 0) → (x6 ≠ 1) → (x6 ≠ 10) → (x6 ≠ 11) → (x6 ≠ 12) → (x6 ≠ 5) → (x6 ≠ 6) → gx_to xs w0 d yp_m209 0 [(0, .inl x6), (1, .inl (m 102 ((x3 - 1) - 1).toNat)), (2, .inl (m 102 (x3 - 1).toNat))] [] m (fun r m' => gx_to xs w0 (d + 1) yp_m208 229 [(0, .inr 86), (2, .inl x2), (3, .inl (x3 - 1)), (4, .inl x4), (5, .inl x5)] (gx_rs r ++ [.inl ((x3 - 1) - 1), .inr 102]) m' Q))
    (k7 : (x6 ≠ 0) → (x6 ≠ 1) → (x6 ≠ 10) → (x6 ≠ 11) → (x6 ≠ 12) → (x6 ≠ 5) → (x6 = 6) → 0 ≤ (x3 - 1) ∧ (x3 - 1) < 260)
    (k8 : (x6 ≠ 0) → (x6 ≠ 1) → (x6 ≠ 10) → (x6 ≠ 11) → (x6 ≠ 12) → (x6 ≠ 5) → (x6 = 6) → ((m 102 (x3 - 1).toNat) ≠ 0) → 0 ≤ ((x3 - 1) - 1) ∧ ((x3 - 1) - 1) < 260)
    (k9 : (x6 ≠ 0) → (x6 ≠ 1) → (x6 ≠ 10) → (x6 ≠ 11) → (x6 ≠ 12) → (x6 ≠ 5) → (x6 = 6) → ((m 102 (x3 - 1).toNat) ≠ 0) → 0 ≤ (x3 - 1) ∧ (x3 - 1) < 260)
    (h7 : (x6 ≠ 0) → (x6 ≠ 1) → (x6 ≠ 10) → (x6 ≠ 11) → (x6 ≠ 12) → (x6 ≠ 5) → (x6 = 6) → ((m 102 (x3 - 1).toNat) ≠ 0) → gx_to xs w0 d yp_m209 0 [(0, .inl x6), (1, .inl (m 102 ((x3 - 1) - 1).toNat)), (2, .inl (m 102 (x3 - 1).toNat))] [] m (fun r m' => gx_to xs w0 (d + 1) yp_m208 229 [(0, .inr 86), (2, .inl x2), (3, .inl (x3 - 1)), (4, .inl x4), (5, .inl x5)] (gx_rs r ++ [.inl ((x3 - 1) - 1), .inr 102]) m' Q))
    (h8 : (x6 ≠ 0) → (x6 ≠ 1) → (x6 ≠ 10) → (x6 ≠ 11) → (x6 ≠ 12) → (x6 ≠ 5) → (x6 = 6) → ((m 102 (x3 - 1).toNat) = 0) → Q (some 0) m)
    (k10 : (x6 ≠ 0) → (x6 ≠ 1) → (x6 ≠ 10) → (x6 ≠ 11) → (x6 = 12) → 0 ≤ (x3 - 1) ∧ (x3 - 1) < 260)
    (h9 : (x6 ≠ 0) → (x6 ≠ 1) → (x6 ≠ 10) → (x6 ≠ 11) → (x6 = 12) → (x6 = 12) → ((m 102 (x3 - 1).toNat) ≠ 1) → gx_to xs w0 (d + 1) yp_m208 16 [(0, .inr 86), (2, .inl x2), (3, .inl (x3 - 1)), (4, .inl x4), (5, .inl x5)] [] m Q)
    (h10 : (x6 ≠ 0) → (x6 ≠ 1) → (x6 ≠ 10) → (x6 ≠ 11) → (x6 = 12) → (x6 = 12) → ((m 102 (x3 - 1).toNat) = 1) → gx_to xs w0 (d + 1) yp_m208 16 [(0, .inr 86), (2, .inl x2), (3, .inl x3), (4, .inl x4), (5, .inl (x4 + x7))] [] m Q)
    (k11 : (x6 ≠ 0) → (x6 ≠ 1) → (x6 = 10) → 0 ≤ (x3 - 1) ∧ (x3 - 1) < 260)
    (k12 : (x6 ≠ 0) → (x6 ≠ 1) → (x6 = 10) → 0 ≤ (x3 - 1) ∧ (x3 - 1) < 260)
    (h11 : (x6 ≠ 0) → (x6 ≠ 1) → (x6 = 10) → gx_to xs w0 (d + 1) yp_m208 16 [(0, .inr 86), (2, .inl x2), (3, .inl x3), (4, .inl x4), (5, .inl x5)] [] (gx_u m 102 (x3 - 1).toNat (gx_w (1 - (m 102 (x3 - 1).toNat)))) Q)
    (k13 : (x6 ≠ 0) → (x6 = 1) → (x6 ≠ 0) → 0 ≤ x7 ∧ x7 < 14)
    (h12 : (x6 ≠ 0) → (x6 = 1) → (x6 ≠ 0) → gx_to xs w0 (d + 1) yp_m208 16 [(0, .inr 86), (2, .inl x2), (3, .inl (x3 + 1)), (4, .inl x4), (5, .inl x5)] [] (gx_u m 102 (x3).toNat (m 103 (x7).toNat)) Q) : gx_to xs w0 (d + 1) yp_m208 52 [(0, .inr 86), (2, .inl x2), (3, .inl x3), (4, .inl x4), (5, .inl x5), (6, .inl x6), (7, .inl x7)] [] m Q := by
  refine gx_blk (C := True) (npc := 54) (L' := [(0, .inr 86), (2, .inl x2), (3, .inl x3), (4, .inl x4), (5, .inl x5), (6, .inl x6), (7, .inl x7)]) (st' := [.inl x6]) (m' := m) [((52, .iload 6, 2, 0, 0, 0, 0), (0, 0, 0))] (by decide +kernel) rfl trivial ?_
  refine gx_if .eq 63 (by decide +kernel) (fun c1 => ?_) (fun c1 => ?_)
  · have c1 : x6 = 0 := c1
    refine gx_blk (C := True) (npc := 70) (L' := [(0, .inr 86), (2, .inl x2), (3, .inl x3), (4, .inl x4), (5, .inl x5), (6, .inl x6), (7, .inl x7)]) (st' := [.inl x6, .inl x3, .inr 102]) (m' := m) [((63, .aload_n 0, 1, 0, 0, 0, 0), (0, 0, 0)), ((64, .getfield 56, 3, 10, 25, 5138, 0), (1, 86, 102)), ((67, .iload_n 3, 1, 0, 0, 0, 0), (0, 0, 0)), ((68, .iload 6, 2, 0, 0, 0, 0), (0, 0, 0))] (by decide +kernel) rfl trivial ?_
    refine gx_if .ne 78 (by decide +kernel) (fun c2 => ?_) (fun c2 => ?_)
    · have c2 : x6 ≠ 0 := c2
      exfalso; omega
    · have c2 : x6 = 0 := by have h : ¬ (x6 ≠ 0) := c2; omega
      have e1 : gx_w (x3 + 1) = x3 + 1 := gx_w_id (by omega) (by omega)
      refine gx_blk (C := (True ∧ (0 ≤ x3 ∧ x3 < 260))) (npc := 16) (L' := [(0, .inr 86), (2, .inl x2), (3, .inl (gx_w (x3 + 1))), (4, .inl x4), (5, .inl x5), (6, .inl x6), (7, .inl x7)]) (st' := []) (m' := (gx_u m 102 (x3).toNat x7)) [((73, .iload 7, 2, 0, 0, 0, 0), (0, 0, 0)), ((75, .goto 10, 3, 0, 0, 0, 0), (0, 0, 0)), ((85, .iastore, 1, 0, 0, 0, 0), (0, 102, 260)), ((86, .iload_n 3, 1, 0, 0, 0, 0), (0, 0, 0)), ((87, .iconst 1, 1, 0, 0, 0, 0), (0, 0, 0)), ((88, .iadd, 1, 0, 0, 0, 0), (0, 0, 0)), ((89, .istore_n 3, 1, 0, 0, 0, 0), (0, 0, 0)), ((90, .goto 140, 3, 0, 0, 0, 0), (0, 0, 0)), ((230, .goto (-214), 3, 0, 0, 0, 0), (0, 0, 0))] (by decide +kernel) rfl ⟨trivial, (by omega)⟩ ?_
      rw [e1]
      exact gx_to_pick [0, 2, 3, 4, 5] (h1 c1 c2)
  · have c1 : x6 ≠ 0 := c1
    refine gx_blk (C := True) (npc := 60) (L' := [(0, .inr 86), (2, .inl x2), (3, .inl x3), (4, .inl x4), (5, .inl x5), (6, .inl x6), (7, .inl x7)]) (st' := [.inl 1, .inl x6]) (m' := m) [((57, .iload 6, 2, 0, 0, 0, 0), (0, 0, 0)), ((59, .iconst 1, 1, 0, 0, 0, 0), (0, 0, 0))] (by decide +kernel) rfl trivial ?_
    refine gx_cmp .ne 93 (by decide +kernel) (fun c2 => ?_) (fun c2 => ?_)
    · have c2 : x6 ≠ 1 := c2
      refine gx_blk (C := True) (npc := 97) (L' := [(0, .inr 86), (2, .inl x2), (3, .inl x3), (4, .inl x4), (5, .inl x5), (6, .inl x6), (7, .inl x7)]) (st' := [.inl 10, .inl x6]) (m' := m) [((93, .iload 6, 2, 0, 0, 0, 0), (0, 0, 0)), ((95, .bipush 10, 2, 0, 0, 0, 0), (0, 0, 0))] (by decide +kernel) rfl trivial ?_
      refine gx_cmp .ne 121 (by decide +kernel) (fun c3 => ?_) (fun c3 => ?_)
      · have c3 : x6 ≠ 10 := c3
        refine gx_blk (C := True) (npc := 125) (L' := [(0, .inr 86), (2, .inl x2), (3, .inl x3), (4, .inl x4), (5, .inl x5), (6, .inl x6), (7, .inl x7)]) (st' := [.inl 11, .inl x6]) (m' := m) [((121, .iload 6, 2, 0, 0, 0, 0), (0, 0, 0)), ((123, .bipush 11, 2, 0, 0, 0, 0), (0, 0, 0))] (by decide +kernel) rfl trivial ?_
        refine gx_cmp .eq 135 (by decide +kernel) (fun c4 => ?_) (fun c4 => ?_)
        · have c4 : x6 = 11 := c4
          have e2 : gx_w (x3 - 1) = x3 - 1 := gx_w_id (by omega) (by omega)
          refine gx_blk (C := (True ∧ (0 ≤ (gx_w (x3 - 1)) ∧ (gx_w (x3 - 1)) < 260))) (npc := 147) (L' := [(0, .inr 86), (2, .inl x2), (3, .inl x3), (4, .inl x4), (5, .inl x5), (6, .inl x6), (7, .inl x7)]) (st' := [.inl 12, .inl x6, .inl (m 102 (gx_w (x3 - 1)).toNat)]) (m' := m) [((135, .aload_n 0, 1, 0, 0, 0, 0), (0, 0, 0)), ((136, .getfield 56, 3, 10, 25, 5138, 0), (1, 86, 102)), ((139, .iload_n 3, 1, 0, 0, 0, 0), (0, 0, 0)), ((140, .iconst 1, 1, 0, 0, 0, 0), (0, 0, 0)), ((141, .isub, 1, 0, 0, 0, 0), (0, 0, 0)), ((142, .iaload, 1, 0, 0, 0, 0), (0, 102, 260)), ((143, .iload 6, 2, 0, 0, 0, 0), (0, 0, 0)), ((145, .bipush 12, 2, 0, 0, 0, 0), (0, 0, 0))] (by decide +kernel) rfl ⟨trivial, (by rw [e2]; exact (k1 c1 c2 c3 c4))⟩ ?_
          rw [e2]
          refine gx_cmp .ne 154 (by decide +kernel) (fun c5 => ?_) (fun c5 => ?_)
          · have c5 : x6 ≠ 12 := c5
            refine gx_blk (C := True) (npc := 155) (L' := [(0, .inr 86), (2, .inl x2), (3, .inl x3), (4, .inl x4), (5, .inl x5), (6, .inl x6), (7, .inl x7)]) (st' := [.inl 0, .inl (m 102 (x3 - 1).toNat)]) (m' := m) [((154, .iconst 0, 1, 0, 0, 0, 0), (0, 0, 0))] (by decide +kernel) rfl trivial ?_
            refine gx_cmp .ne 168 (by decide +kernel) (fun c6 => ?_) (fun c6 => ?_)
            · have c6 : (m 102 (x3 - 1).toNat) ≠ 0 := c6
              have e3 : gx_w (x3 - 1) = x3 - 1 := gx_w_id (by omega) (by omega)
              refine gx_blk (C := True) (npc := 16) (L' := [(0, .inr 86), (2, .inl x2), (3, .inl (gx_w (x3 - 1))), (4, .inl x4), (5, .inl x5), (6, .inl x6), (7, .inl x7)]) (st' := []) (m' := m) [((168, .iload_n 3, 1, 0, 0, 0, 0), (0, 0, 0)), ((169, .iconst 1, 1, 0, 0, 0, 0), (0, 0, 0)), ((170, .isub, 1, 0, 0, 0, 0), (0, 0, 0)), ((171, .istore_n 3, 1, 0, 0, 0, 0), (0, 0, 0)), ((172, .goto 58, 3, 0, 0, 0, 0), (0, 0, 0)), ((230, .goto (-214), 3, 0, 0, 0, 0), (0, 0, 0))] (by decide +kernel) rfl trivial ?_
              rw [e3]
              exact gx_to_pick [0, 2, 3, 4, 5] (h2 c1 c2 c3 c4 c5 c6)
            · have c6 : (m 102 (x3 - 1).toNat) = 0 := by have h : ¬ ((m 102 (x3 - 1).toNat) ≠ 0) := c6; omega
              have e4 : gx_w (x4 + x7) = x4 + x7 := gx_w_id (by omega) (by omega)
              refine gx_blk (C := True) (npc := 16) (L' := [(0, .inr 86), (2, .inl x2), (3, .inl x3), (4, .inl x4), (5, .inl (gx_w (x4 + x7))), (6, .inl x6), (7, .inl x7)]) (st' := []) (m' := m) [((158, .iload 4, 2, 0, 0, 0, 0), (0, 0, 0)), ((160, .iload 7, 2, 0, 0, 0, 0), (0, 0, 0)), ((162, .iadd, 1, 0, 0, 0, 0), (0, 0, 0)), ((163, .istore 5, 2, 0, 0, 0, 0), (0, 0, 0)), ((165, .goto 65, 3, 0, 0, 0, 0), (0, 0, 0)), ((230, .goto (-214), 3, 0, 0, 0, 0), (0, 0, 0))] (by decide +kernel) rfl trivial ?_
              rw [e4]
              exact gx_to_pick [0, 2, 3, 4, 5] (h3 c1 c2 c3 c4 c5 c6)
          · have c5 : x6 = 12 := by have h : ¬ (x6 ≠ 12) := c5; omega
            exfalso; omega
        · have c4 : x6 ≠ 11 := c4
          refine gx_blk (C := True) (npc := 132) (L' := [(0, .inr 86), (2, .inl x2), (3, .inl x3), (4, .inl x4), (5, .inl x5), (6, .inl x6), (7, .inl x7)]) (st' := [.inl 12, .inl x6]) (m' := m) [((128, .iload 6, 2, 0, 0, 0, 0), (0, 0, 0)), ((130, .bipush 12, 2, 0, 0, 0, 0), (0, 0, 0))] (by decide +kernel) rfl trivial ?_
          refine gx_cmp .ne 175 (by decide +kernel) (fun c5 => ?_) (fun c5 => ?_)
          · have c5 : x6 ≠ 12 := c5
            have e5 : gx_w (x3 - 1) = x3 - 1 := gx_w_id (by omega) (by omega)
            refine gx_blk (C := True) (npc := 182) (L' := [(0, .inr 86), (2, .inl x2), (3, .inl (gx_w (x3 - 1))), (4, .inl x4), (5, .inl x5), (6, .inl x6), (7, .inl x7)]) (st' := [.inl 5, .inl x6]) (m' := m) [((175, .iload_n 3, 1, 0, 0, 0, 0), (0, 0, 0)), ((176, .iconst 1, 1, 0, 0, 0, 0), (0, 0, 0)), ((177, .isub, 1, 0, 0, 0, 0), (0, 0, 0)), ((178, .istore_n 3, 1, 0, 0, 0, 0), (0, 0, 0)), ((179, .iload 6, 2, 0, 0, 0, 0), (0, 0, 0)), ((181, .iconst 5, 1, 0, 0, 0, 0), (0, 0, 0))] (by decide +kernel) rfl trivial ?_
            rw [e5]
            refine gx_cmp .eq 192 (by decide +kernel) (fun c6 => ?_) (fun c6 => ?_)
            · have c6 : x6 = 5 := c6
              refine gx_blk (C := (True ∧ (0 ≤ (x3 - 1) ∧ (x3 - 1) < 260))) (npc := 198) (L' := [(0, .inr 86), (2, .inl x2), (3, .inl (x3 - 1)), (4, .inl x4), (5, .inl x5), (6, .inl x6), (7, .inl x7)]) (st' := [.inl (m 102 (x3 - 1).toNat)]) (m' := m) [((192, .aload_n 0, 1, 0, 0, 0, 0), (0, 0, 0)), ((193, .getfield 56, 3, 10, 25, 5138, 0), (1, 86, 102)), ((196, .iload_n 3, 1, 0, 0, 0, 0), (0, 0, 0)), ((197, .iaload, 1, 0, 0, 0, 0), (0, 102, 260))] (by decide +kernel) rfl ⟨trivial, (k2 c1 c2 c3 c4 c5 c6)⟩ ?_
              refine gx_if .ne 203 (by decide +kernel) (fun c7 => ?_) (fun c7 => ?_)
              · have c7 : (m 102 (x3 - 1).toNat) ≠ 0 := c7
                have e6 : gx_w ((x3 - 1) - 1) = (x3 - 1) - 1 := gx_w_id (by omega) (by omega)
                have e7 : gx_w ((x3 - 1) - 1) = (x3 - 1) - 1 := gx_w_id (by omega) (by omega)
                refine gx_blk (C := (((True ∧ (0 ≤ (gx_w ((x3 - 1) - 1)) ∧ (gx_w ((x3 - 1) - 1)) < 260))) ∧ (0 ≤ (x3 - 1) ∧ (x3 - 1) < 260))) (npc := 226) (L' := [(0, .inr 86), (2, .inl x2), (3, .inl (x3 - 1)), (4, .inl x4), (5, .inl x5), (6, .inl x6), (7, .inl x7)]) (st' := [.inl (m 102 (x3 - 1).toNat), .inl (m 102 (gx_w ((x3 - 1) - 1)).toNat), .inl x6, .inl (gx_w ((x3 - 1) - 1)), .inr 102]) (m' := m) [((203, .aload_n 0, 1, 0, 0, 0, 0), (0, 0, 0)), ((204, .getfield 56, 3, 10, 25, 5138, 0), (1, 86, 102)), ((207, .iload_n 3, 1, 0, 0, 0, 0), (0, 0, 0)), ((208, .iconst 1, 1, 0, 0, 0, 0), (0, 0, 0)), ((209, .isub, 1, 0, 0, 0, 0), (0, 0, 0)), ((210, .iload 6, 2, 0, 0, 0, 0), (0, 0, 0)), ((212, .aload_n 0, 1, 0, 0, 0, 0), (0, 0, 0)), ((213, .getfield 56, 3, 10, 25, 5138, 0), (1, 86, 102)), ((216, .iload_n 3, 1, 0, 0, 0, 0), (0, 0, 0)), ((217, .iconst 1, 1, 0, 0, 0, 0), (0, 0, 0)), ((218, .isub, 1, 0, 0, 0, 0), (0, 0, 0)), ((219, .iaload, 1, 0, 0, 0, 0), (0, 102, 260)), ((220, .aload_n 0, 1, 0, 0, 0, 0), (0, 0, 0)), ((221, .getfield 56, 3, 10, 25, 5138, 0), (1, 86, 102)), ((224, .iload_n 3, 1, 0, 0, 0, 0), (0, 0, 0)), ((225, .iaload, 1, 0, 0, 0, 0), (0, 102, 260))] (by decide +kernel) rfl ⟨⟨trivial, (by rw [e6]; exact (k3 c1 c2 c3 c4 c5 c6 c7))⟩, (k4 c1 c2 c3 c4 c5 c6 c7)⟩ ?_
                rw [e6]
                exact gx_calls (E := (226, .invokestatic 228, 3, 209, 0, 6206, 0)) (M' := yp_m209) [.inl x6, .inl (m 102 ((x3 - 1) - 1).toNat), .inl (m 102 (x3 - 1).toNat)] [.inl ((x3 - 1) - 1), .inr 102] rfl (by decide +kernel) rfl ⟨rfl, rfl⟩ rfl rfl (Nat.le_of_ble_eq_true rfl) (Nat.le_of_ble_eq_true rfl) rfl (gx_to_mono (h4 c1 c2 c3 c4 c5 c6 c7) (fun r m' h' => gx_to_pick [0, 2, 3, 4, 5] h'))
              · have c7 : (m 102 (x3 - 1).toNat) = 0 := by have h : ¬ ((m 102 (x3 - 1).toNat) ≠ 0) := c7; omega
                refine gx_blk (C := True) (npc := 202) (L' := [(0, .inr 86), (2, .inl x2), (3, .inl (x3 - 1)), (4, .inl x4), (5, .inl x5), (6, .inl x6), (7, .inl x7)]) (st' := [.inl 0]) (m' := m) [((201, .iconst 0, 1, 0, 0, 0, 0), (0, 0, 0))] (by decide +kernel) rfl trivial ?_
                exact gx_reti (by decide +kernel) (h5 c1 c2 c3 c4 c5 c6 c7)
            · have c6 : x6 ≠ 5 := c6
              refine gx_blk (C := True) (npc := 189) (L' := [(0, .inr 86), (2, .inl x2), (3, .inl (x3 - 1)), (4, .inl x4), (5, .inl x5), (6, .inl x6), (7, .inl x7)]) (st' := [.inl 6, .inl x6]) (m' := m) [((185, .iload 6, 2, 0, 0, 0, 0), (0, 0, 0)), ((187, .bipush 6, 2, 0, 0, 0, 0), (0, 0, 0))] (by decide +kernel) rfl trivial ?_
              refine gx_cmp .ne 203 (by decide +kernel) (fun c7 => ?_) (fun c7 => ?_)
              · have c7 : x6 ≠ 6 := c7
                have e8 : gx_w ((x3 - 1) - 1) = (x3 - 1) - 1 := gx_w_id (by omega) (by omega)
                have e9 : gx_w ((x3 - 1) - 1) = (x3 - 1) - 1 := gx_w_id (by omega) (by omega)
                refine gx_blk (C := (((True ∧ (0 ≤ (gx_w ((x3 - 1) - 1)) ∧ (gx_w ((x3 - 1) - 1)) < 260))) ∧ (0 ≤ (x3 - 1) ∧ (x3 - 1) < 260))) (npc := 226) (L' := [(0, .inr 86), (2, .inl x2), (3, .inl (x3 - 1)), (4, .inl x4), (5, .inl x5), (6, .inl x6), (7, .inl x7)]) (st' := [.inl (m 102 (x3 - 1).toNat), .inl (m 102 (gx_w ((x3 - 1) - 1)).toNat), .inl x6, .inl (gx_w ((x3 - 1) - 1)), .inr 102]) (m' := m) [((203, .aload_n 0, 1, 0, 0, 0, 0), (0, 0, 0)), ((204, .getfield 56, 3, 10, 25, 5138, 0), (1, 86, 102)), ((207, .iload_n 3, 1, 0, 0, 0, 0), (0, 0, 0)), ((208, .iconst 1, 1, 0, 0, 0, 0), (0, 0, 0)), ((209, .isub, 1, 0, 0, 0, 0), (0, 0, 0)), ((210, .iload 6, 2, 0, 0, 0, 0), (0, 0, 0)), ((212, .aload_n 0, 1, 0, 0, 0, 0), (0, 0, 0)), ((213, .getfield 56, 3, 10, 25, 5138, 0), (1, 86, 102)), ((216, .iload_n 3, 1, 0, 0, 0, 0), (0, 0, 0)), ((217, .iconst 1, 1, 0, 0, 0, 0), (0, 0, 0)), ((218, .isub, 1, 0, 0, 0, 0), (0, 0, 0)), ((219, .iaload, 1, 0, 0, 0, 0), (0, 102, 260)), ((220, .aload_n 0, 1, 0, 0, 0, 0), (0, 0, 0)), ((221, .getfield 56, 3, 10, 25, 5138, 0), (1, 86, 102)), ((224, .iload_n 3, 1, 0, 0, 0, 0), (0, 0, 0)), ((225, .iaload, 1, 0, 0, 0, 0), (0, 102, 260))] (by decide +kernel) rfl ⟨⟨trivial, (by rw [e8]; exact (k5 c1 c2 c3 c4 c5 c6 c7))⟩, (k6 c1 c2 c3 c4 c5 c6 c7)⟩ ?_
                rw [e8]
                exact gx_calls (E := (226, .invokestatic 228, 3, 209, 0, 6206, 0)) (M' := yp_m209) [.inl x6, .inl (m 102 ((x3 - 1) - 1).toNat), .inl (m 102 (x3 - 1).toNat)] [.inl ((x3 - 1) - 1), .inr 102] rfl (by decide +kernel) rfl ⟨rfl, rfl⟩ rfl rfl (Nat.le_of_ble_eq_true rfl) (Nat.le_of_ble_eq_true rfl) rfl (gx_to_mono (h6 c1 c2 c3 c4 c5 c6 c7) (fun r m' h' => gx_to_pick [0, 2, 3, 4, 5] h'))
              · have c7 : x6 = 6 := by have h : ¬ (x6 ≠ 6) := c7; omega
                refine gx_blk (C := (True ∧ (0 ≤ (x3 - 1) ∧ (x3 - 1) < 260))) (npc := 198) (L' := [(0, .inr 86), (2, .inl x2), (3, .inl (x3 - 1)), (4, .inl x4), (5, .inl x5), (6, .inl x6), (7, .inl x7)]) (st' := [.inl (m 102 (x3 - 1).toNat)]) (m' := m) [((192, .aload_n 0, 1, 0, 0, 0, 0), (0, 0, 0)), ((193, .getfield 56, 3, 10, 25, 5138, 0), (1, 86, 102)), ((196, .iload_n 3, 1, 0, 0, 0, 0), (0, 0, 0)), ((197, .iaload, 1, 0, 0, 0, 0), (0, 102, 260))] (by decide +kernel) rfl ⟨trivial, (k7 c1 c2 c3 c4 c5 c6 c7)⟩ ?_
                refine gx_if .ne 203 (by decide +kernel) (fun c8 => ?_) (fun c8 => ?_)
                · have c8 : (m 102 (x3 - 1).toNat) ≠ 0 := c8
                  have e10 : gx_w ((x3 - 1) - 1) = (x3 - 1) - 1 := gx_w_id (by omega) (by omega)
                  have e11 : gx_w ((x3 - 1) - 1) = (x3 - 1) - 1 := gx_w_id (by omega) (by omega)
                  refine gx_blk (C := (((True ∧ (0 ≤ (gx_w ((x3 - 1) - 1)) ∧ (gx_w ((x3 - 1) - 1)) < 260))) ∧ (0 ≤ (x3 - 1) ∧ (x3 - 1) < 260))) (npc := 226) (L' := [(0, .inr 86), (2, .inl x2), (3, .inl (x3 - 1)), (4, .inl x4), (5, .inl x5), (6, .inl x6), (7, .inl x7)]) (st' := [.inl (m 102 (x3 - 1).toNat), .inl (m 102 (gx_w ((x3 - 1) - 1)).toNat), .inl x6, .inl (gx_w ((x3 - 1) - 1)), .inr 102]) (m' := m) [((203, .aload_n 0, 1, 0, 0, 0, 0), (0, 0, 0)), ((204, .getfield 56, 3, 10, 25, 5138, 0), (1, 86, 102)), ((207, .iload_n 3, 1, 0, 0, 0, 0), (0, 0, 0)), ((208, .iconst 1, 1, 0, 0, 0, 0), (0, 0, 0)), ((209, .isub, 1, 0, 0, 0, 0), (0, 0, 0)), ((210, .iload 6, 2, 0, 0, 0, 0), (0, 0, 0)), ((212, .aload_n 0, 1, 0, 0, 0, 0), (0, 0, 0)), ((213, .getfield 56, 3, 10, 25, 5138, 0), (1, 86, 102)), ((216, .iload_n 3, 1, 0, 0, 0, 0), (0, 0, 0)), ((217, .iconst 1, 1, 0, 0, 0, 0), (0, 0, 0)), ((218, .isub, 1, 0, 0, 0, 0), (0, 0, 0)), ((219, .iaload, 1, 0, 0, 0, 0), (0, 102, 260)), ((220, .aload_n 0, 1, 0, 0, 0, 0), (0, 0, 0)), ((221, .getfield 56, 3, 10, 25, 5138, 0), (1, 86, 102)), ((224, .iload_n 3, 1, 0, 0, 0, 0), (0, 0, 0)), ((225, .iaload, 1, 0, 0, 0, 0), (0, 102, 260))] (by decide +kernel) rfl ⟨⟨trivial, (by rw [e10]; exact (k8 c1 c2 c3 c4 c5 c6 c7 c8))⟩, (k9 c1 c2 c3 c4 c5 c6 c7 c8)⟩ ?_
                  rw [e10]
                  exact gx_calls (E := (226, .invokestatic 228, 3, 209, 0, 6206, 0)) (M' := yp_m209) [.inl x6, .inl (m 102 ((x3 - 1) - 1).toNat), .inl (m 102 (x3 - 1).toNat)] [.inl ((x3 - 1) - 1), .inr 102] rfl (by decide +kernel) rfl ⟨rfl, rfl⟩ rfl rfl (Nat.le_of_ble_eq_true rfl) (Nat.le_of_ble_eq_true rfl) rfl (gx_to_mono (h7 c1 c2 c3 c4 c5 c6 c7 c8) (fun r m' h' => gx_to_pick [0, 2, 3, 4, 5] h'))
                · have c8 : (m 102 (x3 - 1).toNat) = 0 := by have h : ¬ ((m 102 (x3 - 1).toNat) ≠ 0) := c8; omega
                  refine gx_blk (C := True) (npc := 202) (L' := [(0, .inr 86), (2, .inl x2), (3, .inl (x3 - 1)), (4, .inl x4), (5, .inl x5), (6, .inl x6), (7, .inl x7)]) (st' := [.inl 0]) (m' := m) [((201, .iconst 0, 1, 0, 0, 0, 0), (0, 0, 0))] (by decide +kernel) rfl trivial ?_
                  exact gx_reti (by decide +kernel) (h8 c1 c2 c3 c4 c5 c6 c7 c8)
          · have c5 : x6 = 12 := by have h : ¬ (x6 ≠ 12) := c5; omega
            have e12 : gx_w (x3 - 1) = x3 - 1 := gx_w_id (by omega) (by omega)
            refine gx_blk (C := (True ∧ (0 ≤ (gx_w (x3 - 1)) ∧ (gx_w (x3 - 1)) < 260))) (npc := 147) (L' := [(0, .inr 86), (2, .inl x2), (3, .inl x3), (4, .inl x4), (5, .inl x5), (6, .inl x6), (7, .inl x7)]) (st' := [.inl 12, .inl x6, .inl (m 102 (gx_w (x3 - 1)).toNat)]) (m' := m) [((135, .aload_n 0, 1, 0, 0, 0, 0), (0, 0, 0)), ((136, .getfield 56, 3, 10, 25, 5138, 0), (1, 86, 102)), ((139, .iload_n 3, 1, 0, 0, 0, 0), (0, 0, 0)), ((140, .iconst 1, 1, 0, 0, 0, 0), (0, 0, 0)), ((141, .isub, 1, 0, 0, 0, 0), (0, 0, 0)), ((142, .iaload, 1, 0, 0, 0, 0), (0, 102, 260)), ((143, .iload 6, 2, 0, 0, 0, 0), (0, 0, 0)), ((145, .bipush 12, 2, 0, 0, 0, 0), (0, 0, 0))] (by decide +kernel) rfl ⟨trivial, (by rw [e12]; exact (k10 c1 c2 c3 c4 c5))⟩ ?_
            rw [e12]
            refine gx_cmp .ne 154 (by decide +kernel) (fun c6 => ?_) (fun c6 => ?_)
            · have c6 : x6 ≠ 12 := c6
              exfalso; omega
            · have c6 : x6 = 12 := by have h : ¬ (x6 ≠ 12) := c6; omega
              refine gx_blk (C := True) (npc := 155) (L' := [(0, .inr 86), (2, .inl x2), (3, .inl x3), (4, .inl x4), (5, .inl x5), (6, .inl x6), (7, .inl x7)]) (st' := [.inl 1, .inl (m 102 (x3 - 1).toNat)]) (m' := m) [((150, .iconst 1, 1, 0, 0, 0, 0), (0, 0, 0)), ((151, .goto 4, 3, 0, 0, 0, 0), (0, 0, 0))] (by decide +kernel) rfl trivial ?_
              refine gx_cmp .ne 168 (by decide +kernel) (fun c7 => ?_) (fun c7 => ?_)
              · have c7 : (m 102 (x3 - 1).toNat) ≠ 1 := c7
                have e13 : gx_w (x3 - 1) = x3 - 1 := gx_w_id (by omega) (by omega)
                refine gx_blk (C := True) (npc := 16) (L' := [(0, .inr 86), (2, .inl x2), (3, .inl (gx_w (x3 - 1))), (4, .inl x4), (5, .inl x5), (6, .inl x6), (7, .inl x7)]) (st' := []) (m' := m) [((168, .iload_n 3, 1, 0, 0, 0, 0), (0, 0, 0)), ((169, .iconst 1, 1, 0, 0, 0, 0), (0, 0, 0)), ((170, .isub, 1, 0, 0, 0, 0), (0, 0, 0)), ((171, .istore_n 3, 1, 0, 0, 0, 0), (0, 0, 0)), ((172, .goto 58, 3, 0, 0, 0, 0), (0, 0, 0)), ((230, .goto (-214), 3, 0, 0, 0, 0), (0, 0, 0))] (by decide +kernel) rfl trivial ?_
                rw [e13]
                exact gx_to_pick [0, 2, 3, 4, 5] (h9 c1 c2 c3 c4 c5 c6 c7)
              · have c7 : (m 102 (x3 - 1).toNat) = 1 := by have h : ¬ ((m 102 (x3 - 1).toNat) ≠ 1) := c7; omega
                have e14 : gx_w (x4 + x7) = x4 + x7 := gx_w_id (by omega) (by omega)
                refine gx_blk (C := True) (npc := 16) (L' := [(0, .inr 86), (2, .inl x2), (3, .inl x3), (4, .inl x4), (5, .inl (gx_w (x4 + x7))), (6, .inl x6), (7, .inl x7)]) (st' := []) (m' := m) [((158, .iload 4, 2, 0, 0, 0, 0), (0, 0, 0)), ((160, .iload 7, 2, 0, 0, 0, 0), (0, 0, 0)), ((162, .iadd, 1, 0, 0, 0, 0), (0, 0, 0)), ((163, .istore 5, 2, 0, 0, 0, 0), (0, 0, 0)), ((165, .goto 65, 3, 0, 0, 0, 0), (0, 0, 0)), ((230, .goto (-214), 3, 0, 0, 0, 0), (0, 0, 0))] (by decide +kernel) rfl trivial ?_
                rw [e14]
                exact gx_to_pick [0, 2, 3, 4, 5] (h10 c1 c2 c3 c4 c5 c6 c7)
      · have c3 : x6 = 10 := by have h : ¬ (x6 ≠ 10) := c3; omega
        have e15 : gx_w (x3 - 1) = x3 - 1 := gx_w_id (by omega) (by omega)
        have e16 : gx_w (x3 - 1) = x3 - 1 := gx_w_id (by omega) (by omega)
        refine gx_blk (C := (((True ∧ (0 ≤ (gx_w (x3 - 1)) ∧ (gx_w (x3 - 1)) < 260))) ∧ (0 ≤ (gx_w (x3 - 1)) ∧ (gx_w (x3 - 1)) < 260))) (npc := 16) (L' := [(0, .inr 86), (2, .inl x2), (3, .inl x3), (4, .inl x4), (5, .inl x5), (6, .inl x6), (7, .inl x7)]) (st' := []) (m' := (gx_u m 102 (gx_w (x3 - 1)).toNat (gx_w (1 - (m 102 (gx_w (x3 - 1)).toNat))))) [((100, .aload_n 0, 1, 0, 0, 0, 0), (0, 0, 0)), ((101, .getfield 56, 3, 10, 25, 5138, 0), (1, 86, 102)), ((104, .iload_n 3, 1, 0, 0, 0, 0), (0, 0, 0)), ((105, .iconst 1, 1, 0, 0, 0, 0), (0, 0, 0)), ((106, .isub, 1, 0, 0, 0, 0), (0, 0, 0)), ((107, .iconst 1, 1, 0, 0, 0, 0), (0, 0, 0)), ((108, .aload_n 0, 1, 0, 0, 0, 0), (0, 0, 0)), ((109, .getfield 56, 3, 10, 25, 5138, 0), (1, 86, 102)), ((112, .iload_n 3, 1, 0, 0, 0, 0), (0, 0, 0)), ((113, .iconst 1, 1, 0, 0, 0, 0), (0, 0, 0)), ((114, .isub, 1, 0, 0, 0, 0), (0, 0, 0)), ((115, .iaload, 1, 0, 0, 0, 0), (0, 102, 260)), ((116, .isub, 1, 0, 0, 0, 0), (0, 0, 0)), ((117, .iastore, 1, 0, 0, 0, 0), (0, 102, 260)), ((118, .goto 112, 3, 0, 0, 0, 0), (0, 0, 0)), ((230, .goto (-214), 3, 0, 0, 0, 0), (0, 0, 0))] (by decide +kernel) rfl ⟨⟨trivial, (by rw [e15]; exact (k11 c1 c2 c3))⟩, (by rw [e15]; exact (k12 c1 c2 c3))⟩ ?_
        rw [e15]
        exact gx_to_pick [0, 2, 3, 4, 5] (h11 c1 c2 c3)
    · have c2 : x6 = 1 := by have h : ¬ (x6 ≠ 1) := c2; omega
      refine gx_blk (C := True) (npc := 70) (L' := [(0, .inr 86), (2, .inl x2), (3, .inl x3), (4, .inl x4), (5, .inl x5), (6, .inl x6), (7, .inl x7)]) (st' := [.inl x6, .inl x3, .inr 102]) (m' := m) [((63, .aload_n 0, 1, 0, 0, 0, 0), (0, 0, 0)), ((64, .getfield 56, 3, 10, 25, 5138, 0), (1, 86, 102)), ((67, .iload_n 3, 1, 0, 0, 0, 0), (0, 0, 0)), ((68, .iload 6, 2, 0, 0, 0, 0), (0, 0, 0))] (by decide +kernel) rfl trivial ?_
      refine gx_if .ne 78 (by decide +kernel) (fun c3 => ?_) (fun c3 => ?_)
      · have c3 : x6 ≠ 0 := c3
        have e17 : gx_w (x3 + 1) = x3 + 1 := gx_w_id (by omega) (by omega)
        refine gx_blk (C := (((True ∧ (0 ≤ x7 ∧ x7 < 14))) ∧ (0 ≤ x3 ∧ x3 < 260))) (npc := 16) (L' := [(0, .inr 86), (2, .inl x2), (3, .inl (gx_w (x3 + 1))), (4, .inl x4), (5, .inl x5), (6, .inl x6), (7, .inl x7)]) (st' := []) (m' := (gx_u m 102 (x3).toNat (m 103 (x7).toNat))) [((78, .aload_n 0, 1, 0, 0, 0, 0), (0, 0, 0)), ((79, .getfield 59, 3, 10, 26, 5139, 0), (1, 86, 103)), ((82, .iload 7, 2, 0, 0, 0, 0), (0, 0, 0)), ((84, .iaload, 1, 0, 0, 0, 0), (0, 103, 14)), ((85, .iastore, 1, 0, 0, 0, 0), (0, 102, 260)), ((86, .iload_n 3, 1, 0, 0, 0, 0), (0, 0, 0)), ((87, .iconst 1, 1, 0, 0, 0, 0), (0, 0, 0)), ((88, .iadd, 1, 0, 0, 0, 0), (0, 0, 0)), ((89, .istore_n 3, 1, 0, 0, 0, 0), (0, 0, 0)), ((90, .goto 140, 3, 0, 0, 0, 0), (0, 0, 0)), ((230, .goto (-214), 3, 0, 0, 0, 0), (0, 0, 0))] (by decide +kernel) rfl ⟨⟨trivial, (k13 c1 c2 c3)⟩, (by omega)⟩ ?_
        rw [e17]
        exact gx_to_pick [0, 2, 3, 4, 5] (h12 c1 c2 c3)
      · have c3 : x6 = 0 := by have h : ¬ (x6 ≠ 0) := c3; omega
        exfalso; omega

/-- comesTo from 229 on -/
theorem gt208_229 {xs : List Int32} {w0 : sx_W} {d : Nat} {Q : gx_Q} {m : gx_M} {x2 x3 x4 x5 s1 s2 : Int} (r_x2 : 0 ≤ x2 ∧ x2 ≤ 250) (r_x3 : 0 ≤ x3 ∧ x3 ≤ 250) (r_x4 : 0 ≤ x4 ∧ x4 ≤ 0) (r_x5 : 0 ≤ x5 ∧ x5 ≤ 250) (r_s1 : 0 ≤ s1 ∧ s1 ≤ 250)
    (h1 : gx_to xs w0 d yp_m208 16 [(0, .inr 86), (2, .inl x2), (3, .inl x3), (4, .inl x4), (5, .inl x5)] [] (gx_u m 102 (s1).toNat s2) Q) : gx_to xs w0 d yp_m208 229 [(0, .inr 86), (2, .inl x2), (3, .inl x3), (4, .inl x4), (5, .inl x5)] [.inl s2, .inl s1, .inr 102] m Q := by
  refine gx_blk (C := (True ∧ (0 ≤ s1 ∧ s1 < 260))) (npc := 16) (L' := [(0, .inr 86), (2, .inl x2), (3, .inl x3), (4, .inl x4), (5, .inl x5)]) (st' := []) (m' := (gx_u m 102 (s1).toNat s2)) [((229, .iastore, 1, 0, 0, 0, 0), (0, 102, 260)), ((230, .goto (-214), 3, 0, 0, 0, 0), (0, 0, 0))] (by decide +kernel) rfl ⟨trivial, (by omega)⟩ ?_
  exact gx_to_pick [0, 2, 3, 4, 5] h1

/-- byLaw from 0 on -/
theorem gt225_0 {xs : List Int32} {w0 : sx_W} {d : Nat} {Q : gx_Q} {m : gx_M} {x1 x2 : Int}
    (h1 : gx_to xs w0 d yp_m225 2 [(0, .inr 86), (1, .inl x1), (2, .inl x2), (3, .inl 0)] [] m Q) : gx_to xs w0 d yp_m225 0 [(0, .inr 86), (1, .inl x1), (2, .inl x2)] [] m Q := by
  refine gx_blk (C := True) (npc := 2) (L' := [(0, .inr 86), (1, .inl x1), (2, .inl x2), (3, .inl 0)]) (st' := []) (m' := m) [((0, .iconst 0, 1, 0, 0, 0, 0), (0, 0, 0)), ((1, .istore_n 3, 1, 0, 0, 0, 0), (0, 0, 0))] (by decide +kernel) rfl trivial ?_
  exact gx_to_pick [0, 1, 2, 3] h1

/-- byLaw from 2 on -/
theorem gt225_2 {xs : List Int32} {w0 : sx_W} {d : Nat} {Q : gx_Q} {m : gx_M} {x1 x2 x3 : Int} (hI : gx_I m) (r_x3 : 0 ≤ x3 ∧ x3 ≤ 16)
    (h1 : ((m 86 13) ≤ x3) → Q (some 0) m)
    (h2 : (x3 < (m 86 13)) → ((m 98 (x3).toNat) ≠ x1) → gx_to xs w0 (d + 1) yp_m225 2 [(0, .inr 86), (1, .inl x1), (2, .inl x2), (3, .inl (x3 + 1))] [] m Q)
    (h3 : (x3 < (m 86 13)) → ((m 98 (x3).toNat) = x1) → gx_to xs w0 d yp_m208 0 [(0, .inr 86), (1, .inl (m 100 (x3).toNat)), (2, .inl (m 101 (x3).toNat))] [] m (fun r m' => gx_to xs w0 (d + 1) yp_m225 36 [(0, .inr 86), (1, .inl x1), (2, .inl x2), (3, .inl x3)] (gx_rs r ++ []) m' Q)) : gx_to xs w0 (d + 1) yp_m225 2 [(0, .inr 86), (1, .inl x1), (2, .inl x2), (3, .inl x3)] [] m Q := by
  have f1 := gx_I_n hI 86 13 0 16 (by decide +kernel)
  refine gx_blk (C := True) (npc := 7) (L' := [(0, .inr 86), (1, .inl x1), (2, .inl x2), (3, .inl x3)]) (st' := [.inl (m 86 13), .inl x3]) (m' := m) [((2, .iload_n 3, 1, 0, 0, 0, 0), (0, 0, 0)), ((3, .aload_n 0, 1, 0, 0, 0, 0), (0, 0, 0)), ((4, .getfield 225, 3, 10, 13, 5126, 0), (0, 86, 0))] (by decide +kernel) rfl trivial ?_
  refine gx_cmp .ge 89 (by decide +kernel) (fun c1 => ?_) (fun c1 => ?_)
  · have c1 : (m 86 13) ≤ x3 := c1
    refine gx_blk (C := True) (npc := 90) (L' := [(0, .inr 86), (1, .inl x1), (2, .inl x2), (3, .inl x3)]) (st' := [.inl 0]) (m' := m) [((89, .iconst 0, 1, 0, 0, 0, 0), (0, 0, 0))] (by decide +kernel) rfl trivial ?_
    exact gx_reti (by decide +kernel) (h1 c1)
  · have c1 : x3 < (m 86 13) := by have h : ¬ ((m 86 13) ≤ x3) := c1; omega
    refine gx_blk (C := (True ∧ (0 ≤ x3 ∧ x3 < 16))) (npc := 17) (L' := [(0, .inr 86), (1, .inl x1), (2, .inl x2), (3, .inl x3)]) (st' := [.inl x1, .inl (m 98 (x3).toNat)]) (m' := m) [((10, .aload_n 0, 1, 0, 0, 0, 0), (0, 0, 0)), ((11, .getfield 44, 3, 10, 21, 5134, 0), (1, 86, 98)), ((14, .iload_n 3, 1, 0, 0, 0, 0), (0, 0, 0)), ((15, .iaload, 1, 0, 0, 0, 0), (0, 98, 16)), ((16, .iload_n 1, 1, 0, 0, 0, 0), (0, 0, 0))] (by decide +kernel) rfl ⟨trivial, (by omega)⟩ ?_
    refine gx_cmp .ne 83 (by decide +kernel) (fun c2 => ?_) (fun c2 => ?_)
    · have c2 : (m 98 (x3).toNat) ≠ x1 := c2
      have e2 : gx_w (x3 + 1) = x3 + 1 := gx_w_id (by omega) (by omega)
      refine gx_blk (C := True) (npc := 2) (L' := [(0, .inr 86), (1, .inl x1), (2, .inl x2), (3, .inl (gx_w (x3 + 1)))]) (st' := []) (m' := m) [((83, .iinc 3 1, 3, 0, 0, 0, 0), (0, 0, 0)), ((86, .goto (-84), 3, 0, 0, 0, 0), (0, 0, 0))] (by decide +kernel) rfl trivial ?_
      rw [e2]
      exact gx_to_pick [0, 1, 2, 3] (h2 c1 c2)
    · have c2 : (m 98 (x3).toNat) = x1 := by have h : ¬ ((m 98 (x3).toNat) ≠ x1) := c2; omega
      refine gx_blk (C := (((True ∧ (0 ≤ x3 ∧ x3 < 16))) ∧ (0 ≤ x3 ∧ x3 < 16))) (npc := 33) (L' := [(0, .inr 86), (1, .inl x1), (2, .inl x2), (3, .inl x3)]) (st' := [.inl (m 101 (x3).toNat), .inl (m 100 (x3).toNat), .inr 86]) (m' := m) [((20, .aload_n 0, 1, 0, 0, 0, 0), (0, 0, 0)), ((21, .aload_n 0, 1, 0, 0, 0, 0), (0, 0, 0)), ((22, .getfield 50, 3, 10, 23, 5136, 0), (1, 86, 100)), ((25, .iload_n 3, 1, 0, 0, 0, 0), (0, 0, 0)), ((26, .iaload, 1, 0, 0, 0, 0), (0, 100, 16)), ((27, .aload_n 0, 1, 0, 0, 0, 0), (0, 0, 0)), ((28, .getfield 53, 3, 10, 24, 5137, 0), (1, 86, 101)), ((31, .iload_n 3, 1, 0, 0, 0, 0), (0, 0, 0)), ((32, .iaload, 1, 0, 0, 0, 0), (0, 101, 16))] (by decide +kernel) rfl ⟨⟨trivial, (by omega)⟩, (by omega)⟩ ?_
      exact gx_callv (E := (33, .invokevirtual 232, 3, 208, 0, 6202, 0)) (M' := yp_m208) (c := 86) [.inl (m 100 (x3).toNat), .inl (m 101 (x3).toNat)] [] rfl (by decide +kernel) rfl ⟨rfl, rfl⟩ rfl rfl (Nat.le_of_ble_eq_true rfl) (Nat.le_of_ble_eq_true rfl) (by decide +kernel) (gx_to_mono (h3 c1 c2) (fun r m' h' => gx_to_pick [0, 1, 2, 3] h'))

/-- byLaw from 36 on -/
theorem gt225_36 {xs : List Int32} {w0 : sx_W} {d : Nat} {Q : gx_Q} {m : gx_M} {x1 x2 x3 s0 : Int} (r_x3 : 0 ≤ x3 ∧ x3 ≤ 15)
    (h1 : (s0 = 1) → gx_to xs w0 d yp_m208 0 [(0, .inr 86), (1, .inl (m 99 (x3).toNat)), (2, .inl (m 100 (x3).toNat))] [] m (fun r m' => gx_to xs w0 (d + 1) yp_m225 59 [(2, .inl x2)] (gx_rs r ++ []) m' Q))
    (h2 : (s0 ≠ 1) → gx_to xs w0 (d + 1) yp_m225 2 [(0, .inr 86), (1, .inl x1), (2, .inl x2), (3, .inl (x3 + 1))] [] m Q) : gx_to xs w0 (d + 1) yp_m225 36 [(0, .inr 86), (1, .inl x1), (2, .inl x2), (3, .inl x3)] [.inl s0] m Q := by
  refine gx_blk (C := True) (npc := 37) (L' := [(0, .inr 86), (1, .inl x1), (2, .inl x2), (3, .inl x3)]) (st' := [.inl 1, .inl s0]) (m' := m) [((36, .iconst 1, 1, 0, 0, 0, 0), (0, 0, 0))] (by decide +kernel) rfl trivial ?_
  refine gx_cmp .eq 43 (by decide +kernel) (fun c1 => ?_) (fun c1 => ?_)
  · have c1 : s0 = 1 := c1
    refine gx_blk (C := (((True ∧ (0 ≤ x3 ∧ x3 < 16))) ∧ (0 ≤ x3 ∧ x3 < 16))) (npc := 56) (L' := [(0, .inr 86), (1, .inl x1), (2, .inl x2), (3, .inl x3)]) (st' := [.inl (m 100 (x3).toNat), .inl (m 99 (x3).toNat), .inr 86]) (m' := m) [((43, .aload_n 0, 1, 0, 0, 0, 0), (0, 0, 0)), ((44, .aload_n 0, 1, 0, 0, 0, 0), (0, 0, 0)), ((45, .getfield 47, 3, 10, 22, 5135, 0), (1, 86, 99)), ((48, .iload_n 3, 1, 0, 0, 0, 0), (0, 0, 0)), ((49, .iaload, 1, 0, 0, 0, 0), (0, 99, 16)), ((50, .aload_n 0, 1, 0, 0, 0, 0), (0, 0, 0)), ((51, .getfield 50, 3, 10, 23, 5136, 0), (1, 86, 100)), ((54, .iload_n 3, 1, 0, 0, 0, 0), (0, 0, 0)), ((55, .iaload, 1, 0, 0, 0, 0), (0, 100, 16))] (by decide +kernel) rfl ⟨⟨trivial, (by omega)⟩, (by omega)⟩ ?_
    exact gx_callv (E := (56, .invokevirtual 232, 3, 208, 0, 6202, 0)) (M' := yp_m208) (c := 86) [.inl (m 99 (x3).toNat), .inl (m 100 (x3).toNat)] [] rfl (by decide +kernel) rfl ⟨rfl, rfl⟩ rfl rfl (Nat.le_of_ble_eq_true rfl) (Nat.le_of_ble_eq_true rfl) (by decide +kernel) (gx_to_mono (h1 c1) (fun r m' h' => gx_to_pick [2] h'))
  · have c1 : s0 ≠ 1 := c1
    have e1 : gx_w (x3 + 1) = x3 + 1 := gx_w_id (by omega) (by omega)
    refine gx_blk (C := True) (npc := 2) (L' := [(0, .inr 86), (1, .inl x1), (2, .inl x2), (3, .inl (gx_w (x3 + 1)))]) (st' := []) (m' := m) [((40, .goto 43, 3, 0, 0, 0, 0), (0, 0, 0)), ((83, .iinc 3 1, 3, 0, 0, 0, 0), (0, 0, 0)), ((86, .goto (-84), 3, 0, 0, 0, 0), (0, 0, 0))] (by decide +kernel) rfl trivial ?_
    rw [e1]
    exact gx_to_pick [0, 1, 2, 3] (h2 c1)

/-- byLaw from 59 on -/
theorem gt225_59 {xs : List Int32} {w0 : sx_W} {d : Nat} {Q : gx_Q} {m : gx_M} {x2 s0 : Int}
    (h1 : (0 ≤ s0) → (s0 ≤ x2) → Q (some s0) m)
    (h2 : (0 ≤ s0) → (x2 < s0) → Q (some x2) m)
    (h3 : (s0 < 0) → Q (some 0) m) : gx_to xs w0 d yp_m225 59 [(2, .inl x2)] [.inl s0] m Q := by
  refine gx_blk (C := True) (npc := 63) (L' := [(2, .inl x2), (4, .inl s0)]) (st' := [.inl s0]) (m' := m) [((59, .istore 4, 2, 0, 0, 0, 0), (0, 0, 0)), ((61, .iload 4, 2, 0, 0, 0, 0), (0, 0, 0))] (by decide +kernel) rfl trivial ?_
  refine gx_if .ge 70 (by decide +kernel) (fun c1 => ?_) (fun c1 => ?_)
  · have c1 : 0 ≤ s0 := c1
    refine gx_blk (C := True) (npc := 73) (L' := [(2, .inl x2), (4, .inl s0)]) (st' := [.inl x2, .inl s0]) (m' := m) [((70, .iload 4, 2, 0, 0, 0, 0), (0, 0, 0)), ((72, .iload_n 2, 1, 0, 0, 0, 0), (0, 0, 0))] (by decide +kernel) rfl trivial ?_
    refine gx_cmp .le 80 (by decide +kernel) (fun c2 => ?_) (fun c2 => ?_)
    · have c2 : s0 ≤ x2 := c2
      refine gx_blk (C := True) (npc := 82) (L' := [(2, .inl x2), (4, .inl s0)]) (st' := [.inl s0]) (m' := m) [((80, .iload 4, 2, 0, 0, 0, 0), (0, 0, 0))] (by decide +kernel) rfl trivial ?_
      exact gx_reti (by decide +kernel) (h1 c1 c2)
    · have c2 : x2 < s0 := by have h : ¬ (s0 ≤ x2) := c2; omega
      refine gx_blk (C := True) (npc := 82) (L' := [(2, .inl x2), (4, .inl s0)]) (st' := [.inl x2]) (m' := m) [((76, .iload_n 2, 1, 0, 0, 0, 0), (0, 0, 0)), ((77, .goto 5, 3, 0, 0, 0, 0), (0, 0, 0))] (by decide +kernel) rfl trivial ?_
      exact gx_reti (by decide +kernel) (h2 c1 c2)
  · have c1 : s0 < 0 := by have h : ¬ (0 ≤ s0) := c1; omega
    refine gx_blk (C := True) (npc := 82) (L' := [(2, .inl x2), (4, .inl s0)]) (st' := [.inl 0]) (m' := m) [((66, .iconst 0, 1, 0, 0, 0, 0), (0, 0, 0)), ((67, .goto 15, 3, 0, 0, 0, 0), (0, 0, 0))] (by decide +kernel) rfl trivial ?_
    exact gx_reti (by decide +kernel) (h3 c1)

/-- isBarred from 0 on -/
theorem gt201_0 {xs : List Int32} {w0 : sx_W} {d : Nat} {Q : gx_Q} {m : gx_M} {x1 x2 x3 : Int}
    (h1 : gx_to xs w0 d yp_m202 0 [(0, .inr 86), (1, .inl x1), (2, .inl x2), (3, .inl x3)] [] m (fun r m' => gx_to xs w0 (d + 1) yp_m201 7 [(0, .inr 86)] (gx_rs r ++ []) m' Q)) : gx_to xs w0 (d + 1) yp_m201 0 [(0, .inr 86), (1, .inl x1), (2, .inl x2), (3, .inl x3)] [] m Q := by
  refine gx_blk (C := True) (npc := 4) (L' := [(0, .inr 86), (1, .inl x1), (2, .inl x2), (3, .inl x3)]) (st' := [.inl x3, .inl x2, .inl x1, .inr 86]) (m' := m) [((0, .aload_n 0, 1, 0, 0, 0, 0), (0, 0, 0)), ((1, .iload_n 1, 1, 0, 0, 0, 0), (0, 0, 0)), ((2, .iload_n 2, 1, 0, 0, 0, 0), (0, 0, 0)), ((3, .iload_n 3, 1, 0, 0, 0, 0), (0, 0, 0))] (by decide +kernel) rfl trivial ?_
  exact gx_callv (E := (4, .invokevirtual 247, 3, 202, 0, 6179, 0)) (M' := yp_m202) (c := 86) [.inl x1, .inl x2, .inl x3] [] rfl (by decide +kernel) rfl ⟨rfl, rfl⟩ rfl rfl (Nat.le_of_ble_eq_true rfl) (Nat.le_of_ble_eq_true rfl) (by decide +kernel) (gx_to_mono h1 (fun r m' h' => gx_to_pick [0] h'))

/-- isBarred from 7 on -/
theorem gt201_7 {xs : List Int32} {w0 : sx_W} {d : Nat} {Q : gx_Q} {m : gx_M}
    (h1 : gx_to xs w0 d yp_m201 10 [(0, .inr 86), (4, .inl 0)] [] m Q) : gx_to xs w0 d yp_m201 7 [(0, .inr 86)] [] m Q := by
  refine gx_blk (C := True) (npc := 10) (L' := [(0, .inr 86), (4, .inl 0)]) (st' := []) (m' := m) [((7, .iconst 0, 1, 0, 0, 0, 0), (0, 0, 0)), ((8, .istore 4, 2, 0, 0, 0, 0), (0, 0, 0))] (by decide +kernel) rfl trivial ?_
  exact gx_to_pick [0, 4] h1

/-- isBarred from 10 on -/
theorem gt201_10 {xs : List Int32} {w0 : sx_W} {d : Nat} {Q : gx_Q} {m : gx_M} {x4 : Int} (hI : gx_I m) (r_x4 : 0 ≤ x4 ∧ x4 ≤ 16)
    (h1 : ((m 86 13) ≤ x4) → Q (some 0) m)
    (h2 : (x4 < (m 86 13)) → ((m 98 (x4).toNat) ≠ 110) → gx_to xs w0 (d + 1) yp_m201 10 [(0, .inr 86), (4, .inl (x4 + 1))] [] m Q)
    (h3 : (x4 < (m 86 13)) → ((m 98 (x4).toNat) = 110) → gx_to xs w0 d yp_m208 0 [(0, .inr 86), (1, .inl (m 100 (x4).toNat)), (2, .inl (m 101 (x4).toNat))] [] m (fun r m' => gx_to xs w0 (d + 1) yp_m201 49 [(0, .inr 86), (4, .inl x4)] (gx_rs r ++ []) m' Q)) : gx_to xs w0 (d + 1) yp_m201 10 [(0, .inr 86), (4, .inl x4)] [] m Q := by
  have f1 := gx_I_n hI 86 13 0 16 (by decide +kernel)
  refine gx_blk (C := True) (npc := 16) (L' := [(0, .inr 86), (4, .inl x4)]) (st' := [.inl (m 86 13), .inl x4]) (m' := m) [((10, .iload 4, 2, 0, 0, 0, 0), (0, 0, 0)), ((12, .aload_n 0, 1, 0, 0, 0, 0), (0, 0, 0)), ((13, .getfield 225, 3, 10, 13, 5126, 0), (0, 86, 0))] (by decide +kernel) rfl trivial ?_
  refine gx_cmp .ge 61 (by decide +kernel) (fun c1 => ?_) (fun c1 => ?_)
  · have c1 : (m 86 13) ≤ x4 := c1
    refine gx_blk (C := True) (npc := 62) (L' := [(0, .inr 86), (4, .inl x4)]) (st' := [.inl 0]) (m' := m) [((61, .iconst 0, 1, 0, 0, 0, 0), (0, 0, 0))] (by decide +kernel) rfl trivial ?_
    exact gx_retb (by decide +kernel) (by omega) (h1 c1)
  · have c1 : x4 < (m 86 13) := by have h : ¬ ((m 86 13) ≤ x4) := c1; omega
    refine gx_blk (C := (True ∧ (0 ≤ x4 ∧ x4 < 16))) (npc := 28) (L' := [(0, .inr 86), (4, .inl x4)]) (st' := [.inl 110, .inl (m 98 (x4).toNat)]) (m' := m) [((19, .aload_n 0, 1, 0, 0, 0, 0), (0, 0, 0)), ((20, .getfield 44, 3, 10, 21, 5134, 0), (1, 86, 98)), ((23, .iload 4, 2, 0, 0, 0, 0), (0, 0, 0)), ((25, .iaload, 1, 0, 0, 0, 0), (0, 98, 16)), ((26, .bipush 110, 2, 0, 0, 0, 0), (0, 0, 0))] (by decide +kernel) rfl ⟨trivial, (by omega)⟩ ?_
    refine gx_cmp .ne 55 (by decide +kernel) (fun c2 => ?_) (fun c2 => ?_)
    · have c2 : (m 98 (x4).toNat) ≠ 110 := c2
      have e2 : gx_w (x4 + 1) = x4 + 1 := gx_w_id (by omega) (by omega)
      refine gx_blk (C := True) (npc := 10) (L' := [(0, .inr 86), (4, .inl (gx_w (x4 + 1)))]) (st' := []) (m' := m) [((55, .iinc 4 1, 3, 0, 0, 0, 0), (0, 0, 0)), ((58, .goto (-48), 3, 0, 0, 0, 0), (0, 0, 0))] (by decide +kernel) rfl trivial ?_
      rw [e2]
      exact gx_to_pick [0, 4] (h2 c1 c2)
    · have c2 : (m 98 (x4).toNat) = 110 := by have h : ¬ ((m 98 (x4).toNat) ≠ 110) := c2; omega
      refine gx_blk (C := (((True ∧ (0 ≤ x4 ∧ x4 < 16))) ∧ (0 ≤ x4 ∧ x4 < 16))) (npc := 46) (L' := [(0, .inr 86), (4, .inl x4)]) (st' := [.inl (m 101 (x4).toNat), .inl (m 100 (x4).toNat), .inr 86]) (m' := m) [((31, .aload_n 0, 1, 0, 0, 0, 0), (0, 0, 0)), ((32, .aload_n 0, 1, 0, 0, 0, 0), (0, 0, 0)), ((33, .getfield 50, 3, 10, 23, 5136, 0), (1, 86, 100)), ((36, .iload 4, 2, 0, 0, 0, 0), (0, 0, 0)), ((38, .iaload, 1, 0, 0, 0, 0), (0, 100, 16)), ((39, .aload_n 0, 1, 0, 0, 0, 0), (0, 0, 0)), ((40, .getfield 53, 3, 10, 24, 5137, 0), (1, 86, 101)), ((43, .iload 4, 2, 0, 0, 0, 0), (0, 0, 0)), ((45, .iaload, 1, 0, 0, 0, 0), (0, 101, 16))] (by decide +kernel) rfl ⟨⟨trivial, (by omega)⟩, (by omega)⟩ ?_
      exact gx_callv (E := (46, .invokevirtual 232, 3, 208, 0, 6202, 0)) (M' := yp_m208) (c := 86) [.inl (m 100 (x4).toNat), .inl (m 101 (x4).toNat)] [] rfl (by decide +kernel) rfl ⟨rfl, rfl⟩ rfl rfl (Nat.le_of_ble_eq_true rfl) (Nat.le_of_ble_eq_true rfl) (by decide +kernel) (gx_to_mono (h3 c1 c2) (fun r m' h' => gx_to_pick [0, 4] h'))

/-- isBarred from 49 on -/
theorem gt201_49 {xs : List Int32} {w0 : sx_W} {d : Nat} {Q : gx_Q} {m : gx_M} {x4 s0 : Int} (r_x4 : 0 ≤ x4 ∧ x4 ≤ 15)
    (h1 : (s0 ≠ 1) → gx_to xs w0 d yp_m201 10 [(0, .inr 86), (4, .inl (x4 + 1))] [] m Q)
    (h2 : (s0 = 1) → Q (some 1) m) : gx_to xs w0 d yp_m201 49 [(0, .inr 86), (4, .inl x4)] [.inl s0] m Q := by
  refine gx_blk (C := True) (npc := 50) (L' := [(0, .inr 86), (4, .inl x4)]) (st' := [.inl 1, .inl s0]) (m' := m) [((49, .iconst 1, 1, 0, 0, 0, 0), (0, 0, 0))] (by decide +kernel) rfl trivial ?_
  refine gx_cmp .ne 55 (by decide +kernel) (fun c1 => ?_) (fun c1 => ?_)
  · have c1 : s0 ≠ 1 := c1
    have e1 : gx_w (x4 + 1) = x4 + 1 := gx_w_id (by omega) (by omega)
    refine gx_blk (C := True) (npc := 10) (L' := [(0, .inr 86), (4, .inl (gx_w (x4 + 1)))]) (st' := []) (m' := m) [((55, .iinc 4 1, 3, 0, 0, 0, 0), (0, 0, 0)), ((58, .goto (-48), 3, 0, 0, 0, 0), (0, 0, 0))] (by decide +kernel) rfl trivial ?_
    rw [e1]
    exact gx_to_pick [0, 4] (h1 c1)
  · have c1 : s0 = 1 := by have h : ¬ (s0 ≠ 1) := c1; omega
    refine gx_blk (C := True) (npc := 54) (L' := [(0, .inr 86), (4, .inl x4)]) (st' := [.inl 1]) (m' := m) [((53, .iconst 1, 1, 0, 0, 0, 0), (0, 0, 0))] (by decide +kernel) rfl trivial ?_
    exact gx_retb (by decide +kernel) (by omega) (h2 c1)

