section
/-! roads of methods read by hand, from cut points to the next ones (printed by wip/gen/gxall.py) -/
/-- min from 0 on -/
theorem gt199_0 {xs : List Int32} {w0 : sx_W} {d : Nat} {Q : gx_Q} {m : gx_M} {x0 x1 : Int}
    (h1 : (x1 ≤ x0) → Q (some x1) m)
    (h2 : (x0 < x1) → Q (some x0) m) : gx_to xs w0 d yp_m199 0 [(0, .inl x0), (1, .inl x1)] [] m Q := by
  refine gx_blk (C := True) (npc := 2) (L' := [(0, .inl x0), (1, .inl x1)]) (st' := [.inl x1, .inl x0]) (m' := m) [((0, .iload_n 0, 1, 0, 0, 0, 0), (0, 0, 0)), ((1, .iload_n 1, 1, 0, 0, 0, 0), (0, 0, 0))] (by decide +kernel) rfl trivial ?_
  refine gx_cmp .ge 9 (by decide +kernel) (fun c1 => ?_) (fun c1 => ?_)
  · have c1 : x1 ≤ x0 := c1
    refine gx_blk (C := True) (npc := 10) (L' := [(0, .inl x0), (1, .inl x1)]) (st' := [.inl x1]) (m' := m) [((9, .iload_n 1, 1, 0, 0, 0, 0), (0, 0, 0))] (by decide +kernel) rfl trivial ?_
    exact gx_reti (by decide +kernel) (h1 c1)
  · have c1 : x0 < x1 := by have h : ¬ (x1 ≤ x0) := c1; omega
    refine gx_blk (C := True) (npc := 10) (L' := [(0, .inl x0), (1, .inl x1)]) (st' := [.inl x0]) (m' := m) [((5, .iload_n 0, 1, 0, 0, 0, 0), (0, 0, 0)), ((6, .goto 4, 3, 0, 0, 0, 0), (0, 0, 0))] (by decide +kernel) rfl trivial ?_
    exact gx_reti (by decide +kernel) (h2 c1)

/-- hasHad from 0 on -/
theorem gt220_0 {xs : List Int32} {w0 : sx_W} {d : Nat} {Q : gx_Q} {m : gx_M} {x1 x2 : Int}
    (h1 : gx_to xs w0 d yp_m220 2 [(0, .inr 86), (1, .inl x1), (2, .inl x2), (3, .inl 0)] [] m Q) : gx_to xs w0 d yp_m220 0 [(0, .inr 86), (1, .inl x1), (2, .inl x2)] [] m Q := by
  refine gx_blk (C := True) (npc := 2) (L' := [(0, .inr 86), (1, .inl x1), (2, .inl x2), (3, .inl 0)]) (st' := []) (m' := m) [((0, .iconst 0, 1, 0, 0, 0, 0), (0, 0, 0)), ((1, .istore_n 3, 1, 0, 0, 0, 0), (0, 0, 0))] (by decide +kernel) rfl trivial ?_
  exact gx_to_pick [0, 1, 2, 3] h1

/-- hasHad from 2 on -/
theorem gt220_2 {xs : List Int32} {w0 : sx_W} {d : Nat} {Q : gx_Q} {m : gx_M} {x1 x2 x3 : Int} (hI : gx_I m) (r_x1 : 0 ≤ x1 ∧ x1 ≤ 39) (r_x3 : 0 ≤ x3 ∧ x3 ≤ 16)
    (h1 : ((m 87 (400 + x1).toNat) ≤ x3) → Q (some 0) m)
    (h2 : (x3 < (m 87 (400 + x1).toNat)) → ((m 87 (440 + x1).toNat) ≠ 1) → Q (some 0) m)
    (h3 : (x3 < (m 87 (400 + x1).toNat)) → ((m 87 (440 + x1).toNat) = 1) → ((m 87 ((480 + (16 * x1)) + x3).toNat) ≠ x2) → gx_to xs w0 d yp_m220 2 [(0, .inr 86), (1, .inl x1), (2, .inl x2), (3, .inl (x3 + 1))] [] m Q)
    (h4 : (x3 < (m 87 (400 + x1).toNat)) → ((m 87 (440 + x1).toNat) = 1) → ((m 87 ((480 + (16 * x1)) + x3).toNat) = x2) → Q (some 1) m) : gx_to xs w0 d yp_m220 2 [(0, .inr 86), (1, .inl x1), (2, .inl x2), (3, .inl x3)] [] m Q := by
  have e1 : gx_w (400 + x1) = 400 + x1 := gx_w_id (by omega) (by omega)
  have f2 := gx_I_at hI 87 (z := 400 + x1) 400 439 0 16 (by decide +kernel) (by omega) (by omega)
  refine gx_blk (C := (True ∧ (0 ≤ (gx_w (400 + x1)) ∧ (gx_w (400 + x1)) < 1131))) (npc := 13) (L' := [(0, .inr 86), (1, .inl x1), (2, .inl x2), (3, .inl x3)]) (st' := [.inl (m 87 (gx_w (400 + x1)).toNat), .inl x3]) (m' := m) [((2, .iload_n 3, 1, 0, 0, 0, 0), (0, 0, 0)), ((3, .aload_n 0, 1, 0, 0, 0, 0), (0, 0, 0)), ((4, .getfield 7, 3, 10, 0, 5113, 0), (1, 86, 87)), ((7, .sipush 400, 3, 0, 0, 0, 0), (0, 0, 0)), ((10, .iload_n 1, 1, 0, 0, 0, 0), (0, 0, 0)), ((11, .iadd, 1, 0, 0, 0, 0), (0, 0, 0)), ((12, .iaload, 1, 0, 0, 0, 0), (0, 87, 1131))] (by decide +kernel) rfl ⟨trivial, (by rw [e1]; omega)⟩ ?_
  rw [e1]
  refine gx_cmp .ge 57 (by decide +kernel) (fun c1 => ?_) (fun c1 => ?_)
  · have c1 : (m 87 (400 + x1).toNat) ≤ x3 := c1
    refine gx_blk (C := True) (npc := 58) (L' := [(0, .inr 86), (1, .inl x1), (2, .inl x2), (3, .inl x3)]) (st' := [.inl 0]) (m' := m) [((57, .iconst 0, 1, 0, 0, 0, 0), (0, 0, 0))] (by decide +kernel) rfl trivial ?_
    exact gx_retb (by decide +kernel) (by omega) (h1 c1)
  · have c1 : x3 < (m 87 (400 + x1).toNat) := by have h : ¬ ((m 87 (400 + x1).toNat) ≤ x3) := c1; omega
    have e3 : gx_w (440 + x1) = 440 + x1 := gx_w_id (by omega) (by omega)
    have f4 := gx_I_at hI 87 (z := 440 + x1) 440 479 0 1 (by decide +kernel) (by omega) (by omega)
    refine gx_blk (C := (True ∧ (0 ≤ (gx_w (440 + x1)) ∧ (gx_w (440 + x1)) < 1131))) (npc := 27) (L' := [(0, .inr 86), (1, .inl x1), (2, .inl x2), (3, .inl x3)]) (st' := [.inl 1, .inl (m 87 (gx_w (440 + x1)).toNat)]) (m' := m) [((16, .aload_n 0, 1, 0, 0, 0, 0), (0, 0, 0)), ((17, .getfield 7, 3, 10, 0, 5113, 0), (1, 86, 87)), ((20, .sipush 440, 3, 0, 0, 0, 0), (0, 0, 0)), ((23, .iload_n 1, 1, 0, 0, 0, 0), (0, 0, 0)), ((24, .iadd, 1, 0, 0, 0, 0), (0, 0, 0)), ((25, .iaload, 1, 0, 0, 0, 0), (0, 87, 1131)), ((26, .iconst 1, 1, 0, 0, 0, 0), (0, 0, 0))] (by decide +kernel) rfl ⟨trivial, (by rw [e3]; omega)⟩ ?_
    rw [e3]
    refine gx_cmp .ne 57 (by decide +kernel) (fun c2 => ?_) (fun c2 => ?_)
    · have c2 : (m 87 (440 + x1).toNat) ≠ 1 := c2
      refine gx_blk (C := True) (npc := 58) (L' := [(0, .inr 86), (1, .inl x1), (2, .inl x2), (3, .inl x3)]) (st' := [.inl 0]) (m' := m) [((57, .iconst 0, 1, 0, 0, 0, 0), (0, 0, 0))] (by decide +kernel) rfl trivial ?_
      exact gx_retb (by decide +kernel) (by omega) (h2 c1 c2)
    · have c2 : (m 87 (440 + x1).toNat) = 1 := by have h : ¬ ((m 87 (440 + x1).toNat) ≠ 1) := c2; omega
      have e5 : gx_w (16 * x1) = 16 * x1 := gx_w_id (by omega) (by omega)
      have e6 : gx_w (480 + (16 * x1)) = 480 + (16 * x1) := gx_w_id (by omega) (by omega)
      have e7 : gx_w ((480 + (16 * x1)) + x3) = (480 + (16 * x1)) + x3 := gx_w_id (by omega) (by omega)
      have f8 := gx_I_at hI 87 (z := (480 + (16 * x1)) + x3) 480 1119 (-2) 7 (by decide +kernel) (by omega) (by omega)
      refine gx_blk (C := (True ∧ (0 ≤ (gx_w ((gx_w (480 + (gx_w (16 * x1)))) + x3)) ∧ (gx_w ((gx_w (480 + (gx_w (16 * x1)))) + x3)) < 1131))) (npc := 46) (L' := [(0, .inr 86), (1, .inl x1), (2, .inl x2), (3, .inl x3)]) (st' := [.inl x2, .inl (m 87 (gx_w ((gx_w (480 + (gx_w (16 * x1)))) + x3)).toNat)]) (m' := m) [((30, .aload_n 0, 1, 0, 0, 0, 0), (0, 0, 0)), ((31, .getfield 7, 3, 10, 0, 5113, 0), (1, 86, 87)), ((34, .sipush 480, 3, 0, 0, 0, 0), (0, 0, 0)), ((37, .bipush 16, 2, 0, 0, 0, 0), (0, 0, 0)), ((39, .iload_n 1, 1, 0, 0, 0, 0), (0, 0, 0)), ((40, .imul, 1, 0, 0, 0, 0), (0, 0, 0)), ((41, .iadd, 1, 0, 0, 0, 0), (0, 0, 0)), ((42, .iload_n 3, 1, 0, 0, 0, 0), (0, 0, 0)), ((43, .iadd, 1, 0, 0, 0, 0), (0, 0, 0)), ((44, .iaload, 1, 0, 0, 0, 0), (0, 87, 1131)), ((45, .iload_n 2, 1, 0, 0, 0, 0), (0, 0, 0))] (by decide +kernel) rfl ⟨trivial, (by rw [e5, e6, e7]; omega)⟩ ?_
      rw [e5, e6, e7]
      refine gx_cmp .ne 51 (by decide +kernel) (fun c3 => ?_) (fun c3 => ?_)
      · have c3 : (m 87 ((480 + (16 * x1)) + x3).toNat) ≠ x2 := c3
        have e9 : gx_w (x3 + 1) = x3 + 1 := gx_w_id (by omega) (by omega)
        refine gx_blk (C := True) (npc := 2) (L' := [(0, .inr 86), (1, .inl x1), (2, .inl x2), (3, .inl (gx_w (x3 + 1)))]) (st' := []) (m' := m) [((51, .iinc 3 1, 3, 0, 0, 0, 0), (0, 0, 0)), ((54, .goto (-52), 3, 0, 0, 0, 0), (0, 0, 0))] (by decide +kernel) rfl trivial ?_
        rw [e9]
        exact gx_to_pick [0, 1, 2, 3] (h3 c1 c2 c3)
      · have c3 : (m 87 ((480 + (16 * x1)) + x3).toNat) = x2 := by have h : ¬ ((m 87 ((480 + (16 * x1)) + x3).toNat) ≠ x2) := c3; omega
        refine gx_blk (C := True) (npc := 50) (L' := [(0, .inr 86), (1, .inl x1), (2, .inl x2), (3, .inl x3)]) (st' := [.inl 1]) (m' := m) [((49, .iconst 1, 1, 0, 0, 0, 0), (0, 0, 0))] (by decide +kernel) rfl trivial ?_
        exact gx_retb (by decide +kernel) (by omega) (h4 c1 c2 c3)

/-- areLinked from 0 on -/
theorem gt266_0 {xs : List Int32} {w0 : sx_W} {d : Nat} {Q : gx_Q} {m : gx_M} {x1 x2 : Int}
    (h1 : gx_to xs w0 d yp_m266 2 [(0, .inr 86), (1, .inl x1), (2, .inl x2), (3, .inl 0)] [] m Q) : gx_to xs w0 d yp_m266 0 [(0, .inr 86), (1, .inl x1), (2, .inl x2)] [] m Q := by
  refine gx_blk (C := True) (npc := 2) (L' := [(0, .inr 86), (1, .inl x1), (2, .inl x2), (3, .inl 0)]) (st' := []) (m' := m) [((0, .iconst 0, 1, 0, 0, 0, 0), (0, 0, 0)), ((1, .istore_n 3, 1, 0, 0, 0, 0), (0, 0, 0))] (by decide +kernel) rfl trivial ?_
  exact gx_to_pick [0, 1, 2, 3] h1

/-- areLinked from 2 on -/
theorem gt266_2 {xs : List Int32} {w0 : sx_W} {d : Nat} {Q : gx_Q} {m : gx_M} {x1 x2 x3 : Int} (r_x3 : 0 ≤ x3 ∧ x3 ≤ 40)
    (h1 : (40 ≤ x3) → Q (some 0) m)
    (h2 : (x3 < 40) → gx_to xs w0 d yp_m220 0 [(0, .inr 86), (1, .inl x3), (2, .inl x1)] [] m (fun r m' => gx_to xs w0 (d + 1) yp_m266 14 [(0, .inr 86), (1, .inl x1), (2, .inl x2), (3, .inl x3)] (gx_rs r ++ []) m' Q)) : gx_to xs w0 (d + 1) yp_m266 2 [(0, .inr 86), (1, .inl x1), (2, .inl x2), (3, .inl x3)] [] m Q := by
  refine gx_blk (C := True) (npc := 5) (L' := [(0, .inr 86), (1, .inl x1), (2, .inl x2), (3, .inl x3)]) (st' := [.inl 40, .inl x3]) (m' := m) [((2, .iload_n 3, 1, 0, 0, 0, 0), (0, 0, 0)), ((3, .bipush 40, 2, 0, 0, 0, 0), (0, 0, 0))] (by decide +kernel) rfl trivial ?_
  refine gx_cmp .ge 34 (by decide +kernel) (fun c1 => ?_) (fun c1 => ?_)
  · have c1 : 40 ≤ x3 := c1
    refine gx_blk (C := True) (npc := 35) (L' := [(0, .inr 86), (1, .inl x1), (2, .inl x2), (3, .inl x3)]) (st' := [.inl 0]) (m' := m) [((34, .iconst 0, 1, 0, 0, 0, 0), (0, 0, 0))] (by decide +kernel) rfl trivial ?_
    exact gx_retb (by decide +kernel) (by omega) (h1 c1)
  · have c1 : x3 < 40 := by have h : ¬ (40 ≤ x3) := c1; omega
    refine gx_blk (C := True) (npc := 11) (L' := [(0, .inr 86), (1, .inl x1), (2, .inl x2), (3, .inl x3)]) (st' := [.inl x1, .inl x3, .inr 86]) (m' := m) [((8, .aload_n 0, 1, 0, 0, 0, 0), (0, 0, 0)), ((9, .iload_n 3, 1, 0, 0, 0, 0), (0, 0, 0)), ((10, .iload_n 1, 1, 0, 0, 0, 0), (0, 0, 0))] (by decide +kernel) rfl trivial ?_
    exact gx_callv (E := (11, .invokevirtual 303, 3, 220, 0, 7008, 0)) (M' := yp_m220) (c := 86) [.inl x3, .inl x1] [] rfl (by decide +kernel) rfl ⟨rfl, rfl⟩ rfl rfl (Nat.le_of_ble_eq_true rfl) (Nat.le_of_ble_eq_true rfl) (by decide +kernel) (gx_to_mono (h2 c1) (fun r m' h' => gx_to_pick [0, 1, 2, 3] h'))

/-- areLinked from 14 on -/
theorem gt266_14 {xs : List Int32} {w0 : sx_W} {d : Nat} {Q : gx_Q} {m : gx_M} {x1 x2 x3 s0 : Int} (r_x3 : 0 ≤ x3 ∧ x3 ≤ 39)
    (h1 : (s0 = 0) → gx_to xs w0 (d + 1) yp_m266 2 [(0, .inr 86), (1, .inl x1), (2, .inl x2), (3, .inl (x3 + 1))] [] m Q)
    (h2 : (s0 ≠ 0) → gx_to xs w0 d yp_m220 0 [(0, .inr 86), (1, .inl x3), (2, .inl x2)] [] m (fun r m' => gx_to xs w0 (d + 1) yp_m266 23 [(0, .inr 86), (1, .inl x1), (2, .inl x2), (3, .inl x3)] (gx_rs r ++ []) m' Q)) : gx_to xs w0 (d + 1) yp_m266 14 [(0, .inr 86), (1, .inl x1), (2, .inl x2), (3, .inl x3)] [.inl s0] m Q := by
  refine gx_if .eq 28 (by decide +kernel) (fun c1 => ?_) (fun c1 => ?_)
  · have c1 : s0 = 0 := c1
    have e1 : gx_w (x3 + 1) = x3 + 1 := gx_w_id (by omega) (by omega)
    refine gx_blk (C := True) (npc := 2) (L' := [(0, .inr 86), (1, .inl x1), (2, .inl x2), (3, .inl (gx_w (x3 + 1)))]) (st' := []) (m' := m) [((28, .iinc 3 1, 3, 0, 0, 0, 0), (0, 0, 0)), ((31, .goto (-29), 3, 0, 0, 0, 0), (0, 0, 0))] (by decide +kernel) rfl trivial ?_
    rw [e1]
    exact gx_to_pick [0, 1, 2, 3] (h1 c1)
  · have c1 : s0 ≠ 0 := c1
    refine gx_blk (C := True) (npc := 20) (L' := [(0, .inr 86), (1, .inl x1), (2, .inl x2), (3, .inl x3)]) (st' := [.inl x2, .inl x3, .inr 86]) (m' := m) [((17, .aload_n 0, 1, 0, 0, 0, 0), (0, 0, 0)), ((18, .iload_n 3, 1, 0, 0, 0, 0), (0, 0, 0)), ((19, .iload_n 2, 1, 0, 0, 0, 0), (0, 0, 0))] (by decide +kernel) rfl trivial ?_
    exact gx_callv (E := (20, .invokevirtual 303, 3, 220, 0, 7008, 0)) (M' := yp_m220) (c := 86) [.inl x3, .inl x2] [] rfl (by decide +kernel) rfl ⟨rfl, rfl⟩ rfl rfl (Nat.le_of_ble_eq_true rfl) (Nat.le_of_ble_eq_true rfl) (by decide +kernel) (gx_to_mono (h2 c1) (fun r m' h' => gx_to_pick [0, 1, 2, 3] h'))

/-- areLinked from 23 on -/
theorem gt266_23 {xs : List Int32} {w0 : sx_W} {d : Nat} {Q : gx_Q} {m : gx_M} {x1 x2 x3 s0 : Int} (r_x3 : 0 ≤ x3 ∧ x3 ≤ 39)
    (h1 : (s0 = 0) → gx_to xs w0 d yp_m266 2 [(0, .inr 86), (1, .inl x1), (2, .inl x2), (3, .inl (x3 + 1))] [] m Q)
    (h2 : (s0 ≠ 0) → Q (some 1) m) : gx_to xs w0 d yp_m266 23 [(0, .inr 86), (1, .inl x1), (2, .inl x2), (3, .inl x3)] [.inl s0] m Q := by
  refine gx_if .eq 28 (by decide +kernel) (fun c1 => ?_) (fun c1 => ?_)
  · have c1 : s0 = 0 := c1
    have e1 : gx_w (x3 + 1) = x3 + 1 := gx_w_id (by omega) (by omega)
    refine gx_blk (C := True) (npc := 2) (L' := [(0, .inr 86), (1, .inl x1), (2, .inl x2), (3, .inl (gx_w (x3 + 1)))]) (st' := []) (m' := m) [((28, .iinc 3 1, 3, 0, 0, 0, 0), (0, 0, 0)), ((31, .goto (-29), 3, 0, 0, 0, 0), (0, 0, 0))] (by decide +kernel) rfl trivial ?_
    rw [e1]
    exact gx_to_pick [0, 1, 2, 3] (h1 c1)
  · have c1 : s0 ≠ 0 := c1
    refine gx_blk (C := True) (npc := 27) (L' := [(0, .inr 86), (1, .inl x1), (2, .inl x2), (3, .inl x3)]) (st' := [.inl 1]) (m' := m) [((26, .iconst 1, 1, 0, 0, 0, 0), (0, 0, 0))] (by decide +kernel) rfl trivial ?_
    exact gx_retb (by decide +kernel) (by omega) (h2 c1)

/-- laysFar from 0 on -/
theorem gt265_0 {xs : List Int32} {w0 : sx_W} {d : Nat} {Q : gx_Q} {m : gx_M} {x1 : Int}
    (h1 : gx_to xs w0 d yp_m265 2 [(0, .inr 86), (1, .inl x1), (2, .inl 0)] [] m Q) : gx_to xs w0 d yp_m265 0 [(0, .inr 86), (1, .inl x1)] [] m Q := by
  refine gx_blk (C := True) (npc := 2) (L' := [(0, .inr 86), (1, .inl x1), (2, .inl 0)]) (st' := []) (m' := m) [((0, .iconst 0, 1, 0, 0, 0, 0), (0, 0, 0)), ((1, .istore_n 2, 1, 0, 0, 0, 0), (0, 0, 0))] (by decide +kernel) rfl trivial ?_
  exact gx_to_pick [0, 1, 2] h1

/-- laysFar from 2 on -/
theorem gt265_2 {xs : List Int32} {w0 : sx_W} {d : Nat} {Q : gx_Q} {m : gx_M} {x1 x2 : Int} (r_x2 : 0 ≤ x2 ∧ x2 ≤ 8)
    (h1 : (8 ≤ x2) → gx_to xs w0 d yp_m265 34 [(0, .inr 86), (2, .inl 0)] [] m Q)
    (h2 : (x2 < 8) → (x2 ≠ x1) → gx_to xs w0 d yp_m265 2 [(0, .inr 86), (1, .inl x1), (2, .inl (x2 + 1))] [] (gx_u m 117 (x2).toNat 1000000000) Q)
    (h3 : (x2 < 8) → (x2 = x1) → gx_to xs w0 d yp_m265 2 [(0, .inr 86), (1, .inl x1), (2, .inl (x2 + 1))] [] (gx_u m 117 (x2).toNat 0) Q) : gx_to xs w0 d yp_m265 2 [(0, .inr 86), (1, .inl x1), (2, .inl x2)] [] m Q := by
  refine gx_blk (C := True) (npc := 5) (L' := [(0, .inr 86), (1, .inl x1), (2, .inl x2)]) (st' := [.inl 8, .inl x2]) (m' := m) [((2, .iload_n 2, 1, 0, 0, 0, 0), (0, 0, 0)), ((3, .bipush 8, 2, 0, 0, 0, 0), (0, 0, 0))] (by decide +kernel) rfl trivial ?_
  refine gx_cmp .ge 32 (by decide +kernel) (fun c1 => ?_) (fun c1 => ?_)
  · have c1 : 8 ≤ x2 := c1
    refine gx_blk (C := True) (npc := 34) (L' := [(0, .inr 86), (1, .inl x1), (2, .inl 0)]) (st' := []) (m' := m) [((32, .iconst 0, 1, 0, 0, 0, 0), (0, 0, 0)), ((33, .istore_n 2, 1, 0, 0, 0, 0), (0, 0, 0))] (by decide +kernel) rfl trivial ?_
    exact gx_to_pick [0, 2] (h1 c1)
  · have c1 : x2 < 8 := by have h : ¬ (8 ≤ x2) := c1; omega
    refine gx_blk (C := True) (npc := 15) (L' := [(0, .inr 86), (1, .inl x1), (2, .inl x2)]) (st' := [.inl x1, .inl x2, .inl x2, .inr 117]) (m' := m) [((8, .aload_n 0, 1, 0, 0, 0, 0), (0, 0, 0)), ((9, .getfield 101, 3, 10, 46, 5159, 0), (1, 86, 117)), ((12, .iload_n 2, 1, 0, 0, 0, 0), (0, 0, 0)), ((13, .iload_n 2, 1, 0, 0, 0, 0), (0, 0, 0)), ((14, .iload_n 1, 1, 0, 0, 0, 0), (0, 0, 0))] (by decide +kernel) rfl trivial ?_
    refine gx_cmp .ne 22 (by decide +kernel) (fun c2 => ?_) (fun c2 => ?_)
    · have c2 : x2 ≠ x1 := c2
      have e1 : gx_w (x2 + 1) = x2 + 1 := gx_w_id (by omega) (by omega)
      refine gx_blk (C := (True ∧ (0 ≤ x2 ∧ x2 < 8))) (npc := 2) (L' := [(0, .inr 86), (1, .inl x1), (2, .inl (gx_w (x2 + 1)))]) (st' := []) (m' := (gx_u m 117 (x2).toNat 1000000000)) [((22, .ldc_w 333, 3, 0, 0, 7076, 1000000000), (0, 0, 0)), ((25, .iastore, 1, 0, 0, 0, 0), (0, 117, 8)), ((26, .iinc 2 1, 3, 0, 0, 0, 0), (0, 0, 0)), ((29, .goto (-27), 3, 0, 0, 0, 0), (0, 0, 0))] (by decide +kernel) rfl ⟨trivial, (by omega)⟩ ?_
      rw [e1]
      exact gx_to_pick [0, 1, 2] (h2 c1 c2)
    · have c2 : x2 = x1 := by have h : ¬ (x2 ≠ x1) := c2; omega
      have e2 : gx_w (x2 + 1) = x2 + 1 := gx_w_id (by omega) (by omega)
      refine gx_blk (C := (True ∧ (0 ≤ x2 ∧ x2 < 8))) (npc := 2) (L' := [(0, .inr 86), (1, .inl x1), (2, .inl (gx_w (x2 + 1)))]) (st' := []) (m' := (gx_u m 117 (x2).toNat 0)) [((18, .iconst 0, 1, 0, 0, 0, 0), (0, 0, 0)), ((19, .goto 6, 3, 0, 0, 0, 0), (0, 0, 0)), ((25, .iastore, 1, 0, 0, 0, 0), (0, 117, 8)), ((26, .iinc 2 1, 3, 0, 0, 0, 0), (0, 0, 0)), ((29, .goto (-27), 3, 0, 0, 0, 0), (0, 0, 0))] (by decide +kernel) rfl ⟨trivial, (by omega)⟩ ?_
      rw [e2]
      exact gx_to_pick [0, 1, 2] (h3 c1 c2)

/-- laysFar from 34 on -/
theorem gt265_34 {xs : List Int32} {w0 : sx_W} {d : Nat} {Q : gx_Q} {m : gx_M} {x2 : Int} (r_x2 : 0 ≤ x2 ∧ x2 ≤ 8)
    (h1 : (8 ≤ x2) → Q none m)
    (h2 : (x2 < 8) → gx_to xs w0 d yp_m265 42 [(0, .inr 86), (2, .inl x2), (3, .inl 0)] [] m Q) : gx_to xs w0 d yp_m265 34 [(0, .inr 86), (2, .inl x2)] [] m Q := by
  refine gx_blk (C := True) (npc := 37) (L' := [(0, .inr 86), (2, .inl x2)]) (st' := [.inl 8, .inl x2]) (m' := m) [((34, .iload_n 2, 1, 0, 0, 0, 0), (0, 0, 0)), ((35, .bipush 8, 2, 0, 0, 0, 0), (0, 0, 0))] (by decide +kernel) rfl trivial ?_
  refine gx_cmp .ge 140 (by decide +kernel) (fun c1 => ?_) (fun c1 => ?_)
  · have c1 : 8 ≤ x2 := c1
    exact gx_ret0 (by decide +kernel) (h1 c1)
  · have c1 : x2 < 8 := by have h : ¬ (8 ≤ x2) := c1; omega
    refine gx_blk (C := True) (npc := 42) (L' := [(0, .inr 86), (2, .inl x2), (3, .inl 0)]) (st' := []) (m' := m) [((40, .iconst 0, 1, 0, 0, 0, 0), (0, 0, 0)), ((41, .istore_n 3, 1, 0, 0, 0, 0), (0, 0, 0))] (by decide +kernel) rfl trivial ?_
    exact gx_to_pick [0, 2, 3] (h2 c1)

/-- laysFar from 42 on -/
theorem gt265_42 {xs : List Int32} {w0 : sx_W} {d : Nat} {Q : gx_Q} {m : gx_M} {x2 x3 : Int} (r_x2 : 0 ≤ x2 ∧ x2 ≤ 7) (r_x3 : 0 ≤ x3 ∧ x3 ≤ 8)
    (h1 : (8 ≤ x3) → gx_to xs w0 d yp_m265 34 [(0, .inr 86), (2, .inl (x2 + 1))] [] m Q)
    (h2 : (x3 < 8) → gx_to xs w0 d yp_m265 51 [(0, .inr 86), (2, .inl x2), (3, .inl x3), (4, .inl 0)] [] m Q) : gx_to xs w0 d yp_m265 42 [(0, .inr 86), (2, .inl x2), (3, .inl x3)] [] m Q := by
  refine gx_blk (C := True) (npc := 45) (L' := [(0, .inr 86), (2, .inl x2), (3, .inl x3)]) (st' := [.inl 8, .inl x3]) (m' := m) [((42, .iload_n 3, 1, 0, 0, 0, 0), (0, 0, 0)), ((43, .bipush 8, 2, 0, 0, 0, 0), (0, 0, 0))] (by decide +kernel) rfl trivial ?_
  refine gx_cmp .ge 134 (by decide +kernel) (fun c1 => ?_) (fun c1 => ?_)
  · have c1 : 8 ≤ x3 := c1
    have e1 : gx_w (x2 + 1) = x2 + 1 := gx_w_id (by omega) (by omega)
    refine gx_blk (C := True) (npc := 34) (L' := [(0, .inr 86), (2, .inl (gx_w (x2 + 1))), (3, .inl x3)]) (st' := []) (m' := m) [((134, .iinc 2 1, 3, 0, 0, 0, 0), (0, 0, 0)), ((137, .goto (-103), 3, 0, 0, 0, 0), (0, 0, 0))] (by decide +kernel) rfl trivial ?_
    rw [e1]
    exact gx_to_pick [0, 2] (h1 c1)
  · have c1 : x3 < 8 := by have h : ¬ (8 ≤ x3) := c1; omega
    refine gx_blk (C := True) (npc := 51) (L' := [(0, .inr 86), (2, .inl x2), (3, .inl x3), (4, .inl 0)]) (st' := []) (m' := m) [((48, .iconst 0, 1, 0, 0, 0, 0), (0, 0, 0)), ((49, .istore 4, 2, 0, 0, 0, 0), (0, 0, 0))] (by decide +kernel) rfl trivial ?_
    exact gx_to_pick [0, 2, 3, 4] (h2 c1)

/-- laysFar from 51 on -/
theorem gt265_51 {xs : List Int32} {w0 : sx_W} {d : Nat} {Q : gx_Q} {m : gx_M} {x2 x3 x4 : Int} (r_x2 : 0 ≤ x2 ∧ x2 ≤ 7) (r_x3 : 0 ≤ x3 ∧ x3 ≤ 7) (r_x4 : 0 ≤ x4 ∧ x4 ≤ 8)
    (h1 : (8 ≤ x4) → gx_to xs w0 (d + 1) yp_m265 42 [(0, .inr 86), (2, .inl x2), (3, .inl (x3 + 1))] [] m Q)
    (h2 : (x4 < 8) → gx_to xs w0 d yp_m164 0 [(0, .inr 86), (1, .inl x3)] [] m (fun r m' => gx_to xs w0 (d + 1) yp_m265 63 [(0, .inr 86), (2, .inl x2), (3, .inl x3), (4, .inl x4)] (gx_rs r ++ []) m' Q)) : gx_to xs w0 (d + 1) yp_m265 51 [(0, .inr 86), (2, .inl x2), (3, .inl x3), (4, .inl x4)] [] m Q := by
  refine gx_blk (C := True) (npc := 55) (L' := [(0, .inr 86), (2, .inl x2), (3, .inl x3), (4, .inl x4)]) (st' := [.inl 8, .inl x4]) (m' := m) [((51, .iload 4, 2, 0, 0, 0, 0), (0, 0, 0)), ((53, .bipush 8, 2, 0, 0, 0, 0), (0, 0, 0))] (by decide +kernel) rfl trivial ?_
  refine gx_cmp .ge 128 (by decide +kernel) (fun c1 => ?_) (fun c1 => ?_)
  · have c1 : 8 ≤ x4 := c1
    have e1 : gx_w (x3 + 1) = x3 + 1 := gx_w_id (by omega) (by omega)
    refine gx_blk (C := True) (npc := 42) (L' := [(0, .inr 86), (2, .inl x2), (3, .inl (gx_w (x3 + 1))), (4, .inl x4)]) (st' := []) (m' := m) [((128, .iinc 3 1, 3, 0, 0, 0, 0), (0, 0, 0)), ((131, .goto (-89), 3, 0, 0, 0, 0), (0, 0, 0))] (by decide +kernel) rfl trivial ?_
    rw [e1]
    exact gx_to_pick [0, 2, 3] (h1 c1)
  · have c1 : x4 < 8 := by have h : ¬ (8 ≤ x4) := c1; omega
    refine gx_blk (C := True) (npc := 60) (L' := [(0, .inr 86), (2, .inl x2), (3, .inl x3), (4, .inl x4)]) (st' := [.inl x3, .inr 86]) (m' := m) [((58, .aload_n 0, 1, 0, 0, 0, 0), (0, 0, 0)), ((59, .iload_n 3, 1, 0, 0, 0, 0), (0, 0, 0))] (by decide +kernel) rfl trivial ?_
    exact gx_callv (E := (60, .invokevirtual 113, 3, 164, 0, 6031, 0)) (M' := yp_m164) (c := 86) [.inl x3] [] rfl (by decide +kernel) rfl ⟨rfl, rfl⟩ rfl rfl (Nat.le_of_ble_eq_true rfl) (Nat.le_of_ble_eq_true rfl) (by decide +kernel) (gx_to_mono (h2 c1) (fun r m' h' => gx_to_pick [0, 2, 3, 4] h'))

/-- laysFar from 63 on -/
theorem gt265_63 {xs : List Int32} {w0 : sx_W} {d : Nat} {Q : gx_Q} {m : gx_M} {x2 x3 x4 s0 : Int} (r_x2 : 0 ≤ x2 ∧ x2 ≤ 7) (r_x3 : 0 ≤ x3 ∧ x3 ≤ 7) (r_x4 : 0 ≤ x4 ∧ x4 ≤ 7)
    (h1 : (s0 = 0) → gx_to xs w0 (d + 1) yp_m265 51 [(0, .inr 86), (2, .inl x2), (3, .inl x3), (4, .inl (x4 + 1))] [] m Q)
    (h2 : (s0 ≠ 0) → gx_to xs w0 d yp_m164 0 [(0, .inr 86), (1, .inl x4)] [] m (fun r m' => gx_to xs w0 (d + 1) yp_m265 72 [(0, .inr 86), (2, .inl x2), (3, .inl x3), (4, .inl x4)] (gx_rs r ++ []) m' Q)) : gx_to xs w0 (d + 1) yp_m265 63 [(0, .inr 86), (2, .inl x2), (3, .inl x3), (4, .inl x4)] [.inl s0] m Q := by
  refine gx_if .eq 122 (by decide +kernel) (fun c1 => ?_) (fun c1 => ?_)
  · have c1 : s0 = 0 := c1
    have e1 : gx_w (x4 + 1) = x4 + 1 := gx_w_id (by omega) (by omega)
    refine gx_blk (C := True) (npc := 51) (L' := [(0, .inr 86), (2, .inl x2), (3, .inl x3), (4, .inl (gx_w (x4 + 1)))]) (st' := []) (m' := m) [((122, .iinc 4 1, 3, 0, 0, 0, 0), (0, 0, 0)), ((125, .goto (-74), 3, 0, 0, 0, 0), (0, 0, 0))] (by decide +kernel) rfl trivial ?_
    rw [e1]
    exact gx_to_pick [0, 2, 3, 4] (h1 c1)
  · have c1 : s0 ≠ 0 := c1
    refine gx_blk (C := True) (npc := 69) (L' := [(0, .inr 86), (2, .inl x2), (3, .inl x3), (4, .inl x4)]) (st' := [.inl x4, .inr 86]) (m' := m) [((66, .aload_n 0, 1, 0, 0, 0, 0), (0, 0, 0)), ((67, .iload 4, 2, 0, 0, 0, 0), (0, 0, 0))] (by decide +kernel) rfl trivial ?_
    exact gx_callv (E := (69, .invokevirtual 113, 3, 164, 0, 6031, 0)) (M' := yp_m164) (c := 86) [.inl x4] [] rfl (by decide +kernel) rfl ⟨rfl, rfl⟩ rfl rfl (Nat.le_of_ble_eq_true rfl) (Nat.le_of_ble_eq_true rfl) (by decide +kernel) (gx_to_mono (h2 c1) (fun r m' h' => gx_to_pick [0, 2, 3, 4] h'))

/-- laysFar from 72 on -/
theorem gt265_72 {xs : List Int32} {w0 : sx_W} {d : Nat} {Q : gx_Q} {m : gx_M} {x2 x3 x4 s0 : Int} (r_x2 : 0 ≤ x2 ∧ x2 ≤ 7) (r_x3 : 0 ≤ x3 ∧ x3 ≤ 7) (r_x4 : 0 ≤ x4 ∧ x4 ≤ 7)
    (h1 : (s0 = 0) → gx_to xs w0 (d + 1) yp_m265 51 [(0, .inr 86), (2, .inl x2), (3, .inl x3), (4, .inl (x4 + 1))] [] m Q)
    (h2 : (s0 ≠ 0) → (1000000000 ≤ (m 117 (x4).toNat)) → gx_to xs w0 (d + 1) yp_m265 51 [(0, .inr 86), (2, .inl x2), (3, .inl x3), (4, .inl (x4 + 1))] [] m Q)
    (h3 : (s0 ≠ 0) → ((m 117 (x4).toNat) < 1000000000) → gx_to xs w0 d yp_m266 0 [(0, .inr 86), (1, .inl x3), (2, .inl x4)] [] m (fun r m' => gx_to xs w0 (d + 1) yp_m265 95 [(0, .inr 86), (2, .inl x2), (3, .inl x3), (4, .inl x4)] (gx_rs r ++ []) m' Q)) : gx_to xs w0 (d + 1) yp_m265 72 [(0, .inr 86), (2, .inl x2), (3, .inl x3), (4, .inl x4)] [.inl s0] m Q := by
  refine gx_if .eq 122 (by decide +kernel) (fun c1 => ?_) (fun c1 => ?_)
  · have c1 : s0 = 0 := c1
    have e1 : gx_w (x4 + 1) = x4 + 1 := gx_w_id (by omega) (by omega)
    refine gx_blk (C := True) (npc := 51) (L' := [(0, .inr 86), (2, .inl x2), (3, .inl x3), (4, .inl (gx_w (x4 + 1)))]) (st' := []) (m' := m) [((122, .iinc 4 1, 3, 0, 0, 0, 0), (0, 0, 0)), ((125, .goto (-74), 3, 0, 0, 0, 0), (0, 0, 0))] (by decide +kernel) rfl trivial ?_
    rw [e1]
    exact gx_to_pick [0, 2, 3, 4] (h1 c1)
  · have c1 : s0 ≠ 0 := c1
    refine gx_blk (C := (True ∧ (0 ≤ x4 ∧ x4 < 8))) (npc := 85) (L' := [(0, .inr 86), (2, .inl x2), (3, .inl x3), (4, .inl x4)]) (st' := [.inl 1000000000, .inl (m 117 (x4).toNat)]) (m' := m) [((75, .aload_n 0, 1, 0, 0, 0, 0), (0, 0, 0)), ((76, .getfield 101, 3, 10, 46, 5159, 0), (1, 86, 117)), ((79, .iload 4, 2, 0, 0, 0, 0), (0, 0, 0)), ((81, .iaload, 1, 0, 0, 0, 0), (0, 117, 8)), ((82, .ldc_w 333, 3, 0, 0, 7076, 1000000000), (0, 0, 0))] (by decide +kernel) rfl ⟨trivial, (by omega)⟩ ?_
    refine gx_cmp .ge 122 (by decide +kernel) (fun c2 => ?_) (fun c2 => ?_)
    · have c2 : 1000000000 ≤ (m 117 (x4).toNat) := c2
      have e2 : gx_w (x4 + 1) = x4 + 1 := gx_w_id (by omega) (by omega)
      refine gx_blk (C := True) (npc := 51) (L' := [(0, .inr 86), (2, .inl x2), (3, .inl x3), (4, .inl (gx_w (x4 + 1)))]) (st' := []) (m' := m) [((122, .iinc 4 1, 3, 0, 0, 0, 0), (0, 0, 0)), ((125, .goto (-74), 3, 0, 0, 0, 0), (0, 0, 0))] (by decide +kernel) rfl trivial ?_
      rw [e2]
      exact gx_to_pick [0, 2, 3, 4] (h2 c1 c2)
    · have c2 : (m 117 (x4).toNat) < 1000000000 := by have h : ¬ (1000000000 ≤ (m 117 (x4).toNat)) := c2; omega
      refine gx_blk (C := True) (npc := 92) (L' := [(0, .inr 86), (2, .inl x2), (3, .inl x3), (4, .inl x4)]) (st' := [.inl x4, .inl x3, .inr 86]) (m' := m) [((88, .aload_n 0, 1, 0, 0, 0, 0), (0, 0, 0)), ((89, .iload_n 3, 1, 0, 0, 0, 0), (0, 0, 0)), ((90, .iload 4, 2, 0, 0, 0, 0), (0, 0, 0))] (by decide +kernel) rfl trivial ?_
      exact gx_callv (E := (92, .invokevirtual 409, 3, 266, 0, 7193, 0)) (M' := yp_m266) (c := 86) [.inl x3, .inl x4] [] rfl (by decide +kernel) rfl ⟨rfl, rfl⟩ rfl rfl (Nat.le_of_ble_eq_true rfl) (Nat.le_of_ble_eq_true rfl) (by decide +kernel) (gx_to_mono (h3 c1 c2) (fun r m' h' => gx_to_pick [0, 2, 3, 4] h'))

/-- laysFar from 95 on -/
theorem gt265_95 {xs : List Int32} {w0 : sx_W} {d : Nat} {Q : gx_Q} {m : gx_M} {x2 x3 x4 s0 : Int} (r_x2 : 0 ≤ x2 ∧ x2 ≤ 7) (r_x3 : 0 ≤ x3 ∧ x3 ≤ 7) (r_x4 : 0 ≤ x4 ∧ x4 ≤ 7)
    (h1 : (s0 = 0) → gx_to xs w0 (d + 1) yp_m265 51 [(0, .inr 86), (2, .inl x2), (3, .inl x3), (4, .inl (x4 + 1))] [] m Q)
    (h2 : (s0 ≠ 0) → gx_to xs w0 d yp_m199 0 [(0, .inl (m 117 (x3).toNat)), (1, .inl (gx_w ((m 117 (x4).toNat) + 1)))] [] m (fun r m' => gx_to xs w0 (d + 1) yp_m265 121 [(0, .inr 86), (2, .inl x2), (3, .inl x3), (4, .inl x4)] (gx_rs r ++ [.inl x3, .inr 117]) m' Q)) : gx_to xs w0 (d + 1) yp_m265 95 [(0, .inr 86), (2, .inl x2), (3, .inl x3), (4, .inl x4)] [.inl s0] m Q := by
  refine gx_if .eq 122 (by decide +kernel) (fun c1 => ?_) (fun c1 => ?_)
  · have c1 : s0 = 0 := c1
    have e1 : gx_w (x4 + 1) = x4 + 1 := gx_w_id (by omega) (by omega)
    refine gx_blk (C := True) (npc := 51) (L' := [(0, .inr 86), (2, .inl x2), (3, .inl x3), (4, .inl (gx_w (x4 + 1)))]) (st' := []) (m' := m) [((122, .iinc 4 1, 3, 0, 0, 0, 0), (0, 0, 0)), ((125, .goto (-74), 3, 0, 0, 0, 0), (0, 0, 0))] (by decide +kernel) rfl trivial ?_
    rw [e1]
    exact gx_to_pick [0, 2, 3, 4] (h1 c1)
  · have c1 : s0 ≠ 0 := c1
    refine gx_blk (C := (((True ∧ (0 ≤ x3 ∧ x3 < 8))) ∧ (0 ≤ x4 ∧ x4 < 8))) (npc := 118) (L' := [(0, .inr 86), (2, .inl x2), (3, .inl x3), (4, .inl x4)]) (st' := [.inl (gx_w ((m 117 (x4).toNat) + 1)), .inl (m 117 (x3).toNat), .inl x3, .inr 117]) (m' := m) [((98, .aload_n 0, 1, 0, 0, 0, 0), (0, 0, 0)), ((99, .getfield 101, 3, 10, 46, 5159, 0), (1, 86, 117)), ((102, .iload_n 3, 1, 0, 0, 0, 0), (0, 0, 0)), ((103, .aload_n 0, 1, 0, 0, 0, 0), (0, 0, 0)), ((104, .getfield 101, 3, 10, 46, 5159, 0), (1, 86, 117)), ((107, .iload_n 3, 1, 0, 0, 0, 0), (0, 0, 0)), ((108, .iaload, 1, 0, 0, 0, 0), (0, 117, 8)), ((109, .aload_n 0, 1, 0, 0, 0, 0), (0, 0, 0)), ((110, .getfield 101, 3, 10, 46, 5159, 0), (1, 86, 117)), ((113, .iload 4, 2, 0, 0, 0, 0), (0, 0, 0)), ((115, .iaload, 1, 0, 0, 0, 0), (0, 117, 8)), ((116, .iconst 1, 1, 0, 0, 0, 0), (0, 0, 0)), ((117, .iadd, 1, 0, 0, 0, 0), (0, 0, 0))] (by decide +kernel) rfl ⟨⟨trivial, (by omega)⟩, (by omega)⟩ ?_
    exact gx_calls (E := (118, .invokestatic 120, 3, 199, 0, 6168, 0)) (M' := yp_m199) [.inl (m 117 (x3).toNat), .inl (gx_w ((m 117 (x4).toNat) + 1))] [.inl x3, .inr 117] rfl (by decide +kernel) rfl ⟨rfl, rfl⟩ rfl rfl (Nat.le_of_ble_eq_true rfl) (Nat.le_of_ble_eq_true rfl) rfl (gx_to_mono (h2 c1) (fun r m' h' => gx_to_pick [0, 2, 3, 4] h'))

/-- laysFar from 121 on -/
theorem gt265_121 {xs : List Int32} {w0 : sx_W} {d : Nat} {Q : gx_Q} {m : gx_M} {x2 x3 x4 s1 s2 : Int} (r_x2 : 0 ≤ x2 ∧ x2 ≤ 7) (r_x3 : 0 ≤ x3 ∧ x3 ≤ 7) (r_x4 : 0 ≤ x4 ∧ x4 ≤ 7) (r_s1 : 0 ≤ s1 ∧ s1 ≤ 7)
    (h1 : gx_to xs w0 d yp_m265 51 [(0, .inr 86), (2, .inl x2), (3, .inl x3), (4, .inl (x4 + 1))] [] (gx_u m 117 (s1).toNat s2) Q) : gx_to xs w0 d yp_m265 121 [(0, .inr 86), (2, .inl x2), (3, .inl x3), (4, .inl x4)] [.inl s2, .inl s1, .inr 117] m Q := by
  have e1 : gx_w (x4 + 1) = x4 + 1 := gx_w_id (by omega) (by omega)
  refine gx_blk (C := (True ∧ (0 ≤ s1 ∧ s1 < 8))) (npc := 51) (L' := [(0, .inr 86), (2, .inl x2), (3, .inl x3), (4, .inl (gx_w (x4 + 1)))]) (st' := []) (m' := (gx_u m 117 (s1).toNat s2)) [((121, .iastore, 1, 0, 0, 0, 0), (0, 117, 8)), ((122, .iinc 4 1, 3, 0, 0, 0, 0), (0, 0, 0)), ((125, .goto (-74), 3, 0, 0, 0, 0), (0, 0, 0))] (by decide +kernel) rfl ⟨trivial, (by omega)⟩ ?_
  rw [e1]
  exact gx_to_pick [0, 2, 3, 4] h1

/-- linked from 0 on -/
theorem gt264_0 {xs : List Int32} {w0 : sx_W} {d : Nat} {Q : gx_Q} {m : gx_M} {x1 x2 x3 : Int}
    (h1 : gx_to xs w0 d yp_m164 0 [(0, .inr 86), (1, .inl x1)] [] m (fun r m' => gx_to xs w0 (d + 1) yp_m264 5 [(0, .inr 86), (1, .inl x1), (2, .inl x2), (3, .inl x3)] (gx_rs r ++ []) m' Q)) : gx_to xs w0 (d + 1) yp_m264 0 [(0, .inr 86), (1, .inl x1), (2, .inl x2), (3, .inl x3)] [] m Q := by
  refine gx_blk (C := True) (npc := 2) (L' := [(0, .inr 86), (1, .inl x1), (2, .inl x2), (3, .inl x3)]) (st' := [.inl x1, .inr 86]) (m' := m) [((0, .aload_n 0, 1, 0, 0, 0, 0), (0, 0, 0)), ((1, .iload_n 1, 1, 0, 0, 0, 0), (0, 0, 0))] (by decide +kernel) rfl trivial ?_
  exact gx_callv (E := (2, .invokevirtual 113, 3, 164, 0, 6031, 0)) (M' := yp_m164) (c := 86) [.inl x1] [] rfl (by decide +kernel) rfl ⟨rfl, rfl⟩ rfl rfl (Nat.le_of_ble_eq_true rfl) (Nat.le_of_ble_eq_true rfl) (by decide +kernel) (gx_to_mono h1 (fun r m' h' => gx_to_pick [0, 1, 2, 3] h'))

/-- linked from 5 on -/
theorem gt264_5 {xs : List Int32} {w0 : sx_W} {d : Nat} {Q : gx_Q} {m : gx_M} {x1 x2 x3 s0 : Int}
    (h1 : (s0 = 0) → Q (some (-3)) m)
    (h2 : (s0 ≠ 0) → gx_to xs w0 d yp_m164 0 [(0, .inr 86), (1, .inl x2)] [] m (fun r m' => gx_to xs w0 (d + 1) yp_m264 13 [(0, .inr 86), (1, .inl x1), (2, .inl x2), (3, .inl x3)] (gx_rs r ++ []) m' Q)) : gx_to xs w0 (d + 1) yp_m264 5 [(0, .inr 86), (1, .inl x1), (2, .inl x2), (3, .inl x3)] [.inl s0] m Q := by
  refine gx_if .eq 21 (by decide +kernel) (fun c1 => ?_) (fun c1 => ?_)
  · have c1 : s0 = 0 := c1
    refine gx_blk (C := True) (npc := 23) (L' := [(0, .inr 86), (1, .inl x1), (2, .inl x2), (3, .inl x3)]) (st' := [.inl (-3)]) (m' := m) [((21, .bipush (-3), 2, 0, 0, 0, 0), (0, 0, 0))] (by decide +kernel) rfl trivial ?_
    exact gx_reti (by decide +kernel) (h1 c1)
  · have c1 : s0 ≠ 0 := c1
    refine gx_blk (C := True) (npc := 10) (L' := [(0, .inr 86), (1, .inl x1), (2, .inl x2), (3, .inl x3)]) (st' := [.inl x2, .inr 86]) (m' := m) [((8, .aload_n 0, 1, 0, 0, 0, 0), (0, 0, 0)), ((9, .iload_n 2, 1, 0, 0, 0, 0), (0, 0, 0))] (by decide +kernel) rfl trivial ?_
    exact gx_callv (E := (10, .invokevirtual 113, 3, 164, 0, 6031, 0)) (M' := yp_m164) (c := 86) [.inl x2] [] rfl (by decide +kernel) rfl ⟨rfl, rfl⟩ rfl rfl (Nat.le_of_ble_eq_true rfl) (Nat.le_of_ble_eq_true rfl) (by decide +kernel) (gx_to_mono (h2 c1) (fun r m' h' => gx_to_pick [0, 1, 2, 3] h'))

/-- linked from 13 on -/
theorem gt264_13 {xs : List Int32} {w0 : sx_W} {d : Nat} {Q : gx_Q} {m : gx_M} {x1 x2 x3 s0 : Int}
    (h1 : (s0 = 0) → Q (some (-3)) m)
    (h2 : (s0 ≠ 0) → ((-1) ≤ x3) → gx_to xs w0 d yp_m265 0 [(0, .inr 86), (1, .inl x2)] [] m (fun r m' => gx_to xs w0 (d + 1) yp_m264 29 [(0, .inr 86), (1, .inl x1), (3, .inl x3)] (gx_rs r ++ []) m' Q))
    (h3 : (s0 ≠ 0) → (x3 < (-1)) → Q (some (-3)) m) : gx_to xs w0 (d + 1) yp_m264 13 [(0, .inr 86), (1, .inl x1), (2, .inl x2), (3, .inl x3)] [.inl s0] m Q := by
  refine gx_if .eq 21 (by decide +kernel) (fun c1 => ?_) (fun c1 => ?_)
  · have c1 : s0 = 0 := c1
    refine gx_blk (C := True) (npc := 23) (L' := [(0, .inr 86), (1, .inl x1), (2, .inl x2), (3, .inl x3)]) (st' := [.inl (-3)]) (m' := m) [((21, .bipush (-3), 2, 0, 0, 0, 0), (0, 0, 0))] (by decide +kernel) rfl trivial ?_
    exact gx_reti (by decide +kernel) (h1 c1)
  · have c1 : s0 ≠ 0 := c1
    refine gx_blk (C := True) (npc := 18) (L' := [(0, .inr 86), (1, .inl x1), (2, .inl x2), (3, .inl x3)]) (st' := [.inl (-1), .inl x3]) (m' := m) [((16, .iload_n 3, 1, 0, 0, 0, 0), (0, 0, 0)), ((17, .iconst (-1), 1, 0, 0, 0, 0), (0, 0, 0))] (by decide +kernel) rfl trivial ?_
    refine gx_cmp .ge 24 (by decide +kernel) (fun c2 => ?_) (fun c2 => ?_)
    · have c2 : (-1) ≤ x3 := c2
      refine gx_blk (C := True) (npc := 26) (L' := [(0, .inr 86), (1, .inl x1), (2, .inl x2), (3, .inl x3)]) (st' := [.inl x2, .inr 86]) (m' := m) [((24, .aload_n 0, 1, 0, 0, 0, 0), (0, 0, 0)), ((25, .iload_n 2, 1, 0, 0, 0, 0), (0, 0, 0))] (by decide +kernel) rfl trivial ?_
      exact gx_callv (E := (26, .invokevirtual 412, 3, 265, 0, 7189, 0)) (M' := yp_m265) (c := 86) [.inl x2] [] rfl (by decide +kernel) rfl ⟨rfl, rfl⟩ rfl rfl (Nat.le_of_ble_eq_true rfl) (Nat.le_of_ble_eq_true rfl) (by decide +kernel) (gx_to_mono (h2 c1 c2) (fun r m' h' => gx_to_pick [0, 1, 3] h'))
    · have c2 : x3 < (-1) := by have h : ¬ ((-1) ≤ x3) := c2; omega
      refine gx_blk (C := True) (npc := 23) (L' := [(0, .inr 86), (1, .inl x1), (2, .inl x2), (3, .inl x3)]) (st' := [.inl (-3)]) (m' := m) [((21, .bipush (-3), 2, 0, 0, 0, 0), (0, 0, 0))] (by decide +kernel) rfl trivial ?_
      exact gx_reti (by decide +kernel) (h3 c1 c2)

/-- linked from 29 on -/
theorem gt264_29 {xs : List Int32} {w0 : sx_W} {d : Nat} {Q : gx_Q} {m : gx_M} {x1 x3 : Int} (r_x1 : 0 ≤ x1 ∧ x1 ≤ 7)
    (h1 : ((m 117 (x1).toNat) ≠ 1000000000) → (x3 ≠ (-1)) → (x3 ≤ (m 117 (x1).toNat)) → gx_to xs w0 d yp_m264 75 [(0, .inr 86), (3, .inl x3), (4, .inl x1), (5, .inl 0)] [] m Q)
    (h2 : ((m 117 (x1).toNat) ≠ 1000000000) → (x3 ≠ (-1)) → ((m 117 (x1).toNat) < x3) → Q (some (-3)) m)
    (h3 : ((m 117 (x1).toNat) ≠ 1000000000) → (x3 = (-1)) → Q (some (m 117 (x1).toNat)) m)
    (h4 : ((m 117 (x1).toNat) = 1000000000) → Q (some (-2)) m) : gx_to xs w0 d yp_m264 29 [(0, .inr 86), (1, .inl x1), (3, .inl x3)] [] m Q := by
  refine gx_blk (C := (True ∧ (0 ≤ x1 ∧ x1 < 8))) (npc := 38) (L' := [(0, .inr 86), (1, .inl x1), (3, .inl x3)]) (st' := [.inl 1000000000, .inl (m 117 (x1).toNat)]) (m' := m) [((29, .aload_n 0, 1, 0, 0, 0, 0), (0, 0, 0)), ((30, .getfield 101, 3, 10, 46, 5159, 0), (1, 86, 117)), ((33, .iload_n 1, 1, 0, 0, 0, 0), (0, 0, 0)), ((34, .iaload, 1, 0, 0, 0, 0), (0, 117, 8)), ((35, .ldc_w 333, 3, 0, 0, 7076, 1000000000), (0, 0, 0))] (by decide +kernel) rfl ⟨trivial, (by omega)⟩ ?_
  refine gx_cmp .ne 44 (by decide +kernel) (fun c1 => ?_) (fun c1 => ?_)
  · have c1 : (m 117 (x1).toNat) ≠ 1000000000 := c1
    refine gx_blk (C := True) (npc := 46) (L' := [(0, .inr 86), (1, .inl x1), (3, .inl x3)]) (st' := [.inl (-1), .inl x3]) (m' := m) [((44, .iload_n 3, 1, 0, 0, 0, 0), (0, 0, 0)), ((45, .iconst (-1), 1, 0, 0, 0, 0), (0, 0, 0))] (by decide +kernel) rfl trivial ?_
    refine gx_cmp .ne 56 (by decide +kernel) (fun c2 => ?_) (fun c2 => ?_)
    · have c2 : x3 ≠ (-1) := c2
      refine gx_blk (C := (True ∧ (0 ≤ x1 ∧ x1 < 8))) (npc := 63) (L' := [(0, .inr 86), (1, .inl x1), (3, .inl x3)]) (st' := [.inl (m 117 (x1).toNat), .inl x3]) (m' := m) [((56, .iload_n 3, 1, 0, 0, 0, 0), (0, 0, 0)), ((57, .aload_n 0, 1, 0, 0, 0, 0), (0, 0, 0)), ((58, .getfield 101, 3, 10, 46, 5159, 0), (1, 86, 117)), ((61, .iload_n 1, 1, 0, 0, 0, 0), (0, 0, 0)), ((62, .iaload, 1, 0, 0, 0, 0), (0, 117, 8))] (by decide +kernel) rfl ⟨trivial, (by omega)⟩ ?_
      refine gx_cmp .le 69 (by decide +kernel) (fun c3 => ?_) (fun c3 => ?_)
      · have c3 : x3 ≤ (m 117 (x1).toNat) := c3
        refine gx_blk (C := True) (npc := 75) (L' := [(0, .inr 86), (1, .inl x1), (3, .inl x3), (4, .inl x1), (5, .inl 0)]) (st' := []) (m' := m) [((69, .iload_n 1, 1, 0, 0, 0, 0), (0, 0, 0)), ((70, .istore 4, 2, 0, 0, 0, 0), (0, 0, 0)), ((72, .iconst 0, 1, 0, 0, 0, 0), (0, 0, 0)), ((73, .istore 5, 2, 0, 0, 0, 0), (0, 0, 0))] (by decide +kernel) rfl trivial ?_
        exact gx_to_pick [0, 3, 4, 5] (h1 c1 c2 c3)
      · have c3 : (m 117 (x1).toNat) < x3 := by have h : ¬ (x3 ≤ (m 117 (x1).toNat)) := c3; omega
        refine gx_blk (C := True) (npc := 68) (L' := [(0, .inr 86), (1, .inl x1), (3, .inl x3)]) (st' := [.inl (-3)]) (m' := m) [((66, .bipush (-3), 2, 0, 0, 0, 0), (0, 0, 0))] (by decide +kernel) rfl trivial ?_
        exact gx_reti (by decide +kernel) (h2 c1 c2 c3)
    · have c2 : x3 = (-1) := by have h : ¬ (x3 ≠ (-1)) := c2; omega
      refine gx_blk (C := (True ∧ (0 ≤ x1 ∧ x1 < 8))) (npc := 55) (L' := [(0, .inr 86), (1, .inl x1), (3, .inl x3)]) (st' := [.inl (m 117 (x1).toNat)]) (m' := m) [((49, .aload_n 0, 1, 0, 0, 0, 0), (0, 0, 0)), ((50, .getfield 101, 3, 10, 46, 5159, 0), (1, 86, 117)), ((53, .iload_n 1, 1, 0, 0, 0, 0), (0, 0, 0)), ((54, .iaload, 1, 0, 0, 0, 0), (0, 117, 8))] (by decide +kernel) rfl ⟨trivial, (by omega)⟩ ?_
      exact gx_reti (by decide +kernel) (h3 c1 c2)
  · have c1 : (m 117 (x1).toNat) = 1000000000 := by have h : ¬ ((m 117 (x1).toNat) ≠ 1000000000) := c1; omega
    refine gx_blk (C := True) (npc := 43) (L' := [(0, .inr 86), (1, .inl x1), (3, .inl x3)]) (st' := [.inl (-2)]) (m' := m) [((41, .bipush (-2), 2, 0, 0, 0, 0), (0, 0, 0))] (by decide +kernel) rfl trivial ?_
    exact gx_reti (by decide +kernel) (h4 c1)

/-- linked from 75 on -/
theorem gt264_75 {xs : List Int32} {w0 : sx_W} {d : Nat} {Q : gx_Q} {m : gx_M} {x3 x4 x5 : Int} (r_x5 : 0 ≤ x5 ∧ x5 ≤ 8)
    (h1 : (x3 ≤ x5) → Q (some x4) m)
    (h2 : (x5 < x3) → gx_to xs w0 d yp_m264 84 [(0, .inr 86), (3, .inl x3), (4, .inl x4), (5, .inl x5), (6, .inl 0)] [] m Q) : gx_to xs w0 d yp_m264 75 [(0, .inr 86), (3, .inl x3), (4, .inl x4), (5, .inl x5)] [] m Q := by
  refine gx_blk (C := True) (npc := 78) (L' := [(0, .inr 86), (3, .inl x3), (4, .inl x4), (5, .inl x5)]) (st' := [.inl x3, .inl x5]) (m' := m) [((75, .iload 5, 2, 0, 0, 0, 0), (0, 0, 0)), ((77, .iload_n 3, 1, 0, 0, 0, 0), (0, 0, 0))] (by decide +kernel) rfl trivial ?_
  refine gx_cmp .ge 133 (by decide +kernel) (fun c1 => ?_) (fun c1 => ?_)
  · have c1 : x3 ≤ x5 := c1
    refine gx_blk (C := True) (npc := 135) (L' := [(0, .inr 86), (3, .inl x3), (4, .inl x4), (5, .inl x5)]) (st' := [.inl x4]) (m' := m) [((133, .iload 4, 2, 0, 0, 0, 0), (0, 0, 0))] (by decide +kernel) rfl trivial ?_
    exact gx_reti (by decide +kernel) (h1 c1)
  · have c1 : x5 < x3 := by have h : ¬ (x3 ≤ x5) := c1; omega
    refine gx_blk (C := True) (npc := 84) (L' := [(0, .inr 86), (3, .inl x3), (4, .inl x4), (5, .inl x5), (6, .inl 0)]) (st' := []) (m' := m) [((81, .iconst 0, 1, 0, 0, 0, 0), (0, 0, 0)), ((82, .istore 6, 2, 0, 0, 0, 0), (0, 0, 0))] (by decide +kernel) rfl trivial ?_
    exact gx_to_pick [0, 3, 4, 5, 6] (h2 c1)

/-- linked from 84 on -/
theorem gt264_84 {xs : List Int32} {w0 : sx_W} {d : Nat} {Q : gx_Q} {m : gx_M} {x3 x4 x5 x6 : Int} (r_x4 : 0 ≤ x4 ∧ x4 ≤ 7) (r_x5 : 0 ≤ x5 ∧ x5 ≤ 7) (r_x6 : 0 ≤ x6 ∧ x6 ≤ 7)
    (h1 : ((m 117 (x6).toNat) ≠ (gx_w ((m 117 (x4).toNat) - 1))) → gx_to xs w0 (d + 1) yp_m264 84 [(0, .inr 86), (3, .inl x3), (4, .inl x4), (5, .inl x5), (6, .inl (x6 + 1))] [] m Q)
    (h2 : ((m 117 (x6).toNat) = (gx_w ((m 117 (x4).toNat) - 1))) → gx_to xs w0 d yp_m266 0 [(0, .inr 86), (1, .inl x4), (2, .inl x6)] [] m (fun r m' => gx_to xs w0 (d + 1) yp_m264 111 [(0, .inr 86), (3, .inl x3), (4, .inl x4), (5, .inl x5), (6, .inl x6)] (gx_rs r ++ []) m' Q)) : gx_to xs w0 (d + 1) yp_m264 84 [(0, .inr 86), (3, .inl x3), (4, .inl x4), (5, .inl x5), (6, .inl x6)] [] m Q := by
  refine gx_blk (C := (((True ∧ (0 ≤ x6 ∧ x6 < 8))) ∧ (0 ≤ x4 ∧ x4 < 8))) (npc := 100) (L' := [(0, .inr 86), (3, .inl x3), (4, .inl x4), (5, .inl x5), (6, .inl x6)]) (st' := [.inl (gx_w ((m 117 (x4).toNat) - 1)), .inl (m 117 (x6).toNat)]) (m' := m) [((84, .aload_n 0, 1, 0, 0, 0, 0), (0, 0, 0)), ((85, .getfield 101, 3, 10, 46, 5159, 0), (1, 86, 117)), ((88, .iload 6, 2, 0, 0, 0, 0), (0, 0, 0)), ((90, .iaload, 1, 0, 0, 0, 0), (0, 117, 8)), ((91, .aload_n 0, 1, 0, 0, 0, 0), (0, 0, 0)), ((92, .getfield 101, 3, 10, 46, 5159, 0), (1, 86, 117)), ((95, .iload 4, 2, 0, 0, 0, 0), (0, 0, 0)), ((97, .iaload, 1, 0, 0, 0, 0), (0, 117, 8)), ((98, .iconst 1, 1, 0, 0, 0, 0), (0, 0, 0)), ((99, .isub, 1, 0, 0, 0, 0), (0, 0, 0))] (by decide +kernel) rfl ⟨⟨trivial, (by omega)⟩, (by omega)⟩ ?_
  refine gx_cmp .ne 114 (by decide +kernel) (fun c1 => ?_) (fun c1 => ?_)
  · have c1 : (m 117 (x6).toNat) ≠ (gx_w ((m 117 (x4).toNat) - 1)) := c1
    have e1 : gx_w (x6 + 1) = x6 + 1 := gx_w_id (by omega) (by omega)
    refine gx_blk (C := True) (npc := 84) (L' := [(0, .inr 86), (3, .inl x3), (4, .inl x4), (5, .inl x5), (6, .inl (gx_w (x6 + 1)))]) (st' := []) (m' := m) [((114, .iload 6, 2, 0, 0, 0, 0), (0, 0, 0)), ((116, .iconst 1, 1, 0, 0, 0, 0), (0, 0, 0)), ((117, .iadd, 1, 0, 0, 0, 0), (0, 0, 0)), ((118, .istore 6, 2, 0, 0, 0, 0), (0, 0, 0)), ((120, .goto (-36), 3, 0, 0, 0, 0), (0, 0, 0))] (by decide +kernel) rfl trivial ?_
    rw [e1]
    exact gx_to_pick [0, 3, 4, 5, 6] (h1 c1)
  · have c1 : (m 117 (x6).toNat) = (gx_w ((m 117 (x4).toNat) - 1)) := by have h : ¬ ((m 117 (x6).toNat) ≠ (gx_w ((m 117 (x4).toNat) - 1))) := c1; omega
    refine gx_blk (C := True) (npc := 108) (L' := [(0, .inr 86), (3, .inl x3), (4, .inl x4), (5, .inl x5), (6, .inl x6)]) (st' := [.inl x6, .inl x4, .inr 86]) (m' := m) [((103, .aload_n 0, 1, 0, 0, 0, 0), (0, 0, 0)), ((104, .iload 4, 2, 0, 0, 0, 0), (0, 0, 0)), ((106, .iload 6, 2, 0, 0, 0, 0), (0, 0, 0))] (by decide +kernel) rfl trivial ?_
    exact gx_callv (E := (108, .invokevirtual 409, 3, 266, 0, 7193, 0)) (M' := yp_m266) (c := 86) [.inl x4, .inl x6] [] rfl (by decide +kernel) rfl ⟨rfl, rfl⟩ rfl rfl (Nat.le_of_ble_eq_true rfl) (Nat.le_of_ble_eq_true rfl) (by decide +kernel) (gx_to_mono (h2 c1) (fun r m' h' => gx_to_pick [0, 3, 4, 5, 6] h'))

/-- linked from 111 on -/
theorem gt264_111 {xs : List Int32} {w0 : sx_W} {d : Nat} {Q : gx_Q} {m : gx_M} {x3 x4 x5 x6 s0 : Int} (r_x4 : 0 ≤ x4 ∧ x4 ≤ 7) (r_x5 : 0 ≤ x5 ∧ x5 ≤ 7) (r_x6 : 0 ≤ x6 ∧ x6 ≤ 7)
    (h1 : (s0 ≠ 0) → gx_to xs w0 d yp_m264 75 [(0, .inr 86), (3, .inl x3), (4, .inl x6), (5, .inl (x5 + 1))] [] m Q)
    (h2 : (s0 = 0) → gx_to xs w0 d yp_m264 84 [(0, .inr 86), (3, .inl x3), (4, .inl x4), (5, .inl x5), (6, .inl (x6 + 1))] [] m Q) : gx_to xs w0 d yp_m264 111 [(0, .inr 86), (3, .inl x3), (4, .inl x4), (5, .inl x5), (6, .inl x6)] [.inl s0] m Q := by
  refine gx_if .ne 123 (by decide +kernel) (fun c1 => ?_) (fun c1 => ?_)
  · have c1 : s0 ≠ 0 := c1
    have e1 : gx_w (x5 + 1) = x5 + 1 := gx_w_id (by omega) (by omega)
    refine gx_blk (C := True) (npc := 75) (L' := [(0, .inr 86), (3, .inl x3), (4, .inl x6), (5, .inl (gx_w (x5 + 1))), (6, .inl x6)]) (st' := []) (m' := m) [((123, .iload 6, 2, 0, 0, 0, 0), (0, 0, 0)), ((125, .istore 4, 2, 0, 0, 0, 0), (0, 0, 0)), ((127, .iinc 5 1, 3, 0, 0, 0, 0), (0, 0, 0)), ((130, .goto (-55), 3, 0, 0, 0, 0), (0, 0, 0))] (by decide +kernel) rfl trivial ?_
    rw [e1]
    exact gx_to_pick [0, 3, 4, 5] (h1 c1)
  · have c1 : s0 = 0 := by have h : ¬ (s0 ≠ 0) := c1; omega
    have e2 : gx_w (x6 + 1) = x6 + 1 := gx_w_id (by omega) (by omega)
    refine gx_blk (C := True) (npc := 84) (L' := [(0, .inr 86), (3, .inl x3), (4, .inl x4), (5, .inl x5), (6, .inl (gx_w (x6 + 1)))]) (st' := []) (m' := m) [((114, .iload 6, 2, 0, 0, 0, 0), (0, 0, 0)), ((116, .iconst 1, 1, 0, 0, 0, 0), (0, 0, 0)), ((117, .iadd, 1, 0, 0, 0, 0), (0, 0, 0)), ((118, .istore 6, 2, 0, 0, 0, 0), (0, 0, 0)), ((120, .goto (-36), 3, 0, 0, 0, 0), (0, 0, 0))] (by decide +kernel) rfl trivial ?_
    rw [e2]
    exact gx_to_pick [0, 3, 4, 5, 6] (h2 c1)
end
section
/-! linked -/
theorem gx_fw.row {mods : bx_M} {m m' : gx_M} (h : gx_fw mods m m') {c : Nat} (hc : ∀ q ∈ mods, q.1 ≠ c) : m' c = m c := by
  funext k
  exact h c k (fun q hq e => hc q hq e.1)
def gx_Xc (gX : gx_M → Prop) : Prop := ∀ m m' : gx_M, (∀ q ∈ bw_PC, ∀ k, q.2.1 ≤ k → k < q.2.2 → m' q.1 k = m q.1 k) → gX m → gX m'
def gx_disj (mods : bx_M) : Bool := mods.all (fun q => bw_PC.all (fun p => !decide (p.1 = q.1) || decide (p.2.2 ≤ q.2.1) || decide (q.2.2 ≤ p.2.1)))
theorem gx_Xc.fw {gX : gx_M → Prop} (hc : gx_Xc gX) {mods : bx_M} {m m' : gx_M} (h : gx_fw mods m m') (hd : gx_disj mods = true) (hX : gX m) : gX m' := by
  refine hc m m' (fun p hp k h1 h2 => h p.1 k (fun q hq e => ?_)) hX
  have h3 := List.all_eq_true.mp (List.all_eq_true.mp hd q hq) p hp
  simp only [Bool.or_eq_true, Bool.not_eq_true', decide_eq_false_iff_not, decide_eq_true_eq] at h3
  omega
def gx_hh (r : Nat → Int) (y p : Int) : Prop := ∃ k : Int, 0 ≤ k ∧ k < r (400 + y).toNat ∧ r (440 + y).toNat = 1 ∧ r (480 + 16 * y + k).toNat = p
def gx_Lk (r : Nat → Int) (p q : Int) : Prop := ∃ y : Int, 0 ≤ y ∧ y < 40 ∧ gx_hh r y p ∧ gx_hh r y q
section GLK
variable {xs : List Int32} {w0 : sx_W} {d : Nat} {Q : gx_Q} {m : gx_M}
theorem gl_hh (hI : gx_I m) {y p : Int} (hy : 0 ≤ y ∧ y ≤ 39) (h1 : gx_hh (m 87) y p → Q (some 1) m) (h0 : ¬ gx_hh (m 87) y p → Q (some 0) m) : ∀ (j : Nat) (k : Int), 0 ≤ k → 16 - k = j → (∀ i, 0 ≤ i → i < k → ¬ (i < m 87 (400 + y).toNat ∧ m 87 (440 + y).toNat = 1 ∧ m 87 (480 + 16 * y + i).toNat = p)) → gx_to xs w0 d yp_m220 2 [(0, .inr 86), (1, .inl y), (2, .inl p), (3, .inl k)] [] m Q := by
  have hm := gx_I_at hI 87 (z := 400 + y) 400 439 0 16 (by decide +kernel) (by omega) (by omega)
  intro j
  induction j with
  | zero =>
    intro k hk hj hn
    exact gt220_2 hI hy (by omega) (fun c => h0 (fun ⟨i, a, b, e1, e2⟩ => hn i a (by omega) ⟨b, e1, e2⟩)) (fun c c' => h0 (fun ⟨i, a, b, e1, e2⟩ => c' e1)) (fun c => by omega) (fun c c' c'' => h1 ⟨k, hk, c, c', c''⟩)
  | succ j ih =>
    intro k hk hj hn
    exact gt220_2 hI hy (by omega) (fun c => h0 (fun ⟨i, a, b, e1, e2⟩ => hn i a (by omega) ⟨b, e1, e2⟩)) (fun c c' => h0 (fun ⟨i, a, b, e1, e2⟩ => c' e1)) (fun c c' c'' => ih (k + 1) (by omega) (by omega) (fun i h2 h3 h4 => by
      by_cases e : i = k
      · rw [e] at h4
        exact c'' h4.2.2
      · exact hn i h2 (by omega) h4)) (fun c c' c'' => h1 ⟨k, hk, c, c', c''⟩)
theorem gc_hh (hI : gx_I m) {y p : Int} (hy : 0 ≤ y ∧ y ≤ 39) (h1 : gx_hh (m 87) y p → Q (some 1) m) (h0 : ¬ gx_hh (m 87) y p → Q (some 0) m) : gx_to xs w0 d yp_m220 0 [(0, .inr 86), (1, .inl y), (2, .inl p)] [] m Q :=
  gt220_0 (gl_hh hI hy h1 h0 16 0 (by omega) (by omega) (fun i a b => by omega))
theorem gl_Lk (hI : gx_I m) {p q : Int} (h1 : gx_Lk (m 87) p q → Q (some 1) m) (h0 : ¬ gx_Lk (m 87) p q → Q (some 0) m) : ∀ (j : Nat) (y : Int), 0 ≤ y → 40 - y = j → (∀ i, 0 ≤ i → i < y → ¬ (gx_hh (m 87) i p ∧ gx_hh (m 87) i q)) → gx_to xs w0 (d + 1) yp_m266 2 [(0, .inr 86), (1, .inl p), (2, .inl q), (3, .inl y)] [] m Q := by
  intro j
  induction j with
  | zero => exact fun y hy hj hn => gt266_2 (by omega) (fun c => h0 (fun ⟨i, a, b, e1, e2⟩ => hn i a (by omega) ⟨e1, e2⟩)) (fun c => by omega)
  | succ j ih =>
    intro y hy hj hn
    have hrec : ¬ (gx_hh (m 87) y p ∧ gx_hh (m 87) y q) → gx_to xs w0 (d + 1) yp_m266 2 [(0, .inr 86), (1, .inl p), (2, .inl q), (3, .inl (y + 1))] [] m Q := fun hno => ih (y + 1) (by omega) (by omega) (fun i h2 h3 h4 => by
      by_cases e : i = y
      · rw [e] at h4
        exact hno h4
      · exact hn i h2 (by omega) h4)
    exact gt266_2 (by omega) (fun c => h0 (fun ⟨i, a, b, e1, e2⟩ => hn i a (by omega) ⟨e1, e2⟩)) (fun c => gc_hh hI (by omega)
      (fun g1 => gt266_14 (by omega) (fun e => by omega) (fun _ => gc_hh hI (by omega)
        (fun g2 => gt266_23 (by omega) (fun e => by omega) (fun _ => h1 ⟨y, hy, c, g1, g2⟩))
        (fun g2 => gt266_23 (by omega) (fun _ => hrec (fun h => g2 h.2)) (fun e => absurd rfl e))))
      (fun g1 => gt266_14 (by omega) (fun _ => hrec (fun h => g1 h.1)) (fun e => absurd rfl e)))
theorem gc_Lk (hI : gx_I m) {p q : Int} (h1 : gx_Lk (m 87) p q → Q (some 1) m) (h0 : ¬ gx_Lk (m 87) p q → Q (some 0) m) : gx_to xs w0 (d + 1) yp_m266 0 [(0, .inr 86), (1, .inl p), (2, .inl q)] [] m Q :=
  gt266_0 (gl_Lk hI h1 h0 40 0 (by omega) (by omega) (fun i a b => by omega))
/-- who is linked with whom -/
def gx_E (m : gx_M) (a b : Nat) : Prop := gx_P m (a : Int) ∧ gx_P m (b : Int) ∧ gx_Lk (m 87) (a : Int) (b : Int)
def gx_far : bx_M := [(117, 0, 8)]
theorem gx_far87 {m m' : gx_M} (h : gx_fw gx_far m m') : m' 87 = m 87 := h.row (fun q hq e => by
  rw [gx_far, List.mem_singleton] at hq
  subst hq
  cases e)
theorem gx_farP {m m' : gx_M} (h : gx_fw gx_far m m') {p : Int} : gx_P m' p ↔ gx_P m p := by unfold gx_P; rw [gx_far87 h]
theorem gx_farw {m0 m : gx_M} (h : gx_fw gx_far m0 m) {k : Nat} (hk : k < 8) {v : Int} : gx_fw gx_far m0 (gx_u m 117 k v) := h.w ⟨_, List.mem_singleton.mpr rfl, rfl, Nat.zero_le _, hk⟩
theorem gx_farI {m : gx_M} (hI : gx_I m) {k : Int} (h1 : 0 ≤ k) (h2 : k ≤ 7) {v : Int} (h3 : -2147483648 ≤ v) (h4 : v ≤ 2147483647) : gx_I (gx_u m 117 k.toNat v) := gx_I_w hI 117 (z := k) 0 7 (-2147483648) 2147483647 (by decide +kernel) h1 h2 h3 h4
/-- what one stretch of the rounds takes for granted -/
def gx_fs (m0 : gx_M) (q : Nat) (m : gx_M) : Prop := gx_I m ∧ gx_fw gx_far m0 m ∧ lf_ok (gx_E m0) q (m 117)
theorem gl_far51 {m0 : gx_M} {q n a : Nat} (hn : n < 8) (ha : a < 8) (hQ : ∀ m, gx_fs m0 q m → lf_mid (gx_E m0) q n a 8 (m 117) → gx_to xs w0 (d + 2) yp_m265 42 [(0, .inr 86), (2, .inl (n : Int)), (3, .inl ((a : Int) + 1))] [] m Q) : ∀ (j b : Nat) (m : gx_M), 8 - b = j → b ≤ 8 → gx_fs m0 q m → lf_mid (gx_E m0) q n a b (m 117) → gx_to xs w0 (d + 2) yp_m265 51 [(0, .inr 86), (2, .inl (n : Int)), (3, .inl (a : Int)), (4, .inl (b : Int))] [] m Q := by
  intro j
  induction j with
  | zero =>
    intro b m hj hb hs hm
    have e : b = 8 := by omega
    subst e
    exact gt265_51 (by omega) (by omega) (by omega) (fun _ => hQ m hs hm) (fun c => by omega)
  | succ j ih =>
    intro b m hj hb hs hm
    obtain ⟨hI, hf, hok⟩ := hs
    have hrec : ∀ m', gx_fs m0 q m' → lf_mid (gx_E m0) q n a (b + 1) (m' 117) → gx_to xs w0 (d + 2) yp_m265 51 [(0, .inr 86), (2, .inl (n : Int)), (3, .inl (a : Int)), (4, .inl ((b : Int) + 1))] [] m' Q := fun m' h1 h2 => by
      have := ih (b + 1) m' (by omega) (by omega) h1 h2
      rw [show ((b + 1 : Nat) : Int) = (b : Int) + 1 by omega] at this
      exact this
    have hno : (gx_E m0 a b → 1000000000 ≤ m 117 b) → gx_to xs w0 (d + 2) yp_m265 51 [(0, .inr 86), (2, .inl (n : Int)), (3, .inl (a : Int)), (4, .inl ((b : Int) + 1))] [] m Q := fun h => hrec m ⟨hI, hf, hok⟩ (lf_no_mid (by omega) (by omega) h hm)
    refine gt265_51 (by omega) (by omega) (by omega) (fun c => by omega) (fun c => gc_isPerson hI
      (fun pa => gt265_63 (by omega) (by omega) (by omega) (fun e => by omega) (fun _ => gc_isPerson hI
        (fun pb => gt265_72 (by omega) (by omega) (by omega) (fun e => by omega) (fun _ c' => hno (fun _ => c')) (fun _ c' => gc_Lk hI
          (fun lk => gt265_95 (by omega) (by omega) (by omega) (fun e => by omega) (fun _ => ?_))
          (fun lk => gt265_95 (by omega) (by omega) (by omega) (fun _ => hno (fun hE => absurd (by rw [gx_far87 hf]; exact hE.2.2) lk)) (fun e => absurd rfl e))))
        (fun pb => gt265_72 (by omega) (by omega) (by omega) (fun _ => hno (fun hE => absurd ((gx_farP hf).mpr hE.2.1) pb)) (fun e => absurd rfl e) (fun e => absurd rfl e))))
      (fun pa => gt265_63 (by omega) (by omega) (by omega) (fun _ => hno (fun hE => absurd ((gx_farP hf).mpr hE.1) pa)) (fun e => absurd rfl e)))
    rw [Int.toNat_natCast] at c'
    rw [Int.toNat_natCast, Int.toNat_natCast]
    have hb0 := hok.1 b (by omega)
    have ha0 := hok.1 a ha
    rw [gx_w_id (by omega) (by omega)]
    have hE : gx_E m0 a b := ⟨(gx_farP hf).mp pa, (gx_farP hf).mp pb, by rw [gx_far87 hf] at lk; exact lk⟩
    have hgo : ∀ v, v = lf_min (m 117 a) (m 117 b + 1) → gx_to xs w0 (d + 2) yp_m265 121 [(0, .inr 86), (2, .inl (n : Int)), (3, .inl (a : Int)), (4, .inl (b : Int))] [.inl v, .inl (a : Int), .inr 117] m Q := fun v hv => by
      have hvb : 0 ≤ v ∧ v ≤ 1000000000 := by rw [hv]; unfold lf_min; split <;> omega
      refine gt265_121 (by omega) (by omega) (by omega) (by omega) (hrec _ ⟨gx_farI hI (by omega) (by omega) (by omega) (by omega), ?_, ?_⟩ ?_)
      · rw [Int.toNat_natCast]
        exact gx_farw hf ha
      · rw [Int.toNat_natCast, gx_u_row, hv]
        exact lf_st_ok hok ha (by omega) hE c'
      · rw [Int.toNat_natCast, gx_u_row, hv]
        exact lf_st_mid (by omega) (by omega) hm
    exact gt199_0 (fun c1 => hgo _ (by unfold lf_min; rw [if_neg (by omega)])) (fun c1 => hgo _ (by unfold lf_min; rw [if_pos c1]))
theorem gl_far42 {m0 : gx_M} {q n : Nat} (hn : n < 8) (hQ : ∀ m, gx_fs m0 q m → lf_lo (gx_E m0) q (n + 1) (m 117) → gx_to xs w0 (d + 2) yp_m265 34 [(0, .inr 86), (2, .inl ((n : Int) + 1))] [] m Q) : ∀ (j a : Nat) (m : gx_M), 8 - a = j → a ≤ 8 → gx_fs m0 q m → lf_mid (gx_E m0) q n a 0 (m 117) → gx_to xs w0 (d + 2) yp_m265 42 [(0, .inr 86), (2, .inl (n : Int)), (3, .inl (a : Int))] [] m Q := by
  intro j
  induction j with
  | zero =>
    intro a m hj ha hs hm
    have e : a = 8 := by omega
    subst e
    exact gt265_42 (by omega) (by omega) (fun _ => hQ m hs (lf_nx_lo hm)) (fun c => by omega)
  | succ j ih =>
    intro a m hj ha hs hm
    refine gt265_42 (by omega) (by omega) (fun c => by omega) (fun _ => gl_far51 hn (by omega) (fun m' h1 h2 => ?_) 8 0 m rfl (by omega) hs hm)
    have := ih (a + 1) m' (by omega) (by omega) h1 (lf_nx_mid h1.2.2 h2)
    rw [show ((a + 1 : Nat) : Int) = (a : Int) + 1 by omega] at this
    exact this
theorem gl_far34 {m0 : gx_M} {q : Nat} (hQ : ∀ m, gx_fs m0 q m → lf_lo (gx_E m0) q 8 (m 117) → Q none m) : ∀ (j n : Nat) (m : gx_M), 8 - n = j → n ≤ 8 → gx_fs m0 q m → lf_lo (gx_E m0) q n (m 117) → gx_to xs w0 (d + 2) yp_m265 34 [(0, .inr 86), (2, .inl (n : Int))] [] m Q := by
  intro j
  induction j with
  | zero =>
    intro n m hj hn hs hm
    have e : n = 8 := by omega
    subst e
    exact gt265_34 (by omega) (fun _ => hQ m hs hm) (fun c => by omega)
  | succ j ih =>
    intro n m hj hn hs hm
    refine gt265_34 (by omega) (fun c => by omega) (fun _ => gl_far42 (by omega) (fun m' h1 h2 => ?_) 8 0 m rfl (by omega) hs (lf_mid0 hm))
    have := ih (n + 1) m' (by omega) (by omega) h1 h2
    rw [show ((n + 1 : Nat) : Int) = (n : Int) + 1 by omega] at this
    exact this
theorem lf_ini {E : Nat → Nat → Prop} {q : Nat} (hq : q < 8) {f : Nat → Int} (h : ∀ k, k < 8 → f k = if k = q then 0 else 1000000000) : lf_ok E q f ∧ lf_lo E q 0 f := by
  have h0 : f q = 0 := by rw [h q hq, if_pos rfl]
  have h1 : lf_1 f q = 1 := if_pos (by omega)
  have hc : 1 ≤ lf_c f := by
    have g0 := lf_1_bd f 0; have g1 := lf_1_bd f 1; have g2 := lf_1_bd f 2; have g3 := lf_1_bd f 3
    have g4 := lf_1_bd f 4; have g5 := lf_1_bd f 5; have g6 := lf_1_bd f 6; have g7 := lf_1_bd f 7
    have : q = 0 ∨ q = 1 ∨ q = 2 ∨ q = 3 ∨ q = 4 ∨ q = 5 ∨ q = 6 ∨ q = 7 := by omega
    unfold lf_c
    rcases this with rfl | rfl | rfl | rfl | rfl | rfl | rfl | rfl <;> omega
  refine ⟨⟨fun p hp => by rw [h p hp]; split <;> omega, h0, fun p hp hlt => ?_⟩, fun a ha k hk hw => ?_⟩
  · rw [h p hp] at hlt ⊢
    by_cases e : p = q
    · rw [if_pos e]
      exact ⟨e, by omega⟩
    · rw [if_neg e] at hlt
      omega
  · have e : k = 0 := by omega
    subst e
    have e : a = q := hw
    rw [e, h0]
    exact Int.le_refl _
theorem gl_far2 {m0 : gx_M} {q : Nat} (hq : q < 8) (hQ : ∀ m, gx_fs m0 q m → lf_lo (gx_E m0) q 8 (m 117) → Q none m) : ∀ (j i : Nat) (m : gx_M), 8 - i = j → i ≤ 8 → gx_I m → gx_fw gx_far m0 m → (∀ k, k < i → m 117 k = if k = q then 0 else 1000000000) → gx_to xs w0 (d + 2) yp_m265 2 [(0, .inr 86), (1, .inl (q : Int)), (2, .inl (i : Int))] [] m Q := by
  intro j
  induction j with
  | zero =>
    intro i m hj hi hI hf hk
    have e : i = 8 := by omega
    subst e
    obtain ⟨g1, g2⟩ := lf_ini (E := gx_E m0) hq hk
    exact gt265_2 (by omega) (fun _ => gl_far34 hQ 8 0 m rfl (by omega) ⟨hI, hf, g1⟩ g2) (fun c => by omega) (fun c => by omega)
  | succ j ih =>
    intro i m hj hi hI hf hk
    have hgo : ∀ v : Int, v = (if i = q then 0 else 1000000000) → gx_to xs w0 (d + 2) yp_m265 2 [(0, .inr 86), (1, .inl (q : Int)), (2, .inl ((i : Int) + 1))] [] (gx_u m 117 ((i : Int)).toNat v) Q := fun v hv => by
      have hvb : 0 ≤ v ∧ v ≤ 1000000000 := by rw [hv]; split <;> omega
      have := ih (i + 1) (gx_u m 117 ((i : Int)).toNat v) (by omega) (by omega) (gx_farI hI (by omega) (by omega) (by omega) (by omega)) (by rw [Int.toNat_natCast]; exact gx_farw hf (by omega)) (fun k hk' => by
        rw [Int.toNat_natCast, gx_u_row]
        unfold lf_up
        by_cases e : k = i
        · rw [if_pos e, hv, e]
        · rw [if_neg e]
          exact hk k (by omega))
      rw [show ((i + 1 : Nat) : Int) = (i : Int) + 1 by omega] at this
      exact this
    exact gt265_2 (by omega) (fun c => by omega) (fun c c' => hgo _ (by rw [if_neg (by omega)])) (fun c c' => hgo _ (by rw [if_pos (by omega)]))
theorem gc_far {q : Nat} (hq : q < 8) (hI : gx_I m) (hQ : ∀ m', gx_fs m q m' → lf_lo (gx_E m) q 8 (m' 117) → Q none m') : gx_to xs w0 (d + 2) yp_m265 0 [(0, .inr 86), (1, .inl (q : Int))] [] m Q :=
  gt265_0 (gl_far2 hq hQ 8 0 m rfl (by omega) hI gx_fw.rf (fun k h => absurd h (Nat.not_lt_zero _)))
end GLK
end
section
/-! linked, 2 -/
section GLN
variable {xs : List Int32} {gX : gx_M → Prop} {w0 : sx_W} {d : Nat} {Q : gx_Q} {m : gx_M}
theorem gl_lk84 {m0 : gx_M} {q at0 b k : Nat} {what : Int} (hs : gx_fs m0 q m) (ha : at0 < 8) (hk : k < 8) (hb : b < 8) (hE : gx_E m0 at0 b) (hfb : m 117 b = m 117 at0 - 1) (hQ : ∀ a, a < 8 → m 117 a = m 117 at0 - 1 → gx_to xs w0 (d + 2) yp_m264 75 [(0, .inr 86), (3, .inl what), (4, .inl (a : Int)), (5, .inl ((k : Int) + 1))] [] m Q) : ∀ (j nx : Nat), b - nx = j → nx ≤ b → gx_to xs w0 (d + 2) yp_m264 84 [(0, .inr 86), (3, .inl what), (4, .inl (at0 : Int)), (5, .inl (k : Int)), (6, .inl (nx : Int))] [] m Q := by
  obtain ⟨hI, hf, hok⟩ := hs
  have hr := hok.1 at0 ha
  have hw : gx_w (m 117 at0 - 1) = m 117 at0 - 1 := gx_w_id (by omega) (by omega)
  intro j
  induction j with
  | zero =>
    intro nx hj hle
    have e : nx = b := by omega
    subst e
    refine gt264_84 (by omega) (by omega) (by omega) (fun c => ?_) (fun c => gc_Lk hI
      (fun lk => gt264_111 (by omega) (by omega) (by omega) (fun _ => hQ nx hb hfb) (fun e => by omega))
      (fun lk => absurd (by rw [gx_far87 hf]; exact hE.2.2) lk))
    rw [Int.toNat_natCast, Int.toNat_natCast, hw] at c
    exact absurd hfb c
  | succ j ih =>
    intro nx hj hle
    have hrec : gx_to xs w0 (d + 2) yp_m264 84 [(0, .inr 86), (3, .inl what), (4, .inl (at0 : Int)), (5, .inl (k : Int)), (6, .inl ((nx : Int) + 1))] [] m Q := by
      have := ih (nx + 1) (by omega) (by omega)
      rw [show ((nx + 1 : Nat) : Int) = (nx : Int) + 1 by omega] at this
      exact this
    refine gt264_84 (by omega) (by omega) (by omega) (fun _ => hrec) (fun c => ?_)
    rw [Int.toNat_natCast, Int.toNat_natCast, hw] at c
    exact gc_Lk hI (fun lk => gt264_111 (by omega) (by omega) (by omega) (fun _ => hQ nx (by omega) c) (fun e => by omega))
      (fun lk => gt264_111 (by omega) (by omega) (by omega) (fun e => absurd rfl e) (fun _ => hrec))
theorem gl_lk75 {m0 : gx_M} {q p : Nat} {what : Int} (hs : gx_fs m0 q m) (hlo : lf_lo (gx_E m0) q 8 (m 117)) (hp : p < 8) (h1 : m 117 p < 1000000000) (hw0 : 0 ≤ what) (hw : what ≤ m 117 p) (hQ : ∀ v, Q (some v) m) : ∀ (j k a : Nat), what - k = j → a < 8 → m 117 a = m 117 p - k → gx_to xs w0 (d + 2) yp_m264 75 [(0, .inr 86), (3, .inl what), (4, .inl (a : Int)), (5, .inl (k : Int))] [] m Q := by
  have hc := lf_c_bd (m 117)
  have h7 := (hs.2.2.2.2 p hp h1).2
  intro j
  induction j with
  | zero => exact fun k a hj ha he => gt264_75 (by omega) (fun _ => hQ _) (fun c => by omega)
  | succ j ih =>
    intro k a hj ha he
    refine gt264_75 (by omega) (fun c => by omega) (fun c => ?_)
    obtain ⟨b, hb, hE, hfb⟩ := lf_near hs.2.2 hlo ha (by omega) (by omega)
    refine gl_lk84 hs ha (by omega) hb hE hfb (fun a' ha' he' => ?_) b 0 rfl (Nat.zero_le _)
    have := ih (k + 1) a' (by omega) ha' (by omega)
    rw [show ((k + 1 : Nat) : Int) = (k : Int) + 1 by omega] at this
    exact this
theorem gc_linked (hI : gx_I m) {p q what : Int} (hQ : ∀ v m', gx_I m' → gx_fw gx_far m m' → Q (some v) m') : gx_to xs w0 (d + 3) yp_m264 0 [(0, .inr 86), (1, .inl p), (2, .inl q), (3, .inl what)] [] m Q := by
  refine gt264_0 (gc_isPerson hI (fun pp => gt264_5 (fun e => by omega) (fun _ => gc_isPerson hI
    (fun pq => gt264_13 (fun e => by omega) (fun _ c => ?_) (fun _ _ => hQ _ m hI gx_fw.rf))
    (fun _ => gt264_13 (fun _ => hQ _ m hI gx_fw.rf) (fun e => absurd rfl e) (fun e => absurd rfl e))))
    (fun _ => gt264_5 (fun _ => hQ _ m hI gx_fw.rf) (fun e => absurd rfl e)))
  obtain ⟨p0, rfl⟩ : ∃ n : Nat, p = (n : Int) := ⟨p.toNat, by have := pp.1; omega⟩
  obtain ⟨q0, rfl⟩ : ∃ n : Nat, q = (n : Int) := ⟨q.toNat, by have := pq.1; omega⟩
  have hp8 := pp.2.1
  have hq8 := pq.2.1
  refine gc_far (by omega) hI (fun m' hs hlo => gt264_29 (by omega) (fun c1 c2 c3 => ?_) (fun _ _ _ => hQ _ m' hs.1 hs.2.1) (fun _ _ => hQ _ m' hs.1 hs.2.1) (fun _ => hQ _ m' hs.1 hs.2.1))
  rw [Int.toNat_natCast] at c1 c3
  have hr := hs.2.2.1 p0 (by omega)
  exact gl_lk75 hs hlo (by omega) (by omega) (by omega) c3 (fun v => hQ v m' hs.1 hs.2.1) what.toNat 0 p0 (by omega) (by omega) (by omega)
theorem gk_linked (hc : gx_Xc gX) : bx_Kok yp_P xs bw_INV (gx_XW gX) bk_55 := by
  refine gx_K_of (by decide) rfl (fun M w0 v m hM hv hI hX _ => ?_)
  cases (Option.some.inj (hM.symm.trans rfl) : M = yp_m264)
  match v, hv with
  | x1 :: x2 :: x3 :: r, hv =>
    exact gc_linked (d := 3) hI (fun v m' hI' hf hb => ⟨⟨rfl, hb v rfl⟩, hI', hc.fw hf (by decide) hX, hf⟩)
end GLN
end
section
/-! roads of methods read by hand, from cut points to the next ones (printed by wip/gen/gxall.py) -/
/-- comesTo from 0 on -/
theorem gt208_0 {xs : List Int32} {w0 : sx_W} {d : Nat} {Q : gx_Q} {m : gx_M} {x1 x2 : Int} (r_x1 : 0 ≤ x1 ∧ x1 ≤ 250) (r_x2 : 0 ≤ x2 ∧ x2 ≤ 250)
    (h1 : gx_to xs w0 d yp_m208 16 [(0, .inr 86), (2, .inl x2), (3, .inl 0), (4, .inl (gx_w (260 * (gx_w (Int.tdiv x1 260))))), (5, .inl x1)] [] m Q) : gx_to xs w0 d yp_m208 0 [(0, .inr 86), (1, .inl x1), (2, .inl x2)] [] m Q := by
  refine gx_blk (C := (True ∧ (260 ≠ 0))) (npc := 16) (L' := [(0, .inr 86), (1, .inl x1), (2, .inl x2), (3, .inl 0), (4, .inl (gx_w (260 * (gx_w (Int.tdiv x1 260))))), (5, .inl x1)]) (st' := []) (m' := m) [((0, .iconst 0, 1, 0, 0, 0, 0), (0, 0, 0)), ((1, .istore_n 3, 1, 0, 0, 0, 0), (0, 0, 0)), ((2, .sipush 260, 3, 0, 0, 0, 0), (0, 0, 0)), ((5, .iload_n 1, 1, 0, 0, 0, 0), (0, 0, 0)), ((6, .sipush 260, 3, 0, 0, 0, 0), (0, 0, 0)), ((9, .idiv, 1, 0, 0, 0, 0), (0, 0, 0)), ((10, .imul, 1, 0, 0, 0, 0), (0, 0, 0)), ((11, .istore 4, 2, 0, 0, 0, 0), (0, 0, 0)), ((13, .iload_n 1, 1, 0, 0, 0, 0), (0, 0, 0)), ((14, .istore 5, 2, 0, 0, 0, 0), (0, 0, 0))] (by decide +kernel) rfl ⟨trivial, (by omega)⟩ ?_
  exact gx_to_pick [0, 2, 3, 4, 5] h1

/-- comesTo from 16 on -/
theorem gt208_16 {xs : List Int32} {w0 : sx_W} {d : Nat} {Q : gx_Q} {m : gx_M} {x2 x3 x4 x5 : Int} (r_x2 : 0 ≤ x2 ∧ x2 ≤ 250) (r_x3 : 0 ≤ x3 ∧ x3 ≤ 250) (r_x4 : 0 ≤ x4 ∧ x4 ≤ 0) (r_x5 : 0 ≤ x5 ∧ x5 ≤ 250)
    (h1 : (x2 ≤ x5) → Q (some (m 102 0)) m)
    (h2 : (x5 < x2) → gx_to xs w0 d yp_m208 52 [(0, .inr 86), (2, .inl x2), (3, .inl x3), (4, .inl x4), (5, .inl (x5 + 1)), (6, .inl (gx_w (Int.tdiv (m 97 (x5).toNat) 1048576))), (7, .inl (Int.tmod (m 97 (x5).toNat) 1048576))] [] m Q) : gx_to xs w0 d yp_m208 16 [(0, .inr 86), (2, .inl x2), (3, .inl x3), (4, .inl x4), (5, .inl x5)] [] m Q := by
  refine gx_blk (C := True) (npc := 19) (L' := [(0, .inr 86), (2, .inl x2), (3, .inl x3), (4, .inl x4), (5, .inl x5)]) (st' := [.inl x2, .inl x5]) (m' := m) [((16, .iload 5, 2, 0, 0, 0, 0), (0, 0, 0)), ((18, .iload_n 2, 1, 0, 0, 0, 0), (0, 0, 0))] (by decide +kernel) rfl trivial ?_
  refine gx_cmp .ge 233 (by decide +kernel) (fun c1 => ?_) (fun c1 => ?_)
  · have c1 : x2 ≤ x5 := c1
    refine gx_blk (C := (True ∧ (0 ≤ 0 ∧ 0 < 260))) (npc := 239) (L' := [(0, .inr 86), (2, .inl x2), (3, .inl x3), (4, .inl x4), (5, .inl x5)]) (st' := [.inl (m 102 0)]) (m' := m) [((233, .aload_n 0, 1, 0, 0, 0, 0), (0, 0, 0)), ((234, .getfield 56, 3, 10, 25, 5138, 0), (1, 86, 102)), ((237, .iconst 0, 1, 0, 0, 0, 0), (0, 0, 0)), ((238, .iaload, 1, 0, 0, 0, 0), (0, 102, 260))] (by decide +kernel) rfl ⟨trivial, (by omega)⟩ ?_
    exact gx_reti (by decide +kernel) (h1 c1)
  · have c1 : x5 < x2 := by have h : ¬ (x2 ≤ x5) := c1; omega
    have e1 : gx_w (x5 + 1) = x5 + 1 := gx_w_id (by omega) (by omega)
    refine gx_blk (C := (((((((True ∧ (0 ≤ x5 ∧ x5 < 260))) ∧ (1048576 ≠ 0))) ∧ (0 ≤ x5 ∧ x5 < 260))) ∧ (1048576 ≠ 0))) (npc := 52) (L' := [(0, .inr 86), (2, .inl x2), (3, .inl x3), (4, .inl x4), (5, .inl (gx_w (x5 + 1))), (6, .inl (gx_w (Int.tdiv (m 97 (x5).toNat) 1048576))), (7, .inl (Int.tmod (m 97 (x5).toNat) 1048576))]) (st' := []) (m' := m) [((22, .aload_n 0, 1, 0, 0, 0, 0), (0, 0, 0)), ((23, .getfield 41, 3, 10, 20, 5133, 0), (1, 86, 97)), ((26, .iload 5, 2, 0, 0, 0, 0), (0, 0, 0)), ((28, .iaload, 1, 0, 0, 0, 0), (0, 97, 260)), ((29, .ldc 158, 2, 0, 0, 6077, 1048576), (0, 0, 0)), ((31, .idiv, 1, 0, 0, 0, 0), (0, 0, 0)), ((32, .istore 6, 2, 0, 0, 0, 0), (0, 0, 0)), ((34, .aload_n 0, 1, 0, 0, 0, 0), (0, 0, 0)), ((35, .getfield 41, 3, 10, 20, 5133, 0), (1, 86, 97)), ((38, .iload 5, 2, 0, 0, 0, 0), (0, 0, 0)), ((40, .iaload, 1, 0, 0, 0, 0), (0, 97, 260)), ((41, .ldc 158, 2, 0, 0, 6077, 1048576), (0, 0, 0)), ((43, .irem, 1, 0, 0, 0, 0), (0, 0, 0)), ((44, .istore 7, 2, 0, 0, 0, 0), (0, 0, 0)), ((46, .iload 5, 2, 0, 0, 0, 0), (0, 0, 0)), ((48, .iconst 1, 1, 0, 0, 0, 0), (0, 0, 0)), ((49, .iadd, 1, 0, 0, 0, 0), (0, 0, 0)), ((50, .istore 5, 2, 0, 0, 0, 0), (0, 0, 0))] (by decide +kernel) rfl ⟨⟨⟨⟨trivial, (by omega)⟩, (by omega)⟩, (by omega)⟩, (by omega)⟩ ?_
    rw [e1]
    exact gx_to_pick [0, 2, 3, 4, 5, 6, 7] (h2 c1)

/-- comesTo from 52 on -/
theorem gt208_52 {xs : List Int32} {w0 : sx_W} {d : Nat} {Q : gx_Q} {m : gx_M} {x2 x3 x4 x5 x6 x7 : Int} (r_x2 : 0 ≤ x2 ∧ x2 ≤ 250) (r_x3 : 0 ≤ x3 ∧ x3 ≤ 250) (r_x4 : 0 ≤ x4 ∧ x4 ≤ 0) (r_x5 : 1 ≤ x5 ∧ x5 ≤ 250) (r_x7 : 0 ≤ x7 ∧ x7 ≤ 1048575)
    (h1 : (x6 = 0) → (x6 = 0) → gx_to xs w0 (d + 1) yp_m208 16 [(0, .inr 86), (2, .inl x2), (3, .inl (x3 + 1)), (4, .inl x4), (5, .inl x5)] [] (gx_u m 102 (x3).toNat x7) Q)
    (k1 : (x6 ≠ 0) → (x6 ≠ 1) → (x6 ≠ 10) → (x6 = 11) → 0 ≤ (x3 - 1) ∧ (x3 - 1) < 260)
    (h2 : (x6 ≠ 0) → (x6 ≠ 1) → (x6 ≠ 10) → (x6 = 11) → (x6 ≠ 12) → ((m 102 (x3 - 1).toNat) ≠ 0) → gx_to xs w0 (d + 1) yp_m208 16 [(0, .inr 86), (2, .inl x2), (3, .inl (x3 - 1)), (4, .inl x4), (5, .inl x5)] [] m Q)
    (h3 : (x6 ≠ 0) → (x6 ≠ 1) → (x6 ≠ 10) → (x6 = 11) → (x6 ≠ 12) → ((m 102 (x3 - 1).toNat) = 0) → gx_to xs w0 (d + 1) yp_m208 16 [(0, .inr 86), (2, .inl x2), (3, .inl x3), (4, .inl x4), (5, .inl (x4 + x7))] [] m Q)
    (k2 : (x6 ≠ 0) → (x6 ≠ 1) → (x6 ≠ 10) → (x6 ≠ 11) → (x6 ≠ 12) → (x6 = 5) → 0 ≤ (x3 - 1) ∧ (x3 - 1) < 260)
    (k3 : (x6 ≠ 0) → (x6 ≠ 1) → (x6 ≠ 10) → (x6 ≠ 11) → (x6 ≠ 12) → (x6 = 5) → ((m 102 (x3 - 1).toNat) ≠ 0) → 0 ≤ ((x3 - 1) - 1) ∧ ((x3 - 1) - 1) < 260)
    (k4 : (x6 ≠ 0) → (x6 ≠ 1) → (x6 ≠ 10) → (x6 ≠ 11) → (x6 ≠ 12) → (x6 = 5) → ((m 102 (x3 - 1).toNat) ≠ 0) → 0 ≤ (x3 - 1) ∧ (x3 - 1) < 260)
    (h4 : (x6 ≠ 0) → (x6 ≠ 1) → (x6 ≠ 10) → (x6 ≠ 11) → (x6 ≠ 12) → (x6 = 5) → ((m 102 (x3 - 1).toNat) ≠ 0) → gx_to xs w0 d yp_m209 0 [(0, .inl x6), (1, .inl (m 102 ((x3 - 1) - 1).toNat)), (2, .inl (m 102 (x3 - 1).toNat))] [] m (fun r m' => gx_to xs w0 (d + 1) yp_m208 229 [(0, .inr 86), (2, .inl x2), (3, .inl (x3 - 1)), (4, .inl x4), (5, .inl x5)] (gx_rs r ++ [.inl ((x3 - 1) - 1), .inr 102]) m' Q))
    (h5 : (x6 ≠ 0) → (x6 ≠ 1) → (x6 ≠ 10) → (x6 ≠ 11) → (x6 ≠ 12) → (x6 = 5) → ((m 102 (x3 - 1).toNat) = 0) → Q (some 0) m)
    (k5 : (x6 ≠ 0) → (x6 ≠ 1) → (x6 ≠ 10) → (x6 ≠ 11) → (x6 ≠ 12) → (x6 ≠ 5) → (x6 ≠ 6) → 0 ≤ ((x3 - 1) - 1) ∧ ((x3 - 1) - 1) < 260)
    (k6 : (x6 ≠ 0) → (x6 ≠ 1) → (x6 ≠ 10) → (x6 ≠ 11) → (x6 ≠ 12) → (x6 ≠ 5) → (x6 ≠ 6) → 0 ≤ (x3 - 1) ∧ (x3 - 1) < 260)
    (h6 : (x6 ≠ 0) → (x6 ≠ 1) → (x6 ≠ 10) → (x6 ≠ 11) → (x6 ≠ 12) → (x6 ≠ 5) → (x6 ≠ 6) → gx_to xs w0 d yp_m209 0 [(0, .inl x6), (1, .inl (m 102 ((x3 - 1) - 1).toNat)), (2, .inl (m 102 (x3 - 1).toNat))] [] m (fun r m' => gx_to xs w0 (d + 1) yp_m208 229 [(0, .inr 86), (2, .inl x2), (3, .inl (x3 - 1)), (4, .inl x4), (5, .inl x5)] (gx_rs r ++ [.inl ((x3 - 1) - 1), .inr 102]) m' Q))
    (k7 : (x6 ≠ 0) → (x6 ≠ 1) → (x6 ≠ 10) → (x6 ≠ 11) → (x6 ≠ 12) → (x6 ≠ 5) → (x6 = 6) → 0 ≤ (x3 - 1) ∧ (x3 - 1) < 260)
    (k8 : (x6 ≠ 0) → (x6 ≠ 1) → (x6 ≠ 10) → (x6 ≠ 11) → (x6 ≠ 12) → (x6 ≠ 5) → (x6 = 6) → ((m 102 (x3 - 1).toNat) ≠ 0) → 0 ≤ ((x3 - 1) - 1) ∧ ((x3 - 1) - 1) < 260)
    (k9 : (x6 ≠ 0) → (x6 ≠ 1) → (x6 ≠ 10) → (x6 ≠ 11) → (x6 ≠ 12) → (x6 ≠ 5) → (x6 = 6) → ((m 102 (x3 - 1).toNat) ≠ 0) → 0 ≤ (x3 - 1) ∧ (x3 - 1) < 260)
    (h7 : (x6 ≠ 0) → (x6 ≠ 1) → (x6 ≠ 10) → (x6 ≠ 11) → (x6 ≠ 12) → (x6 ≠ 5) → (x6 = 6) → ((m 102 (x3 - 1).toNat) ≠ 0) → gx_to xs w0 d yp_m209 0 [(0, .inl x6), (1, .inl (m 102 ((x3 - 1) - 1).toNat)), (2, .inl (m 102 (x3 - 1).toNat))] [] m (fun r m' => gx_to xs w0 (d + 1) yp_m208 229 [(0, .inr 86), (2, .inl x2), (3, .inl (x3 - 1)), (4, .inl x4), (5, .inl x5)] (gx_rs r ++ [.inl ((x3 - 1) - 1), .inr 102]) m' Q))
    (h8 : (x6 ≠ 0) → (x6 ≠ 1) → (x6 ≠ 10) → (x6 ≠ 11) → (x6 ≠ 12) → (x6 ≠ 5) → (x6 = 6) → ((m 102 (x3 - 1).toNat) = 0) → Q (some 0) m)
    (k10 : (x6 ≠ 0) → (x6 ≠ 1) → (x6 ≠ 10) → (x6 ≠ 11) → (x6 = 12) → 0 ≤ (x3 - 1) ∧ (x3 - 1) < 260)
    (h9 : (x6 ≠ 0) → (x6 ≠ 1) → (x6 ≠ 10) → (x6 ≠ 11) → (x6 = 12) → (x6 = 12) → ((m 102 (x3 - 1).toNat) ≠ 1) → gx_to xs w0 (d + 1) yp_m208 16 [(0, .inr 86), (2, .inl x2), (3, .inl (x3 - 1)), (4, .inl x4), (5, .inl x5)] [] m Q)
    (h10 : (x6 ≠ 0) → (x6 ≠ 1) → (x6 ≠ 10) → (x6 ≠ 11) → (x6 = 12) → (x6 = 12) → ((m 102 (x3 - 1).toNat) = 1) → gx_to xs w0 (d + 1) yp_m208 16 [(0, .inr 86), (2, .inl x2), (3, .inl x3), (4, .inl x4), (5, .inl (x4 + x7))] [] m Q)
    (k11 : (x6 ≠ 0) → (x6 ≠ 1) → (x6 = 10) → 0 ≤ (x3 - 1) ∧ (x3 - 1) < 260)
    (k12 : (x6 ≠ 0) → (x6 ≠ 1) → (x6 = 10) → 0 ≤ (x3 - 1) ∧ (x3 - 1) < 260)
    (h11 : (x6 ≠ 0) → (x6 ≠ 1) → (x6 = 10) → gx_to xs w0 (d + 1) yp_m208 16 [(0, .inr 86), (2, .inl x2), (3, .inl x3), (4, .inl x4), (5, .inl x5)] [] (gx_u m 102 (x3 - 1).toNat (gx_w (1 - (m 102 (x3 - 1).toNat)))) Q)
    (k13 : (x6 ≠ 0) → (x6 = 1) → (x6 ≠ 0) → 0 ≤ x7 ∧ x7 < 14)
    (h12 : (x6 ≠ 0) → (x6 = 1) → (x6 ≠ 0) → gx_to xs w0 (d + 1) yp_m208 16 [(0, .inr 86), (2, .inl x2), (3, .inl (x3 + 1)), (4, .inl x4), (5, .inl x5)] [] (gx_u m 102 (x3).toNat (m 103 (x7).toNat)) Q) : gx_to xs w0 (d + 1) yp_m208 52 [(0, .inr 86), (2, .inl x2), (3, .inl x3), (4, .inl x4), (5, .inl x5), (6, .inl x6), (7, .inl x7)] [] m Q := by
  refine gx_blk (C := True) (npc := 54) (L' := [(0, .inr 86), (2, .inl x2), (3, .inl x3), (4, .inl x4), (5, .inl x5), (6, .inl x6), (7, .inl x7)]) (st' := [.inl x6]) (m' := m) [((52, .iload 6, 2, 0, 0, 0, 0), (0, 0, 0))] (by decide +kernel) rfl trivial ?_
  refine gx_if .eq 63 (by decide +kernel) (fun c1 => ?_) (fun c1 => ?_)
  · have c1 : x6 = 0 := c1
    refine gx_blk (C := True) (npc := 70) (L' := [(0, .inr 86), (2, .inl x2), (3, .inl x3), (4, .inl x4), (5, .inl x5), (6, .inl x6), (7, .inl x7)]) (st' := [.inl x6, .inl x3, .inr 102]) (m' := m) [((63, .aload_n 0, 1, 0, 0, 0, 0), (0, 0, 0)), ((64, .getfield 56, 3, 10, 25, 5138, 0), (1, 86, 102)), ((67, .iload_n 3, 1, 0, 0, 0, 0), (0, 0, 0)), ((68, .iload 6, 2, 0, 0, 0, 0), (0, 0, 0))] (by decide +kernel) rfl trivial ?_
    refine gx_if .ne 78 (by decide +kernel) (fun c2 => ?_) (fun c2 => ?_)
    · have c2 : x6 ≠ 0 := c2
      exfalso; omega
    · have c2 : x6 = 0 := by have h : ¬ (x6 ≠ 0) := c2; omega
      have e1 : gx_w (x3 + 1) = x3 + 1 := gx_w_id (by omega) (by omega)
      refine gx_blk (C := (True ∧ (0 ≤ x3 ∧ x3 < 260))) (npc := 16) (L' := [(0, .inr 86), (2, .inl x2), (3, .inl (gx_w (x3 + 1))), (4, .inl x4), (5, .inl x5), (6, .inl x6), (7, .inl x7)]) (st' := []) (m' := (gx_u m 102 (x3).toNat x7)) [((73, .iload 7, 2, 0, 0, 0, 0), (0, 0, 0)), ((75, .goto 10, 3, 0, 0, 0, 0), (0, 0, 0)), ((85, .iastore, 1, 0, 0, 0, 0), (0, 102, 260)), ((86, .iload_n 3, 1, 0, 0, 0, 0), (0, 0, 0)), ((87, .iconst 1, 1, 0, 0, 0, 0), (0, 0, 0)), ((88, .iadd, 1, 0, 0, 0, 0), (0, 0, 0)), ((89, .istore_n 3, 1, 0, 0, 0, 0), (0, 0, 0)), ((90, .goto 140, 3, 0, 0, 0, 0), (0, 0, 0)), ((230, .goto (-214), 3, 0, 0, 0, 0), (0, 0, 0))] (by decide +kernel) rfl ⟨trivial, (by omega)⟩ ?_
      rw [e1]
      exact gx_to_pick [0, 2, 3, 4, 5] (h1 c1 c2)
  · have c1 : x6 ≠ 0 := c1
    refine gx_blk (C := True) (npc := 60) (L' := [(0, .inr 86), (2, .inl x2), (3, .inl x3), (4, .inl x4), (5, .inl x5), (6, .inl x6), (7, .inl x7)]) (st' := [.inl 1, .inl x6]) (m' := m) [((57, .iload 6, 2, 0, 0, 0, 0), (0, 0, 0)), ((59, .iconst 1, 1, 0, 0, 0, 0), (0, 0, 0))] (by decide +kernel) rfl trivial ?_
    refine gx_cmp .ne 93 (by decide +kernel) (fun c2 => ?_) (fun c2 => ?_)
    · have c2 : x6 ≠ 1 := c2
      refine gx_blk (C := True) (npc := 97) (L' := [(0, .inr 86), (2, .inl x2), (3, .inl x3), (4, .inl x4), (5, .inl x5), (6, .inl x6), (7, .inl x7)]) (st' := [.inl 10, .inl x6]) (m' := m) [((93, .iload 6, 2, 0, 0, 0, 0), (0, 0, 0)), ((95, .bipush 10, 2, 0, 0, 0, 0), (0, 0, 0))] (by decide +kernel) rfl trivial ?_
      refine gx_cmp .ne 121 (by decide +kernel) (fun c3 => ?_) (fun c3 => ?_)
      · have c3 : x6 ≠ 10 := c3
        refine gx_blk (C := True) (npc := 125) (L' := [(0, .inr 86), (2, .inl x2), (3, .inl x3), (4, .inl x4), (5, .inl x5), (6, .inl x6), (7, .inl x7)]) (st' := [.inl 11, .inl x6]) (m' := m) [((121, .iload 6, 2, 0, 0, 0, 0), (0, 0, 0)), ((123, .bipush 11, 2, 0, 0, 0, 0), (0, 0, 0))] (by decide +kernel) rfl trivial ?_
        refine gx_cmp .eq 135 (by decide +kernel) (fun c4 => ?_) (fun c4 => ?_)
        · have c4 : x6 = 11 := c4
          have e2 : gx_w (x3 - 1) = x3 - 1 := gx_w_id (by omega) (by omega)
          refine gx_blk (C := (True ∧ (0 ≤ (gx_w (x3 - 1)) ∧ (gx_w (x3 - 1)) < 260))) (npc := 147) (L' := [(0, .inr 86), (2, .inl x2), (3, .inl x3), (4, .inl x4), (5, .inl x5), (6, .inl x6), (7, .inl x7)]) (st' := [.inl 12, .inl x6, .inl (m 102 (gx_w (x3 - 1)).toNat)]) (m' := m) [((135, .aload_n 0, 1, 0, 0, 0, 0), (0, 0, 0)), ((136, .getfield 56, 3, 10, 25, 5138, 0), (1, 86, 102)), ((139, .iload_n 3, 1, 0, 0, 0, 0), (0, 0, 0)), ((140, .iconst 1, 1, 0, 0, 0, 0), (0, 0, 0)), ((141, .isub, 1, 0, 0, 0, 0), (0, 0, 0)), ((142, .iaload, 1, 0, 0, 0, 0), (0, 102, 260)), ((143, .iload 6, 2, 0, 0, 0, 0), (0, 0, 0)), ((145, .bipush 12, 2, 0, 0, 0, 0), (0, 0, 0))] (by decide +kernel) rfl ⟨trivial, (by rw [e2]; exact (k1 c1 c2 c3 c4))⟩ ?_
          rw [e2]
          refine gx_cmp .ne 154 (by decide +kernel) (fun c5 => ?_) (fun c5 => ?_)
          · have c5 : x6 ≠ 12 := c5
            refine gx_blk (C := True) (npc := 155) (L' := [(0, .inr 86), (2, .inl x2), (3, .inl x3), (4, .inl x4), (5, .inl x5), (6, .inl x6), (7, .inl x7)]) (st' := [.inl 0, .inl (m 102 (x3 - 1).toNat)]) (m' := m) [((154, .iconst 0, 1, 0, 0, 0, 0), (0, 0, 0))] (by decide +kernel) rfl trivial ?_
            refine gx_cmp .ne 168 (by decide +kernel) (fun c6 => ?_) (fun c6 => ?_)
            · have c6 : (m 102 (x3 - 1).toNat) ≠ 0 := c6
              have e3 : gx_w (x3 - 1) = x3 - 1 := gx_w_id (by omega) (by omega)
              refine gx_blk (C := True) (npc := 16) (L' := [(0, .inr 86), (2, .inl x2), (3, .inl (gx_w (x3 - 1))), (4, .inl x4), (5, .inl x5), (6, .inl x6), (7, .inl x7)]) (st' := []) (m' := m) [((168, .iload_n 3, 1, 0, 0, 0, 0), (0, 0, 0)), ((169, .iconst 1, 1, 0, 0, 0, 0), (0, 0, 0)), ((170, .isub, 1, 0, 0, 0, 0), (0, 0, 0)), ((171, .istore_n 3, 1, 0, 0, 0, 0), (0, 0, 0)), ((172, .goto 58, 3, 0, 0, 0, 0), (0, 0, 0)), ((230, .goto (-214), 3, 0, 0, 0, 0), (0, 0, 0))] (by decide +kernel) rfl trivial ?_
              rw [e3]
              exact gx_to_pick [0, 2, 3, 4, 5] (h2 c1 c2 c3 c4 c5 c6)
            · have c6 : (m 102 (x3 - 1).toNat) = 0 := by have h : ¬ ((m 102 (x3 - 1).toNat) ≠ 0) := c6; omega
              have e4 : gx_w (x4 + x7) = x4 + x7 := gx_w_id (by omega) (by omega)
              refine gx_blk (C := True) (npc := 16) (L' := [(0, .inr 86), (2, .inl x2), (3, .inl x3), (4, .inl x4), (5, .inl (gx_w (x4 + x7))), (6, .inl x6), (7, .inl x7)]) (st' := []) (m' := m) [((158, .iload 4, 2, 0, 0, 0, 0), (0, 0, 0)), ((160, .iload 7, 2, 0, 0, 0, 0), (0, 0, 0)), ((162, .iadd, 1, 0, 0, 0, 0), (0, 0, 0)), ((163, .istore 5, 2, 0, 0, 0, 0), (0, 0, 0)), ((165, .goto 65, 3, 0, 0, 0, 0), (0, 0, 0)), ((230, .goto (-214), 3, 0, 0, 0, 0), (0, 0, 0))] (by decide +kernel) rfl trivial ?_
              rw [e4]
              exact gx_to_pick [0, 2, 3, 4, 5] (h3 c1 c2 c3 c4 c5 c6)
          · have c5 : x6 = 12 := by have h : ¬ (x6 ≠ 12) := c5; omega
            exfalso; omega
        · have c4 : x6 ≠ 11 := c4
          refine gx_blk (C := True) (npc := 132) (L' := [(0, .inr 86), (2, .inl x2), (3, .inl x3), (4, .inl x4), (5, .inl x5), (6, .inl x6), (7, .inl x7)]) (st' := [.inl 12, .inl x6]) (m' := m) [((128, .iload 6, 2, 0, 0, 0, 0), (0, 0, 0)), ((130, .bipush 12, 2, 0, 0, 0, 0), (0, 0, 0))] (by decide +kernel) rfl trivial ?_
          refine gx_cmp .ne 175 (by decide +kernel) (fun c5 => ?_) (fun c5 => ?_)
          · have c5 : x6 ≠ 12 := c5
            have e5 : gx_w (x3 - 1) = x3 - 1 := gx_w_id (by omega) (by omega)
            refine gx_blk (C := True) (npc := 182) (L' := [(0, .inr 86), (2, .inl x2), (3, .inl (gx_w (x3 - 1))), (4, .inl x4), (5, .inl x5), (6, .inl x6), (7, .inl x7)]) (st' := [.inl 5, .inl x6]) (m' := m) [((175, .iload_n 3, 1, 0, 0, 0, 0), (0, 0, 0)), ((176, .iconst 1, 1, 0, 0, 0, 0), (0, 0, 0)), ((177, .isub, 1, 0, 0, 0, 0), (0, 0, 0)), ((178, .istore_n 3, 1, 0, 0, 0, 0), (0, 0, 0)), ((179, .iload 6, 2, 0, 0, 0, 0), (0, 0, 0)), ((181, .iconst 5, 1, 0, 0, 0, 0), (0, 0, 0))] (by decide +kernel) rfl trivial ?_
            rw [e5]
            refine gx_cmp .eq 192 (by decide +kernel) (fun c6 => ?_) (fun c6 => ?_)
            · have c6 : x6 = 5 := c6
              refine gx_blk (C := (True ∧ (0 ≤ (x3 - 1) ∧ (x3 - 1) < 260))) (npc := 198) (L' := [(0, .inr 86), (2, .inl x2), (3, .inl (x3 - 1)), (4, .inl x4), (5, .inl x5), (6, .inl x6), (7, .inl x7)]) (st' := [.inl (m 102 (x3 - 1).toNat)]) (m' := m) [((192, .aload_n 0, 1, 0, 0, 0, 0), (0, 0, 0)), ((193, .getfield 56, 3, 10, 25, 5138, 0), (1, 86, 102)), ((196, .iload_n 3, 1, 0, 0, 0, 0), (0, 0, 0)), ((197, .iaload, 1, 0, 0, 0, 0), (0, 102, 260))] (by decide +kernel) rfl ⟨trivial, (k2 c1 c2 c3 c4 c5 c6)⟩ ?_
              refine gx_if .ne 203 (by decide +kernel) (fun c7 => ?_) (fun c7 => ?_)
              · have c7 : (m 102 (x3 - 1).toNat) ≠ 0 := c7
                have e6 : gx_w ((x3 - 1) - 1) = (x3 - 1) - 1 := gx_w_id (by omega) (by omega)
                have e7 : gx_w ((x3 - 1) - 1) = (x3 - 1) - 1 := gx_w_id (by omega) (by omega)
                refine gx_blk (C := (((True ∧ (0 ≤ (gx_w ((x3 - 1) - 1)) ∧ (gx_w ((x3 - 1) - 1)) < 260))) ∧ (0 ≤ (x3 - 1) ∧ (x3 - 1) < 260))) (npc := 226) (L' := [(0, .inr 86), (2, .inl x2), (3, .inl (x3 - 1)), (4, .inl x4), (5, .inl x5), (6, .inl x6), (7, .inl x7)]) (st' := [.inl (m 102 (x3 - 1).toNat), .inl (m 102 (gx_w ((x3 - 1) - 1)).toNat), .inl x6, .inl (gx_w ((x3 - 1) - 1)), .inr 102]) (m' := m) [((203, .aload_n 0, 1, 0, 0, 0, 0), (0, 0, 0)), ((204, .getfield 56, 3, 10, 25, 5138, 0), (1, 86, 102)), ((207, .iload_n 3, 1, 0, 0, 0, 0), (0, 0, 0)), ((208, .iconst 1, 1, 0, 0, 0, 0), (0, 0, 0)), ((209, .isub, 1, 0, 0, 0, 0), (0, 0, 0)), ((210, .iload 6, 2, 0, 0, 0, 0), (0, 0, 0)), ((212, .aload_n 0, 1, 0, 0, 0, 0), (0, 0, 0)), ((213, .getfield 56, 3, 10, 25, 5138, 0), (1, 86, 102)), ((216, .iload_n 3, 1, 0, 0, 0, 0), (0, 0, 0)), ((217, .iconst 1, 1, 0, 0, 0, 0), (0, 0, 0)), ((218, .isub, 1, 0, 0, 0, 0), (0, 0, 0)), ((219, .iaload, 1, 0, 0, 0, 0), (0, 102, 260)), ((220, .aload_n 0, 1, 0, 0, 0, 0), (0, 0, 0)), ((221, .getfield 56, 3, 10, 25, 5138, 0), (1, 86, 102)), ((224, .iload_n 3, 1, 0, 0, 0, 0), (0, 0, 0)), ((225, .iaload, 1, 0, 0, 0, 0), (0, 102, 260))] (by decide +kernel) rfl ⟨⟨trivial, (by rw [e6]; exact (k3 c1 c2 c3 c4 c5 c6 c7))⟩, (k4 c1 c2 c3 c4 c5 c6 c7)⟩ ?_
                rw [e6]
                exact gx_calls (E := (226, .invokestatic 228, 3, 209, 0, 6206, 0)) (M' := yp_m209) [.inl x6, .inl (m 102 ((x3 - 1) - 1).toNat), .inl (m 102 (x3 - 1).toNat)] [.inl ((x3 - 1) - 1), .inr 102] rfl (by decide +kernel) rfl ⟨rfl, rfl⟩ rfl rfl (Nat.le_of_ble_eq_true rfl) (Nat.le_of_ble_eq_true rfl) rfl (gx_to_mono (h4 c1 c2 c3 c4 c5 c6 c7) (fun r m' h' => gx_to_pick [0, 2, 3, 4, 5] h'))
              · have c7 : (m 102 (x3 - 1).toNat) = 0 := by have h : ¬ ((m 102 (x3 - 1).toNat) ≠ 0) := c7; omega
                refine gx_blk (C := True) (npc := 202) (L' := [(0, .inr 86), (2, .inl x2), (3, .inl (x3 - 1)), (4, .inl x4), (5, .inl x5), (6, .inl x6), (7, .inl x7)]) (st' := [.inl 0]) (m' := m) [((201, .iconst 0, 1, 0, 0, 0, 0), (0, 0, 0))] (by decide +kernel) rfl trivial ?_
                exact gx_reti (by decide +kernel) (h5 c1 c2 c3 c4 c5 c6 c7)
            · have c6 : x6 ≠ 5 := c6
              refine gx_blk (C := True) (npc := 189) (L' := [(0, .inr 86), (2, .inl x2), (3, .inl (x3 - 1)), (4, .inl x4), (5, .inl x5), (6, .inl x6), (7, .inl x7)]) (st' := [.inl 6, .inl x6]) (m' := m) [((185, .iload 6, 2, 0, 0, 0, 0), (0, 0, 0)), ((187, .bipush 6, 2, 0, 0, 0, 0), (0, 0, 0))] (by decide +kernel) rfl trivial ?_
              refine gx_cmp .ne 203 (by decide +kernel) (fun c7 => ?_) (fun c7 => ?_)
              · have c7 : x6 ≠ 6 := c7
                have e8 : gx_w ((x3 - 1) - 1) = (x3 - 1) - 1 := gx_w_id (by omega) (by omega)
                have e9 : gx_w ((x3 - 1) - 1) = (x3 - 1) - 1 := gx_w_id (by omega) (by omega)
                refine gx_blk (C := (((True ∧ (0 ≤ (gx_w ((x3 - 1) - 1)) ∧ (gx_w ((x3 - 1) - 1)) < 260))) ∧ (0 ≤ (x3 - 1) ∧ (x3 - 1) < 260))) (npc := 226) (L' := [(0, .inr 86), (2, .inl x2), (3, .inl (x3 - 1)), (4, .inl x4), (5, .inl x5), (6, .inl x6), (7, .inl x7)]) (st' := [.inl (m 102 (x3 - 1).toNat), .inl (m 102 (gx_w ((x3 - 1) - 1)).toNat), .inl x6, .inl (gx_w ((x3 - 1) - 1)), .inr 102]) (m' := m) [((203, .aload_n 0, 1, 0, 0, 0, 0), (0, 0, 0)), ((204, .getfield 56, 3, 10, 25, 5138, 0), (1, 86, 102)), ((207, .iload_n 3, 1, 0, 0, 0, 0), (0, 0, 0)), ((208, .iconst 1, 1, 0, 0, 0, 0), (0, 0, 0)), ((209, .isub, 1, 0, 0, 0, 0), (0, 0, 0)), ((210, .iload 6, 2, 0, 0, 0, 0), (0, 0, 0)), ((212, .aload_n 0, 1, 0, 0, 0, 0), (0, 0, 0)), ((213, .getfield 56, 3, 10, 25, 5138, 0), (1, 86, 102)), ((216, .iload_n 3, 1, 0, 0, 0, 0), (0, 0, 0)), ((217, .iconst 1, 1, 0, 0, 0, 0), (0, 0, 0)), ((218, .isub, 1, 0, 0, 0, 0), (0, 0, 0)), ((219, .iaload, 1, 0, 0, 0, 0), (0, 102, 260)), ((220, .aload_n 0, 1, 0, 0, 0, 0), (0, 0, 0)), ((221, .getfield 56, 3, 10, 25, 5138, 0), (1, 86, 102)), ((224, .iload_n 3, 1, 0, 0, 0, 0), (0, 0, 0)), ((225, .iaload, 1, 0, 0, 0, 0), (0, 102, 260))] (by decide +kernel) rfl ⟨⟨trivial, (by rw [e8]; exact (k5 c1 c2 c3 c4 c5 c6 c7))⟩, (k6 c1 c2 c3 c4 c5 c6 c7)⟩ ?_
                rw [e8]
                exact gx_calls (E := (226, .invokestatic 228, 3, 209, 0, 6206, 0)) (M' := yp_m209) [.inl x6, .inl (m 102 ((x3 - 1) - 1).toNat), .inl (m 102 (x3 - 1).toNat)] [.inl ((x3 - 1) - 1), .inr 102] rfl (by decide +kernel) rfl ⟨rfl, rfl⟩ rfl rfl (Nat.le_of_ble_eq_true rfl) (Nat.le_of_ble_eq_true rfl) rfl (gx_to_mono (h6 c1 c2 c3 c4 c5 c6 c7) (fun r m' h' => gx_to_pick [0, 2, 3, 4, 5] h'))
              · have c7 : x6 = 6 := by have h : ¬ (x6 ≠ 6) := c7; omega
                refine gx_blk (C := (True ∧ (0 ≤ (x3 - 1) ∧ (x3 - 1) < 260))) (npc := 198) (L' := [(0, .inr 86), (2, .inl x2), (3, .inl (x3 - 1)), (4, .inl x4), (5, .inl x5), (6, .inl x6), (7, .inl x7)]) (st' := [.inl (m 102 (x3 - 1).toNat)]) (m' := m) [((192, .aload_n 0, 1, 0, 0, 0, 0), (0, 0, 0)), ((193, .getfield 56, 3, 10, 25, 5138, 0), (1, 86, 102)), ((196, .iload_n 3, 1, 0, 0, 0, 0), (0, 0, 0)), ((197, .iaload, 1, 0, 0, 0, 0), (0, 102, 260))] (by decide +kernel) rfl ⟨trivial, (k7 c1 c2 c3 c4 c5 c6 c7)⟩ ?_
                refine gx_if .ne 203 (by decide +kernel) (fun c8 => ?_) (fun c8 => ?_)
                · have c8 : (m 102 (x3 - 1).toNat) ≠ 0 := c8
                  have e10 : gx_w ((x3 - 1) - 1) = (x3 - 1) - 1 := gx_w_id (by omega) (by omega)
                  have e11 : gx_w ((x3 - 1) - 1) = (x3 - 1) - 1 := gx_w_id (by omega) (by omega)
                  refine gx_blk (C := (((True ∧ (0 ≤ (gx_w ((x3 - 1) - 1)) ∧ (gx_w ((x3 - 1) - 1)) < 260))) ∧ (0 ≤ (x3 - 1) ∧ (x3 - 1) < 260))) (npc := 226) (L' := [(0, .inr 86), (2, .inl x2), (3, .inl (x3 - 1)), (4, .inl x4), (5, .inl x5), (6, .inl x6), (7, .inl x7)]) (st' := [.inl (m 102 (x3 - 1).toNat), .inl (m 102 (gx_w ((x3 - 1) - 1)).toNat), .inl x6, .inl (gx_w ((x3 - 1) - 1)), .inr 102]) (m' := m) [((203, .aload_n 0, 1, 0, 0, 0, 0), (0, 0, 0)), ((204, .getfield 56, 3, 10, 25, 5138, 0), (1, 86, 102)), ((207, .iload_n 3, 1, 0, 0, 0, 0), (0, 0, 0)), ((208, .iconst 1, 1, 0, 0, 0, 0), (0, 0, 0)), ((209, .isub, 1, 0, 0, 0, 0), (0, 0, 0)), ((210, .iload 6, 2, 0, 0, 0, 0), (0, 0, 0)), ((212, .aload_n 0, 1, 0, 0, 0, 0), (0, 0, 0)), ((213, .getfield 56, 3, 10, 25, 5138, 0), (1, 86, 102)), ((216, .iload_n 3, 1, 0, 0, 0, 0), (0, 0, 0)), ((217, .iconst 1, 1, 0, 0, 0, 0), (0, 0, 0)), ((218, .isub, 1, 0, 0, 0, 0), (0, 0, 0)), ((219, .iaload, 1, 0, 0, 0, 0), (0, 102, 260)), ((220, .aload_n 0, 1, 0, 0, 0, 0), (0, 0, 0)), ((221, .getfield 56, 3, 10, 25, 5138, 0), (1, 86, 102)), ((224, .iload_n 3, 1, 0, 0, 0, 0), (0, 0, 0)), ((225, .iaload, 1, 0, 0, 0, 0), (0, 102, 260))] (by decide +kernel) rfl ⟨⟨trivial, (by rw [e10]; exact (k8 c1 c2 c3 c4 c5 c6 c7 c8))⟩, (k9 c1 c2 c3 c4 c5 c6 c7 c8)⟩ ?_
                  rw [e10]
                  exact gx_calls (E := (226, .invokestatic 228, 3, 209, 0, 6206, 0)) (M' := yp_m209) [.inl x6, .inl (m 102 ((x3 - 1) - 1).toNat), .inl (m 102 (x3 - 1).toNat)] [.inl ((x3 - 1) - 1), .inr 102] rfl (by decide +kernel) rfl ⟨rfl, rfl⟩ rfl rfl (Nat.le_of_ble_eq_true rfl) (Nat.le_of_ble_eq_true rfl) rfl (gx_to_mono (h7 c1 c2 c3 c4 c5 c6 c7 c8) (fun r m' h' => gx_to_pick [0, 2, 3, 4, 5] h'))
                · have c8 : (m 102 (x3 - 1).toNat) = 0 := by have h : ¬ ((m 102 (x3 - 1).toNat) ≠ 0) := c8; omega
                  refine gx_blk (C := True) (npc := 202) (L' := [(0, .inr 86), (2, .inl x2), (3, .inl (x3 - 1)), (4, .inl x4), (5, .inl x5), (6, .inl x6), (7, .inl x7)]) (st' := [.inl 0]) (m' := m) [((201, .iconst 0, 1, 0, 0, 0, 0), (0, 0, 0))] (by decide +kernel) rfl trivial ?_
                  exact gx_reti (by decide +kernel) (h8 c1 c2 c3 c4 c5 c6 c7 c8)
          · have c5 : x6 = 12 := by have h : ¬ (x6 ≠ 12) := c5; omega
            have e12 : gx_w (x3 - 1) = x3 - 1 := gx_w_id (by omega) (by omega)
            refine gx_blk (C := (True ∧ (0 ≤ (gx_w (x3 - 1)) ∧ (gx_w (x3 - 1)) < 260))) (npc := 147) (L' := [(0, .inr 86), (2, .inl x2), (3, .inl x3), (4, .inl x4), (5, .inl x5), (6, .inl x6), (7, .inl x7)]) (st' := [.inl 12, .inl x6, .inl (m 102 (gx_w (x3 - 1)).toNat)]) (m' := m) [((135, .aload_n 0, 1, 0, 0, 0, 0), (0, 0, 0)), ((136, .getfield 56, 3, 10, 25, 5138, 0), (1, 86, 102)), ((139, .iload_n 3, 1, 0, 0, 0, 0), (0, 0, 0)), ((140, .iconst 1, 1, 0, 0, 0, 0), (0, 0, 0)), ((141, .isub, 1, 0, 0, 0, 0), (0, 0, 0)), ((142, .iaload, 1, 0, 0, 0, 0), (0, 102, 260)), ((143, .iload 6, 2, 0, 0, 0, 0), (0, 0, 0)), ((145, .bipush 12, 2, 0, 0, 0, 0), (0, 0, 0))] (by decide +kernel) rfl ⟨trivial, (by rw [e12]; exact (k10 c1 c2 c3 c4 c5))⟩ ?_
            rw [e12]
            refine gx_cmp .ne 154 (by decide +kernel) (fun c6 => ?_) (fun c6 => ?_)
            · have c6 : x6 ≠ 12 := c6
              exfalso; omega
            · have c6 : x6 = 12 := by have h : ¬ (x6 ≠ 12) := c6; omega
              refine gx_blk (C := True) (npc := 155) (L' := [(0, .inr 86), (2, .inl x2), (3, .inl x3), (4, .inl x4), (5, .inl x5), (6, .inl x6), (7, .inl x7)]) (st' := [.inl 1, .inl (m 102 (x3 - 1).toNat)]) (m' := m) [((150, .iconst 1, 1, 0, 0, 0, 0), (0, 0, 0)), ((151, .goto 4, 3, 0, 0, 0, 0), (0, 0, 0))] (by decide +kernel) rfl trivial ?_
              refine gx_cmp .ne 168 (by decide +kernel) (fun c7 => ?_) (fun c7 => ?_)
              · have c7 : (m 102 (x3 - 1).toNat) ≠ 1 := c7
                have e13 : gx_w (x3 - 1) = x3 - 1 := gx_w_id (by omega) (by omega)
                refine gx_blk (C := True) (npc := 16) (L' := [(0, .inr 86), (2, .inl x2), (3, .inl (gx_w (x3 - 1))), (4, .inl x4), (5, .inl x5), (6, .inl x6), (7, .inl x7)]) (st' := []) (m' := m) [((168, .iload_n 3, 1, 0, 0, 0, 0), (0, 0, 0)), ((169, .iconst 1, 1, 0, 0, 0, 0), (0, 0, 0)), ((170, .isub, 1, 0, 0, 0, 0), (0, 0, 0)), ((171, .istore_n 3, 1, 0, 0, 0, 0), (0, 0, 0)), ((172, .goto 58, 3, 0, 0, 0, 0), (0, 0, 0)), ((230, .goto (-214), 3, 0, 0, 0, 0), (0, 0, 0))] (by decide +kernel) rfl trivial ?_
                rw [e13]
                exact gx_to_pick [0, 2, 3, 4, 5] (h9 c1 c2 c3 c4 c5 c6 c7)
              · have c7 : (m 102 (x3 - 1).toNat) = 1 := by have h : ¬ ((m 102 (x3 - 1).toNat) ≠ 1) := c7; omega
                have e14 : gx_w (x4 + x7) = x4 + x7 := gx_w_id (by omega) (by omega)
                refine gx_blk (C := True) (npc := 16) (L' := [(0, .inr 86), (2, .inl x2), (3, .inl x3), (4, .inl x4), (5, .inl (gx_w (x4 + x7))), (6, .inl x6), (7, .inl x7)]) (st' := []) (m' := m) [((158, .iload 4, 2, 0, 0, 0, 0), (0, 0, 0)), ((160, .iload 7, 2, 0, 0, 0, 0), (0, 0, 0)), ((162, .iadd, 1, 0, 0, 0, 0), (0, 0, 0)), ((163, .istore 5, 2, 0, 0, 0, 0), (0, 0, 0)), ((165, .goto 65, 3, 0, 0, 0, 0), (0, 0, 0)), ((230, .goto (-214), 3, 0, 0, 0, 0), (0, 0, 0))] (by decide +kernel) rfl trivial ?_
                rw [e14]
                exact gx_to_pick [0, 2, 3, 4, 5] (h10 c1 c2 c3 c4 c5 c6 c7)
      · have c3 : x6 = 10 := by have h : ¬ (x6 ≠ 10) := c3; omega
        have e15 : gx_w (x3 - 1) = x3 - 1 := gx_w_id (by omega) (by omega)
        have e16 : gx_w (x3 - 1) = x3 - 1 := gx_w_id (by omega) (by omega)
        refine gx_blk (C := (((True ∧ (0 ≤ (gx_w (x3 - 1)) ∧ (gx_w (x3 - 1)) < 260))) ∧ (0 ≤ (gx_w (x3 - 1)) ∧ (gx_w (x3 - 1)) < 260))) (npc := 16) (L' := [(0, .inr 86), (2, .inl x2), (3, .inl x3), (4, .inl x4), (5, .inl x5), (6, .inl x6), (7, .inl x7)]) (st' := []) (m' := (gx_u m 102 (gx_w (x3 - 1)).toNat (gx_w (1 - (m 102 (gx_w (x3 - 1)).toNat))))) [((100, .aload_n 0, 1, 0, 0, 0, 0), (0, 0, 0)), ((101, .getfield 56, 3, 10, 25, 5138, 0), (1, 86, 102)), ((104, .iload_n 3, 1, 0, 0, 0, 0), (0, 0, 0)), ((105, .iconst 1, 1, 0, 0, 0, 0), (0, 0, 0)), ((106, .isub, 1, 0, 0, 0, 0), (0, 0, 0)), ((107, .iconst 1, 1, 0, 0, 0, 0), (0, 0, 0)), ((108, .aload_n 0, 1, 0, 0, 0, 0), (0, 0, 0)), ((109, .getfield 56, 3, 10, 25, 5138, 0), (1, 86, 102)), ((112, .iload_n 3, 1, 0, 0, 0, 0), (0, 0, 0)), ((113, .iconst 1, 1, 0, 0, 0, 0), (0, 0, 0)), ((114, .isub, 1, 0, 0, 0, 0), (0, 0, 0)), ((115, .iaload, 1, 0, 0, 0, 0), (0, 102, 260)), ((116, .isub, 1, 0, 0, 0, 0), (0, 0, 0)), ((117, .iastore, 1, 0, 0, 0, 0), (0, 102, 260)), ((118, .goto 112, 3, 0, 0, 0, 0), (0, 0, 0)), ((230, .goto (-214), 3, 0, 0, 0, 0), (0, 0, 0))] (by decide +kernel) rfl ⟨⟨trivial, (by rw [e15]; exact (k11 c1 c2 c3))⟩, (by rw [e15]; exact (k12 c1 c2 c3))⟩ ?_
        rw [e15]
        exact gx_to_pick [0, 2, 3, 4, 5] (h11 c1 c2 c3)
    · have c2 : x6 = 1 := by have h : ¬ (x6 ≠ 1) := c2; omega
      refine gx_blk (C := True) (npc := 70) (L' := [(0, .inr 86), (2, .inl x2), (3, .inl x3), (4, .inl x4), (5, .inl x5), (6, .inl x6), (7, .inl x7)]) (st' := [.inl x6, .inl x3, .inr 102]) (m' := m) [((63, .aload_n 0, 1, 0, 0, 0, 0), (0, 0, 0)), ((64, .getfield 56, 3, 10, 25, 5138, 0), (1, 86, 102)), ((67, .iload_n 3, 1, 0, 0, 0, 0), (0, 0, 0)), ((68, .iload 6, 2, 0, 0, 0, 0), (0, 0, 0))] (by decide +kernel) rfl trivial ?_
      refine gx_if .ne 78 (by decide +kernel) (fun c3 => ?_) (fun c3 => ?_)
      · have c3 : x6 ≠ 0 := c3
        have e17 : gx_w (x3 + 1) = x3 + 1 := gx_w_id (by omega) (by omega)
        refine gx_blk (C := (((True ∧ (0 ≤ x7 ∧ x7 < 14))) ∧ (0 ≤ x3 ∧ x3 < 260))) (npc := 16) (L' := [(0, .inr 86), (2, .inl x2), (3, .inl (gx_w (x3 + 1))), (4, .inl x4), (5, .inl x5), (6, .inl x6), (7, .inl x7)]) (st' := []) (m' := (gx_u m 102 (x3).toNat (m 103 (x7).toNat))) [((78, .aload_n 0, 1, 0, 0, 0, 0), (0, 0, 0)), ((79, .getfield 59, 3, 10, 26, 5139, 0), (1, 86, 103)), ((82, .iload 7, 2, 0, 0, 0, 0), (0, 0, 0)), ((84, .iaload, 1, 0, 0, 0, 0), (0, 103, 14)), ((85, .iastore, 1, 0, 0, 0, 0), (0, 102, 260)), ((86, .iload_n 3, 1, 0, 0, 0, 0), (0, 0, 0)), ((87, .iconst 1, 1, 0, 0, 0, 0), (0, 0, 0)), ((88, .iadd, 1, 0, 0, 0, 0), (0, 0, 0)), ((89, .istore_n 3, 1, 0, 0, 0, 0), (0, 0, 0)), ((90, .goto 140, 3, 0, 0, 0, 0), (0, 0, 0)), ((230, .goto (-214), 3, 0, 0, 0, 0), (0, 0, 0))] (by decide +kernel) rfl ⟨⟨trivial, (k13 c1 c2 c3)⟩, (by omega)⟩ ?_
        rw [e17]
        exact gx_to_pick [0, 2, 3, 4, 5] (h12 c1 c2 c3)
      · have c3 : x6 = 0 := by have h : ¬ (x6 ≠ 0) := c3; omega
        exfalso; omega

/-- comesTo from 229 on -/
theorem gt208_229 {xs : List Int32} {w0 : sx_W} {d : Nat} {Q : gx_Q} {m : gx_M} {x2 x3 x4 x5 s1 s2 : Int} (r_x2 : 0 ≤ x2 ∧ x2 ≤ 250) (r_x3 : 0 ≤ x3 ∧ x3 ≤ 250) (r_x4 : 0 ≤ x4 ∧ x4 ≤ 0) (r_x5 : 0 ≤ x5 ∧ x5 ≤ 250) (r_s1 : 0 ≤ s1 ∧ s1 ≤ 250)
    (h1 : gx_to xs w0 d yp_m208 16 [(0, .inr 86), (2, .inl x2), (3, .inl x3), (4, .inl x4), (5, .inl x5)] [] (gx_u m 102 (s1).toNat s2) Q) : gx_to xs w0 d yp_m208 229 [(0, .inr 86), (2, .inl x2), (3, .inl x3), (4, .inl x4), (5, .inl x5)] [.inl s2, .inl s1, .inr 102] m Q := by
  refine gx_blk (C := (True ∧ (0 ≤ s1 ∧ s1 < 260))) (npc := 16) (L' := [(0, .inr 86), (2, .inl x2), (3, .inl x3), (4, .inl x4), (5, .inl x5)]) (st' := []) (m' := (gx_u m 102 (s1).toNat s2)) [((229, .iastore, 1, 0, 0, 0, 0), (0, 102, 260)), ((230, .goto (-214), 3, 0, 0, 0, 0), (0, 0, 0))] (by decide +kernel) rfl ⟨trivial, (by omega)⟩ ?_
  exact gx_to_pick [0, 2, 3, 4, 5] h1

/-- byLaw from 0 on -/
theorem gt225_0 {xs : List Int32} {w0 : sx_W} {d : Nat} {Q : gx_Q} {m : gx_M} {x1 x2 : Int}
    (h1 : gx_to xs w0 d yp_m225 2 [(0, .inr 86), (1, .inl x1), (2, .inl x2), (3, .inl 0)] [] m Q) : gx_to xs w0 d yp_m225 0 [(0, .inr 86), (1, .inl x1), (2, .inl x2)] [] m Q := by
  refine gx_blk (C := True) (npc := 2) (L' := [(0, .inr 86), (1, .inl x1), (2, .inl x2), (3, .inl 0)]) (st' := []) (m' := m) [((0, .iconst 0, 1, 0, 0, 0, 0), (0, 0, 0)), ((1, .istore_n 3, 1, 0, 0, 0, 0), (0, 0, 0))] (by decide +kernel) rfl trivial ?_
  exact gx_to_pick [0, 1, 2, 3] h1

/-- byLaw from 2 on -/
theorem gt225_2 {xs : List Int32} {w0 : sx_W} {d : Nat} {Q : gx_Q} {m : gx_M} {x1 x2 x3 : Int} (hI : gx_I m) (r_x3 : 0 ≤ x3 ∧ x3 ≤ 16)
    (h1 : ((m 86 13) ≤ x3) → Q (some 0) m)
    (h2 : (x3 < (m 86 13)) → ((m 98 (x3).toNat) ≠ x1) → gx_to xs w0 (d + 1) yp_m225 2 [(0, .inr 86), (1, .inl x1), (2, .inl x2), (3, .inl (x3 + 1))] [] m Q)
    (h3 : (x3 < (m 86 13)) → ((m 98 (x3).toNat) = x1) → gx_to xs w0 d yp_m208 0 [(0, .inr 86), (1, .inl (m 100 (x3).toNat)), (2, .inl (m 101 (x3).toNat))] [] m (fun r m' => gx_to xs w0 (d + 1) yp_m225 36 [(0, .inr 86), (1, .inl x1), (2, .inl x2), (3, .inl x3)] (gx_rs r ++ []) m' Q)) : gx_to xs w0 (d + 1) yp_m225 2 [(0, .inr 86), (1, .inl x1), (2, .inl x2), (3, .inl x3)] [] m Q := by
  have f1 := gx_I_n hI 86 13 0 16 (by decide +kernel)
  refine gx_blk (C := True) (npc := 7) (L' := [(0, .inr 86), (1, .inl x1), (2, .inl x2), (3, .inl x3)]) (st' := [.inl (m 86 13), .inl x3]) (m' := m) [((2, .iload_n 3, 1, 0, 0, 0, 0), (0, 0, 0)), ((3, .aload_n 0, 1, 0, 0, 0, 0), (0, 0, 0)), ((4, .getfield 225, 3, 10, 13, 5126, 0), (0, 86, 0))] (by decide +kernel) rfl trivial ?_
  refine gx_cmp .ge 89 (by decide +kernel) (fun c1 => ?_) (fun c1 => ?_)
  · have c1 : (m 86 13) ≤ x3 := c1
    refine gx_blk (C := True) (npc := 90) (L' := [(0, .inr 86), (1, .inl x1), (2, .inl x2), (3, .inl x3)]) (st' := [.inl 0]) (m' := m) [((89, .iconst 0, 1, 0, 0, 0, 0), (0, 0, 0))] (by decide +kernel) rfl trivial ?_
    exact gx_reti (by decide +kernel) (h1 c1)
  · have c1 : x3 < (m 86 13) := by have h : ¬ ((m 86 13) ≤ x3) := c1; omega
    refine gx_blk (C := (True ∧ (0 ≤ x3 ∧ x3 < 16))) (npc := 17) (L' := [(0, .inr 86), (1, .inl x1), (2, .inl x2), (3, .inl x3)]) (st' := [.inl x1, .inl (m 98 (x3).toNat)]) (m' := m) [((10, .aload_n 0, 1, 0, 0, 0, 0), (0, 0, 0)), ((11, .getfield 44, 3, 10, 21, 5134, 0), (1, 86, 98)), ((14, .iload_n 3, 1, 0, 0, 0, 0), (0, 0, 0)), ((15, .iaload, 1, 0, 0, 0, 0), (0, 98, 16)), ((16, .iload_n 1, 1, 0, 0, 0, 0), (0, 0, 0))] (by decide +kernel) rfl ⟨trivial, (by omega)⟩ ?_
    refine gx_cmp .ne 83 (by decide +kernel) (fun c2 => ?_) (fun c2 => ?_)
    · have c2 : (m 98 (x3).toNat) ≠ x1 := c2
      have e2 : gx_w (x3 + 1) = x3 + 1 := gx_w_id (by omega) (by omega)
      refine gx_blk (C := True) (npc := 2) (L' := [(0, .inr 86), (1, .inl x1), (2, .inl x2), (3, .inl (gx_w (x3 + 1)))]) (st' := []) (m' := m) [((83, .iinc 3 1, 3, 0, 0, 0, 0), (0, 0, 0)), ((86, .goto (-84), 3, 0, 0, 0, 0), (0, 0, 0))] (by decide +kernel) rfl trivial ?_
      rw [e2]
      exact gx_to_pick [0, 1, 2, 3] (h2 c1 c2)
    · have c2 : (m 98 (x3).toNat) = x1 := by have h : ¬ ((m 98 (x3).toNat) ≠ x1) := c2; omega
      refine gx_blk (C := (((True ∧ (0 ≤ x3 ∧ x3 < 16))) ∧ (0 ≤ x3 ∧ x3 < 16))) (npc := 33) (L' := [(0, .inr 86), (1, .inl x1), (2, .inl x2), (3, .inl x3)]) (st' := [.inl (m 101 (x3).toNat), .inl (m 100 (x3).toNat), .inr 86]) (m' := m) [((20, .aload_n 0, 1, 0, 0, 0, 0), (0, 0, 0)), ((21, .aload_n 0, 1, 0, 0, 0, 0), (0, 0, 0)), ((22, .getfield 50, 3, 10, 23, 5136, 0), (1, 86, 100)), ((25, .iload_n 3, 1, 0, 0, 0, 0), (0, 0, 0)), ((26, .iaload, 1, 0, 0, 0, 0), (0, 100, 16)), ((27, .aload_n 0, 1, 0, 0, 0, 0), (0, 0, 0)), ((28, .getfield 53, 3, 10, 24, 5137, 0), (1, 86, 101)), ((31, .iload_n 3, 1, 0, 0, 0, 0), (0, 0, 0)), ((32, .iaload, 1, 0, 0, 0, 0), (0, 101, 16))] (by decide +kernel) rfl ⟨⟨trivial, (by omega)⟩, (by omega)⟩ ?_
      exact gx_callv (E := (33, .invokevirtual 232, 3, 208, 0, 6202, 0)) (M' := yp_m208) (c := 86) [.inl (m 100 (x3).toNat), .inl (m 101 (x3).toNat)] [] rfl (by decide +kernel) rfl ⟨rfl, rfl⟩ rfl rfl (Nat.le_of_ble_eq_true rfl) (Nat.le_of_ble_eq_true rfl) (by decide +kernel) (gx_to_mono (h3 c1 c2) (fun r m' h' => gx_to_pick [0, 1, 2, 3] h'))

/-- byLaw from 36 on -/
theorem gt225_36 {xs : List Int32} {w0 : sx_W} {d : Nat} {Q : gx_Q} {m : gx_M} {x1 x2 x3 s0 : Int} (r_x3 : 0 ≤ x3 ∧ x3 ≤ 15)
    (h1 : (s0 = 1) → gx_to xs w0 d yp_m208 0 [(0, .inr 86), (1, .inl (m 99 (x3).toNat)), (2, .inl (m 100 (x3).toNat))] [] m (fun r m' => gx_to xs w0 (d + 1) yp_m225 59 [(2, .inl x2)] (gx_rs r ++ []) m' Q))
    (h2 : (s0 ≠ 1) → gx_to xs w0 (d + 1) yp_m225 2 [(0, .inr 86), (1, .inl x1), (2, .inl x2), (3, .inl (x3 + 1))] [] m Q) : gx_to xs w0 (d + 1) yp_m225 36 [(0, .inr 86), (1, .inl x1), (2, .inl x2), (3, .inl x3)] [.inl s0] m Q := by
  refine gx_blk (C := True) (npc := 37) (L' := [(0, .inr 86), (1, .inl x1), (2, .inl x2), (3, .inl x3)]) (st' := [.inl 1, .inl s0]) (m' := m) [((36, .iconst 1, 1, 0, 0, 0, 0), (0, 0, 0))] (by decide +kernel) rfl trivial ?_
  refine gx_cmp .eq 43 (by decide +kernel) (fun c1 => ?_) (fun c1 => ?_)
  · have c1 : s0 = 1 := c1
    refine gx_blk (C := (((True ∧ (0 ≤ x3 ∧ x3 < 16))) ∧ (0 ≤ x3 ∧ x3 < 16))) (npc := 56) (L' := [(0, .inr 86), (1, .inl x1), (2, .inl x2), (3, .inl x3)]) (st' := [.inl (m 100 (x3).toNat), .inl (m 99 (x3).toNat), .inr 86]) (m' := m) [((43, .aload_n 0, 1, 0, 0, 0, 0), (0, 0, 0)), ((44, .aload_n 0, 1, 0, 0, 0, 0), (0, 0, 0)), ((45, .getfield 47, 3, 10, 22, 5135, 0), (1, 86, 99)), ((48, .iload_n 3, 1, 0, 0, 0, 0), (0, 0, 0)), ((49, .iaload, 1, 0, 0, 0, 0), (0, 99, 16)), ((50, .aload_n 0, 1, 0, 0, 0, 0), (0, 0, 0)), ((51, .getfield 50, 3, 10, 23, 5136, 0), (1, 86, 100)), ((54, .iload_n 3, 1, 0, 0, 0, 0), (0, 0, 0)), ((55, .iaload, 1, 0, 0, 0, 0), (0, 100, 16))] (by decide +kernel) rfl ⟨⟨trivial, (by omega)⟩, (by omega)⟩ ?_
    exact gx_callv (E := (56, .invokevirtual 232, 3, 208, 0, 6202, 0)) (M' := yp_m208) (c := 86) [.inl (m 99 (x3).toNat), .inl (m 100 (x3).toNat)] [] rfl (by decide +kernel) rfl ⟨rfl, rfl⟩ rfl rfl (Nat.le_of_ble_eq_true rfl) (Nat.le_of_ble_eq_true rfl) (by decide +kernel) (gx_to_mono (h1 c1) (fun r m' h' => gx_to_pick [2] h'))
  · have c1 : s0 ≠ 1 := c1
    have e1 : gx_w (x3 + 1) = x3 + 1 := gx_w_id (by omega) (by omega)
    refine gx_blk (C := True) (npc := 2) (L' := [(0, .inr 86), (1, .inl x1), (2, .inl x2), (3, .inl (gx_w (x3 + 1)))]) (st' := []) (m' := m) [((40, .goto 43, 3, 0, 0, 0, 0), (0, 0, 0)), ((83, .iinc 3 1, 3, 0, 0, 0, 0), (0, 0, 0)), ((86, .goto (-84), 3, 0, 0, 0, 0), (0, 0, 0))] (by decide +kernel) rfl trivial ?_
    rw [e1]
    exact gx_to_pick [0, 1, 2, 3] (h2 c1)

/-- byLaw from 59 on -/
theorem gt225_59 {xs : List Int32} {w0 : sx_W} {d : Nat} {Q : gx_Q} {m : gx_M} {x2 s0 : Int}
    (h1 : (0 ≤ s0) → (s0 ≤ x2) → Q (some s0) m)
    (h2 : (0 ≤ s0) → (x2 < s0) → Q (some x2) m)
    (h3 : (s0 < 0) → Q (some 0) m) : gx_to xs w0 d yp_m225 59 [(2, .inl x2)] [.inl s0] m Q := by
  refine gx_blk (C := True) (npc := 63) (L' := [(2, .inl x2), (4, .inl s0)]) (st' := [.inl s0]) (m' := m) [((59, .istore 4, 2, 0, 0, 0, 0), (0, 0, 0)), ((61, .iload 4, 2, 0, 0, 0, 0), (0, 0, 0))] (by decide +kernel) rfl trivial ?_
  refine gx_if .ge 70 (by decide +kernel) (fun c1 => ?_) (fun c1 => ?_)
  · have c1 : 0 ≤ s0 := c1
    refine gx_blk (C := True) (npc := 73) (L' := [(2, .inl x2), (4, .inl s0)]) (st' := [.inl x2, .inl s0]) (m' := m) [((70, .iload 4, 2, 0, 0, 0, 0), (0, 0, 0)), ((72, .iload_n 2, 1, 0, 0, 0, 0), (0, 0, 0))] (by decide +kernel) rfl trivial ?_
    refine gx_cmp .le 80 (by decide +kernel) (fun c2 => ?_) (fun c2 => ?_)
    · have c2 : s0 ≤ x2 := c2
      refine gx_blk (C := True) (npc := 82) (L' := [(2, .inl x2), (4, .inl s0)]) (st' := [.inl s0]) (m' := m) [((80, .iload 4, 2, 0, 0, 0, 0), (0, 0, 0))] (by decide +kernel) rfl trivial ?_
      exact gx_reti (by decide +kernel) (h1 c1 c2)
    · have c2 : x2 < s0 := by have h : ¬ (s0 ≤ x2) := c2; omega
      refine gx_blk (C := True) (npc := 82) (L' := [(2, .inl x2), (4, .inl s0)]) (st' := [.inl x2]) (m' := m) [((76, .iload_n 2, 1, 0, 0, 0, 0), (0, 0, 0)), ((77, .goto 5, 3, 0, 0, 0, 0), (0, 0, 0))] (by decide +kernel) rfl trivial ?_
      exact gx_reti (by decide +kernel) (h2 c1 c2)
  · have c1 : s0 < 0 := by have h : ¬ (0 ≤ s0) := c1; omega
    refine gx_blk (C := True) (npc := 82) (L' := [(2, .inl x2), (4, .inl s0)]) (st' := [.inl 0]) (m' := m) [((66, .iconst 0, 1, 0, 0, 0, 0), (0, 0, 0)), ((67, .goto 15, 3, 0, 0, 0, 0), (0, 0, 0))] (by decide +kernel) rfl trivial ?_
    exact gx_reti (by decide +kernel) (h3 c1)

/-- isBarred from 0 on -/
theorem gt201_0 {xs : List Int32} {w0 : sx_W} {d : Nat} {Q : gx_Q} {m : gx_M} {x1 x2 x3 : Int}
    (h1 : gx_to xs w0 d yp_m202 0 [(0, .inr 86), (1, .inl x1), (2, .inl x2), (3, .inl x3)] [] m (fun r m' => gx_to xs w0 (d + 1) yp_m201 7 [(0, .inr 86)] (gx_rs r ++ []) m' Q)) : gx_to xs w0 (d + 1) yp_m201 0 [(0, .inr 86), (1, .inl x1), (2, .inl x2), (3, .inl x3)] [] m Q := by
  refine gx_blk (C := True) (npc := 4) (L' := [(0, .inr 86), (1, .inl x1), (2, .inl x2), (3, .inl x3)]) (st' := [.inl x3, .inl x2, .inl x1, .inr 86]) (m' := m) [((0, .aload_n 0, 1, 0, 0, 0, 0), (0, 0, 0)), ((1, .iload_n 1, 1, 0, 0, 0, 0), (0, 0, 0)), ((2, .iload_n 2, 1, 0, 0, 0, 0), (0, 0, 0)), ((3, .iload_n 3, 1, 0, 0, 0, 0), (0, 0, 0))] (by decide +kernel) rfl trivial ?_
  exact gx_callv (E := (4, .invokevirtual 247, 3, 202, 0, 6179, 0)) (M' := yp_m202) (c := 86) [.inl x1, .inl x2, .inl x3] [] rfl (by decide +kernel) rfl ⟨rfl, rfl⟩ rfl rfl (Nat.le_of_ble_eq_true rfl) (Nat.le_of_ble_eq_true rfl) (by decide +kernel) (gx_to_mono h1 (fun r m' h' => gx_to_pick [0] h'))

/-- isBarred from 7 on -/
theorem gt201_7 {xs : List Int32} {w0 : sx_W} {d : Nat} {Q : gx_Q} {m : gx_M}
    (h1 : gx_to xs w0 d yp_m201 10 [(0, .inr 86), (4, .inl 0)] [] m Q) : gx_to xs w0 d yp_m201 7 [(0, .inr 86)] [] m Q := by
  refine gx_blk (C := True) (npc := 10) (L' := [(0, .inr 86), (4, .inl 0)]) (st' := []) (m' := m) [((7, .iconst 0, 1, 0, 0, 0, 0), (0, 0, 0)), ((8, .istore 4, 2, 0, 0, 0, 0), (0, 0, 0))] (by decide +kernel) rfl trivial ?_
  exact gx_to_pick [0, 4] h1

/-- isBarred from 10 on -/
theorem gt201_10 {xs : List Int32} {w0 : sx_W} {d : Nat} {Q : gx_Q} {m : gx_M} {x4 : Int} (hI : gx_I m) (r_x4 : 0 ≤ x4 ∧ x4 ≤ 16)
    (h1 : ((m 86 13) ≤ x4) → Q (some 0) m)
    (h2 : (x4 < (m 86 13)) → ((m 98 (x4).toNat) ≠ 110) → gx_to xs w0 (d + 1) yp_m201 10 [(0, .inr 86), (4, .inl (x4 + 1))] [] m Q)
    (h3 : (x4 < (m 86 13)) → ((m 98 (x4).toNat) = 110) → gx_to xs w0 d yp_m208 0 [(0, .inr 86), (1, .inl (m 100 (x4).toNat)), (2, .inl (m 101 (x4).toNat))] [] m (fun r m' => gx_to xs w0 (d + 1) yp_m201 49 [(0, .inr 86), (4, .inl x4)] (gx_rs r ++ []) m' Q)) : gx_to xs w0 (d + 1) yp_m201 10 [(0, .inr 86), (4, .inl x4)] [] m Q := by
  have f1 := gx_I_n hI 86 13 0 16 (by decide +kernel)
  refine gx_blk (C := True) (npc := 16) (L' := [(0, .inr 86), (4, .inl x4)]) (st' := [.inl (m 86 13), .inl x4]) (m' := m) [((10, .iload 4, 2, 0, 0, 0, 0), (0, 0, 0)), ((12, .aload_n 0, 1, 0, 0, 0, 0), (0, 0, 0)), ((13, .getfield 225, 3, 10, 13, 5126, 0), (0, 86, 0))] (by decide +kernel) rfl trivial ?_
  refine gx_cmp .ge 61 (by decide +kernel) (fun c1 => ?_) (fun c1 => ?_)
  · have c1 : (m 86 13) ≤ x4 := c1
    refine gx_blk (C := True) (npc := 62) (L' := [(0, .inr 86), (4, .inl x4)]) (st' := [.inl 0]) (m' := m) [((61, .iconst 0, 1, 0, 0, 0, 0), (0, 0, 0))] (by decide +kernel) rfl trivial ?_
    exact gx_retb (by decide +kernel) (by omega) (h1 c1)
  · have c1 : x4 < (m 86 13) := by have h : ¬ ((m 86 13) ≤ x4) := c1; omega
    refine gx_blk (C := (True ∧ (0 ≤ x4 ∧ x4 < 16))) (npc := 28) (L' := [(0, .inr 86), (4, .inl x4)]) (st' := [.inl 110, .inl (m 98 (x4).toNat)]) (m' := m) [((19, .aload_n 0, 1, 0, 0, 0, 0), (0, 0, 0)), ((20, .getfield 44, 3, 10, 21, 5134, 0), (1, 86, 98)), ((23, .iload 4, 2, 0, 0, 0, 0), (0, 0, 0)), ((25, .iaload, 1, 0, 0, 0, 0), (0, 98, 16)), ((26, .bipush 110, 2, 0, 0, 0, 0), (0, 0, 0))] (by decide +kernel) rfl ⟨trivial, (by omega)⟩ ?_
    refine gx_cmp .ne 55 (by decide +kernel) (fun c2 => ?_) (fun c2 => ?_)
    · have c2 : (m 98 (x4).toNat) ≠ 110 := c2
      have e2 : gx_w (x4 + 1) = x4 + 1 := gx_w_id (by omega) (by omega)
      refine gx_blk (C := True) (npc := 10) (L' := [(0, .inr 86), (4, .inl (gx_w (x4 + 1)))]) (st' := []) (m' := m) [((55, .iinc 4 1, 3, 0, 0, 0, 0), (0, 0, 0)), ((58, .goto (-48), 3, 0, 0, 0, 0), (0, 0, 0))] (by decide +kernel) rfl trivial ?_
      rw [e2]
      exact gx_to_pick [0, 4] (h2 c1 c2)
    · have c2 : (m 98 (x4).toNat) = 110 := by have h : ¬ ((m 98 (x4).toNat) ≠ 110) := c2; omega
      refine gx_blk (C := (((True ∧ (0 ≤ x4 ∧ x4 < 16))) ∧ (0 ≤ x4 ∧ x4 < 16))) (npc := 46) (L' := [(0, .inr 86), (4, .inl x4)]) (st' := [.inl (m 101 (x4).toNat), .inl (m 100 (x4).toNat), .inr 86]) (m' := m) [((31, .aload_n 0, 1, 0, 0, 0, 0), (0, 0, 0)), ((32, .aload_n 0, 1, 0, 0, 0, 0), (0, 0, 0)), ((33, .getfield 50, 3, 10, 23, 5136, 0), (1, 86, 100)), ((36, .iload 4, 2, 0, 0, 0, 0), (0, 0, 0)), ((38, .iaload, 1, 0, 0, 0, 0), (0, 100, 16)), ((39, .aload_n 0, 1, 0, 0, 0, 0), (0, 0, 0)), ((40, .getfield 53, 3, 10, 24, 5137, 0), (1, 86, 101)), ((43, .iload 4, 2, 0, 0, 0, 0), (0, 0, 0)), ((45, .iaload, 1, 0, 0, 0, 0), (0, 101, 16))] (by decide +kernel) rfl ⟨⟨trivial, (by omega)⟩, (by omega)⟩ ?_
      exact gx_callv (E := (46, .invokevirtual 232, 3, 208, 0, 6202, 0)) (M' := yp_m208) (c := 86) [.inl (m 100 (x4).toNat), .inl (m 101 (x4).toNat)] [] rfl (by decide +kernel) rfl ⟨rfl, rfl⟩ rfl rfl (Nat.le_of_ble_eq_true rfl) (Nat.le_of_ble_eq_true rfl) (by decide +kernel) (gx_to_mono (h3 c1 c2) (fun r m' h' => gx_to_pick [0, 4] h'))

/-- isBarred from 49 on -/
theorem gt201_49 {xs : List Int32} {w0 : sx_W} {d : Nat} {Q : gx_Q} {m : gx_M} {x4 s0 : Int} (r_x4 : 0 ≤ x4 ∧ x4 ≤ 15)
    (h1 : (s0 ≠ 1) → gx_to xs w0 d yp_m201 10 [(0, .inr 86), (4, .inl (x4 + 1))] [] m Q)
    (h2 : (s0 = 1) → Q (some 1) m) : gx_to xs w0 d yp_m201 49 [(0, .inr 86), (4, .inl x4)] [.inl s0] m Q := by
  refine gx_blk (C := True) (npc := 50) (L' := [(0, .inr 86), (4, .inl x4)]) (st' := [.inl 1, .inl s0]) (m' := m) [((49, .iconst 1, 1, 0, 0, 0, 0), (0, 0, 0))] (by decide +kernel) rfl trivial ?_
  refine gx_cmp .ne 55 (by decide +kernel) (fun c1 => ?_) (fun c1 => ?_)
  · have c1 : s0 ≠ 1 := c1
    have e1 : gx_w (x4 + 1) = x4 + 1 := gx_w_id (by omega) (by omega)
    refine gx_blk (C := True) (npc := 10) (L' := [(0, .inr 86), (4, .inl (gx_w (x4 + 1)))]) (st' := []) (m' := m) [((55, .iinc 4 1, 3, 0, 0, 0, 0), (0, 0, 0)), ((58, .goto (-48), 3, 0, 0, 0, 0), (0, 0, 0))] (by decide +kernel) rfl trivial ?_
    rw [e1]
    exact gx_to_pick [0, 4] (h1 c1)
  · have c1 : s0 = 1 := by have h : ¬ (s0 ≠ 1) := c1; omega
    refine gx_blk (C := True) (npc := 54) (L' := [(0, .inr 86), (4, .inl x4)]) (st' := [.inl 1]) (m' := m) [((53, .iconst 1, 1, 0, 0, 0, 0), (0, 0, 0))] (by decide +kernel) rfl trivial ?_
    exact gx_retb (by decide +kernel) (by omega) (h2 c1)
end
section
/-! what the codes of a law come to; isBarred, byLaw -/
/-- a code at place k of a stretch that ends at b; H says how high the stack stands -/
def gx_cd (c : Int) (H : Nat → Nat) (k b : Nat) : Prop := 0 ≤ c ∧ (c / 1048576 = 0 → H (k + 1) = H k + 1) ∧ (c / 1048576 = 1 → c % 1048576 < 14 ∧ H (k + 1) = H k + 1) ∧ (c / 1048576 = 10 → 1 ≤ H k ∧ H (k + 1) = H k)
  ∧ (c / 1048576 = 11 ∨ c / 1048576 = 12 → 1 ≤ H k ∧ H (k + 1) + 1 = H k ∧ (k : Int) < c % 1048576 ∧ c % 1048576 ≤ (b : Int) ∧ H (c % 1048576).toNat = H k)
  ∧ (c / 1048576 ≠ 0 → c / 1048576 ≠ 1 → c / 1048576 ≠ 10 → c / 1048576 ≠ 11 → c / 1048576 ≠ 12 → 2 ≤ H k ∧ H (k + 1) + 1 = H k)
def gx_cds (r : Nat → Int) (a b : Nat) (H : Nat → Nat) : Prop := H a = 0 ∧ ∀ k, a ≤ k → k < b → gx_cd (r k) H k b
def gx_wf (r : Nat → Int) (a b : Int) : Prop := 0 ≤ a ∧ a ≤ b ∧ b ≤ 250 ∧ ∃ H : Nat → Nat, gx_cds r a.toNat b.toNat H
/-- the law that stands is well formed -/
def gx_X (m : gx_M) : Prop := ∀ q : Nat, q < 16 → (q : Int) < m 86 13 → gx_wf (m 97) (m 99 q) (m 100 q) ∧ gx_wf (m 97) (m 100 q) (m 101 q)
theorem gx_wf_c {r r' : Nat → Int} {a b : Int} (hr : ∀ k, k < 260 → r' k = r k) (h : gx_wf r a b) : gx_wf r' a b := by
  obtain ⟨h1, h2, h3, H, h4, h5⟩ := h
  refine ⟨h1, h2, h3, H, h4, fun k k1 k2 => ?_⟩
  rw [hr k (by omega)]
  exact h5 k k1 k2
theorem gx_X_c : gx_Xc gx_X := by
  intro m m' h hX q hq hlt
  have e : ∀ c lo hi, (c, lo, hi) ∈ bw_PC → ∀ k, lo ≤ k → k < hi → m' c k = m c k := fun c lo hi hm k h1 h2 => h _ hm k h1 h2
  have e97 := e 97 0 260 (by decide)
  have e99 := e 99 0 16 (by decide) q (Nat.zero_le _) hq
  have e100 := e 100 0 16 (by decide) q (Nat.zero_le _) hq
  have e101 := e 101 0 16 (by decide) q (Nat.zero_le _) hq
  have e86 := e 86 13 14 (by decide) 13 (by omega) (by omega)
  rw [e86] at hlt
  obtain ⟨h1, h2⟩ := hX q hq hlt
  rw [e99, e100, e101]
  exact ⟨gx_wf_c (fun k hk => e97 k (Nat.zero_le _) hk) h1, gx_wf_c (fun k hk => e97 k (Nat.zero_le _) hk) h2⟩
def gx_stk : bx_M := [(102, 0, 260)]
section GCM
variable {xs : List Int32} {w0 : sx_W} {d : Nat} {Q : gx_Q} {m : gx_M}
theorem gx_stk97 {m m' : gx_M} (h : gx_fw gx_stk m m') {c : Nat} (hc : c ≠ 102) : m' c = m c := h.row (fun q hq e => by
  rw [gx_stk, List.mem_singleton] at hq
  subst hq
  exact hc e.symm)
theorem gx_stkw {m0 m : gx_M} (hI : gx_I m) (hf : gx_fw gx_stk m0 m) {k v : Int} (h1 : 0 ≤ k) (h2 : k < 260) (h3 : -2147483648 ≤ v ∧ v ≤ 2147483647) : gx_I (gx_u m 102 k.toNat v) ∧ gx_fw gx_stk m0 (gx_u m 102 k.toNat v) :=
  ⟨gx_I_w hI 102 (z := k) 0 259 (-2147483648) 2147483647 (by decide +kernel) h1 (by omega) h3.1 h3.2, hf.w ⟨_, List.mem_singleton.mpr rfl, rfl, Nat.zero_le _, by show k.toNat < 260; omega⟩⟩
theorem gl_comes {m0 : gx_M} {a b : Nat} {H : Nat → Nat} (hH : gx_cds (m0 97) a b H) (hb : b ≤ 250) (hQ : ∀ v m, gx_I m → gx_fw gx_stk m0 m → Q (some v) m) : ∀ (j k : Nat) (K N : Int) (m : gx_M), b - k = j → a ≤ k → k ≤ b → K = k → N = H k → N ≤ k → gx_I m → gx_fw gx_stk m0 m → gx_to xs w0 (d + 1) yp_m208 16 [(0, .inr 86), (2, .inl (b : Int)), (3, .inl N), (4, .inl 0), (5, .inl K)] [] m Q := by
  intro j
  induction j using Nat.strongRecOn with
  | _ j ih =>
    intro k K N m hj hak hkb hK hN hle hI hf
    subst hK
    have hrec : ∀ (k' : Nat) (K N : Int) (m' : gx_M), k < k' → k' ≤ b → K = k' → N = H k' → N ≤ k' → gx_I m' ∧ gx_fw gx_stk m0 m' → gx_to xs w0 (d + 1) yp_m208 16 [(0, .inr 86), (2, .inl (b : Int)), (3, .inl N), (4, .inl 0), (5, .inl K)] [] m' Q := fun k' K N m' h1 h2 h3 h4 h5 h6 => ih (b - k') (by omega) k' K N m' rfl (by omega) h2 h3 h4 h5 h6.1 h6.2
    refine gt208_16 (by omega) (by omega) (by omega) (by omega) (fun _ => hQ _ m hI hf) (fun c => ?_)
    have hc := hH.2 k hak (by omega)
    rw [← gx_stk97 hf (by decide : (97 : Nat) ≠ 102)] at hc
    rw [Int.toNat_natCast]
    generalize hcc : m 97 k = c0 at hc
    have hcb := gx_I_at hI 97 (z := (k : Int)) 0 259 (-2147483648) 2147483647 (by decide +kernel) (by omega) (by omega)
    rw [Int.toNat_natCast, hcc] at hcb
    obtain ⟨hc0, g0, g1, g10, g11, gb⟩ := hc
    rw [Int.tdiv_eq_ediv_of_nonneg hc0, Int.tmod_eq_emod_of_nonneg hc0, gx_w_id (by omega) (by omega)]
    generalize c0 / 1048576 = op at g0 g1 g10 g11 gb
    have hv : 0 ≤ c0 % 1048576 ∧ c0 % 1048576 ≤ 1048575 := by omega
    generalize c0 % 1048576 = v at hv g0 g1 g10 g11 gb
    have hcall : 2 ≤ H k ∧ H (k + 1) + 1 = H k → (op = 5 ∨ op = 6 → m 102 (N - 1).toNat ≠ 0) → gx_to xs w0 d yp_m209 0 [(0, .inl op), (1, .inl (m 102 ((N - 1) - 1).toNat)), (2, .inl (m 102 (N - 1).toNat))] [] m (fun r m' => gx_to xs w0 (d + 1) yp_m208 229 [(0, .inr 86), (2, .inl (b : Int)), (3, .inl (N - 1)), (4, .inl 0), (5, .inl ((k : Int) + 1))] (gx_rs r ++ [.inl ((N - 1) - 1), .inr 102]) m' Q) := fun hh hz => gc_reckon hz (fun u => gx_to_s (fun hu => gt208_229 (by omega) (by omega) (by omega) (by omega) (by omega) (hrec (k + 1) _ _ _ (by omega) (by omega) (by omega) (by omega) (by omega) (gx_stkw hI hf (by omega) (by omega) hu))))
    refine gt208_52 (by omega) (by omega) (by omega) (by omega) hv
      (fun e _ => hrec (k + 1) _ _ _ (by omega) (by omega) (by omega) (by have := g0 e; omega) (by omega) (gx_stkw hI hf (by omega) (by omega) (by omega)))
      (fun _ _ _ e => by have := g11 (.inl e); omega)
      (fun _ _ _ e _ _ => hrec (k + 1) _ _ _ (by omega) (by omega) (by omega) (by have := g11 (.inl e); omega) (by omega) ⟨hI, hf⟩)
      (fun _ _ _ e _ _ => by
        have h := g11 (.inl e)
        exact hrec v.toNat _ _ _ (by omega) (by omega) (by omega) (by omega) (by omega) ⟨hI, hf⟩)
      (fun e1 e2 e3 e4 e5 _ => by have := gb e1 e2 e3 e4 e5; omega)
      (fun e1 e2 e3 e4 e5 _ _ => by have := gb e1 e2 e3 e4 e5; omega)
      (fun e1 e2 e3 e4 e5 _ _ => by have := gb e1 e2 e3 e4 e5; omega)
      (fun e1 e2 e3 e4 e5 _ z => hcall (gb e1 e2 e3 e4 e5) (fun _ => z))
      (fun _ _ _ _ _ _ _ => hQ _ m hI hf)
      (fun e1 e2 e3 e4 e5 _ _ => by have := gb e1 e2 e3 e4 e5; omega)
      (fun e1 e2 e3 e4 e5 _ _ => by have := gb e1 e2 e3 e4 e5; omega)
      (fun e1 e2 e3 e4 e5 e6 e7 => hcall (gb e1 e2 e3 e4 e5) (fun h => by omega))
      (fun e1 e2 e3 e4 e5 _ _ => by have := gb e1 e2 e3 e4 e5; omega)
      (fun e1 e2 e3 e4 e5 _ _ _ => by have := gb e1 e2 e3 e4 e5; omega)
      (fun e1 e2 e3 e4 e5 _ _ _ => by have := gb e1 e2 e3 e4 e5; omega)
      (fun e1 e2 e3 e4 e5 _ _ z => hcall (gb e1 e2 e3 e4 e5) (fun _ => z))
      (fun _ _ _ _ _ _ _ _ => hQ _ m hI hf)
      (fun _ _ _ _ e => by have := g11 (.inr e); omega)
      (fun _ _ _ _ e _ _ => hrec (k + 1) _ _ _ (by omega) (by omega) (by omega) (by have := g11 (.inr e); omega) (by omega) ⟨hI, hf⟩)
      (fun _ _ _ _ e _ _ => by
        have h := g11 (.inr e)
        exact hrec v.toNat _ _ _ (by omega) (by omega) (by omega) (by omega) (by omega) ⟨hI, hf⟩)
      (fun _ _ e => by have := g10 e; omega)
      (fun _ _ e => by have := g10 e; omega)
      (fun _ _ e => by
        have h := g10 e
        exact hrec (k + 1) _ _ _ (by omega) (by omega) (by omega) (by omega) (by omega) (gx_stkw hI hf (by omega) (by omega) (gx_w_bd _)))
      (fun _ e _ => by have := g1 e; omega)
      (fun _ e _ => by
        have h := g1 e
        exact hrec (k + 1) _ _ _ (by omega) (by omega) (by omega) (by omega) (by omega) (gx_stkw hI hf (by omega) (by omega) (gx_I_at hI 103 (z := v) 0 13 (-2147483648) 2147483647 (by decide +kernel) (by omega) (by omega))))
theorem gc_comes {a b : Int} (hw : gx_wf (m 97) a b) (hI : gx_I m) (hQ : ∀ v m', gx_I m' → gx_fw gx_stk m m' → Q (some v) m') : gx_to xs w0 (d + 1) yp_m208 0 [(0, .inr 86), (1, .inl a), (2, .inl b)] [] m Q := by
  obtain ⟨h1, h2, h3, H, hH⟩ := hw
  refine gt208_0 (by omega) (by omega) ?_
  have e : gx_w (260 * gx_w (Int.tdiv a 260)) = 0 := by
    rw [Int.tdiv_eq_ediv_of_nonneg h1, show a / 260 = 0 by omega]
    rfl
  rw [e]
  have := gl_comes (xs := xs) (w0 := w0) (d := d) hH (by omega) hQ (b.toNat - a.toNat) a.toNat a 0 m rfl (Nat.le_refl _) (by omega) (by omega) (by rw [hH.1]; rfl) (by omega) hI gx_fw.rf
  rw [show ((b.toNat : Nat) : Int) = b by omega] at this
  exact this
theorem gl_byLaw {m0 : gx_M} (hX : gx_X m0) {l h : Int} (hh : 0 ≤ h) (hQ : ∀ v m, 0 ≤ v → v ≤ h → gx_I m → gx_fw gx_stk m0 m → Q (some v) m) : ∀ (j q : Nat) (m : gx_M), 16 - q = j → q ≤ 16 → gx_I m → gx_fw gx_stk m0 m → gx_to xs w0 (d + 2) yp_m225 2 [(0, .inr 86), (1, .inl l), (2, .inl h), (3, .inl (q : Int))] [] m Q := by
  intro j
  induction j with
  | zero =>
    intro q m hj hq hI hf
    have hb := gx_I_n hI 86 13 0 16 (by decide +kernel)
    exact gt225_2 hI (by omega) (fun _ => hQ _ m (by omega) hh hI hf) (fun c => by omega) (fun c => by omega)
  | succ j ih =>
    intro q m hj hq hI hf
    have hrec : ∀ m', gx_I m' → gx_fw gx_stk m0 m' → gx_to xs w0 (d + 2) yp_m225 2 [(0, .inr 86), (1, .inl l), (2, .inl h), (3, .inl ((q : Int) + 1))] [] m' Q := fun m' h1 h2 => by
      have := ih (q + 1) m' (by omega) (by omega) h1 h2
      rw [show ((q + 1 : Nat) : Int) = (q : Int) + 1 by omega] at this
      exact this
    refine gt225_2 hI (by omega) (fun _ => hQ _ m (by omega) hh hI hf) (fun _ _ => hrec m hI hf) (fun c _ => ?_)
    obtain ⟨w1, w2⟩ := gx_X_c.fw hf (by decide) hX q (by omega) c
    rw [Int.toNat_natCast]
    refine gc_comes w2 hI (fun v m' hI' hf' => gt225_36 (by omega) (fun _ => ?_) (fun _ => hrec m' hI' (hf.tr hf')))
    have w1' : gx_wf (m' 97) (m' 99 q) (m' 100 q) := by
      rw [gx_stk97 hf' (by decide : (97 : Nat) ≠ 102), gx_stk97 hf' (by decide : (99 : Nat) ≠ 102), gx_stk97 hf' (by decide : (100 : Nat) ≠ 102)]
      exact w1
    rw [Int.toNat_natCast]
    exact gc_comes w1' hI' (fun v m'' hI'' hf'' => gt225_59 (fun c1 c2 => hQ _ m'' c1 c2 hI'' ((hf.tr hf').tr hf'')) (fun _ _ => hQ _ m'' hh (Int.le_refl _) hI'' ((hf.tr hf').tr hf'')) (fun _ => hQ _ m'' (Int.le_refl _) hh hI'' ((hf.tr hf').tr hf'')))
theorem gc_byLaw (hX : gx_X m) (hI : gx_I m) {l h : Int} (hh : 0 ≤ h) (hQ : ∀ v m', 0 ≤ v → v ≤ h → gx_I m' → gx_fw gx_stk m m' → Q (some v) m') : gx_to xs w0 (d + 2) yp_m225 0 [(0, .inr 86), (1, .inl l), (2, .inl h)] [] m Q :=
  gt225_0 (gl_byLaw hX hh hQ 16 0 m rfl (by omega) hI gx_fw.rf)
theorem gk_byLaw (h : Int) (hh : 0 ≤ h) : bx_Kok yp_P xs bw_INV (gx_XW gx_X) (225, 0, [(0, (2, 86, 0)), (1, (0, (-2147483648), 2147483647)), (2, (0, h, h))], [], [(some (some (0, 0, h)), 0, [], [])], [(102, 0, 260)], [3, 4], 3, none) := by
  refine gx_K_of rfl rfl (fun M w0 v m hM hv hI hX _ => ?_)
  cases (Option.some.inj (hM.symm.trans rfl) : M = yp_m225)
  match v, hv with
  | x1 :: x2 :: r, hv =>
    have e : x2 = h := by
      have h1 : h ≤ x2 := hv.2.1.2.1
      have h2 : x2 ≤ h := hv.2.1.2.2
      omega
    subst e
    exact gc_byLaw (d := 1) hX hI hh (fun v m' h1 h2 hI' hf _ => ⟨⟨rfl, h1, h2⟩, hI', gx_X_c.fw hf (by decide) hX, hf⟩)
def gx_feel : bx_M := [(102, 0, 260), (103, 0, 14)]
theorem gx_stk_feel {m m' : gx_M} (h : gx_fw gx_stk m m') : gx_fw gx_feel m m' := h.sub (fun q hq => ⟨q, by rw [gx_stk, List.mem_singleton] at hq; subst hq; exact List.mem_cons_self, rfl, Nat.le_refl _, Nat.le_refl _⟩)
theorem gc_feels (h : bw_H1 xs (gx_XW gx_X)) (hI : gx_I m) (hX : gx_X m) {y p c : Int} (hy : 0 ≤ y ∧ y ≤ 39) (hp : -2 ≤ p ∧ p ≤ 7) (hc : -2147483648 ≤ c ∧ c ≤ 2147483647) (hQ : ∀ m', gx_I m' → gx_X m' → gx_fw gx_feel m m' → Q none m') : gx_to xs w0 (d + 3) yp_m202 0 [(0, .inr 86), (1, .inl y), (2, .inl p), (3, .inl c)] [] m Q :=
  gx_K (bp_153 h) rfl (by omega) (by decide +kernel) rfl ⟨⟨rfl, rfl⟩, ⟨rfl, hy⟩, ⟨rfl, hp⟩, ⟨rfl, hc⟩, trivial⟩ hI hX (fun r m' he hI' hX' hf => by
    rw [gx_end_0 he]
    exact hQ m' hI' hX' (hf.sub (fun q hq => ⟨q, List.mem_cons_of_mem _ hq, rfl, Nat.le_refl _, Nat.le_refl _⟩)))
theorem gl_isBarred {m0 : gx_M} (hQ : ∀ v m, v = 0 ∨ v = 1 → gx_I m → gx_X m → gx_fw gx_feel m0 m → Q (some v) m) : ∀ (j q : Nat) (m : gx_M), 16 - q = j → q ≤ 16 → gx_I m → gx_X m → gx_fw gx_feel m0 m → gx_to xs w0 (d + 2) yp_m201 10 [(0, .inr 86), (4, .inl (q : Int))] [] m Q := by
  intro j
  induction j with
  | zero =>
    intro q m hj hq hI hX hf
    have hb := gx_I_n hI 86 13 0 16 (by decide +kernel)
    exact gt201_10 hI (by omega) (fun _ => hQ _ m (.inl rfl) hI hX hf) (fun c => by omega) (fun c => by omega)
  | succ j ih =>
    intro q m hj hq hI hX hf
    have hrec : ∀ m', gx_I m' → gx_X m' → gx_fw gx_feel m0 m' → gx_to xs w0 (d + 2) yp_m201 10 [(0, .inr 86), (4, .inl ((q : Int) + 1))] [] m' Q := fun m' h1 h2 h3 => by
      have := ih (q + 1) m' (by omega) (by omega) h1 h2 h3
      rw [show ((q + 1 : Nat) : Int) = (q : Int) + 1 by omega] at this
      exact this
    refine gt201_10 hI (by omega) (fun _ => hQ _ m (.inl rfl) hI hX hf) (fun _ _ => hrec m hI hX hf) (fun c _ => ?_)
    obtain ⟨w1, w2⟩ := hX q (by omega) c
    rw [Int.toNat_natCast]
    exact gc_comes w2 hI (fun v m' hI' hf' => gt201_49 (by omega) (fun _ => hrec m' hI' (gx_X_c.fw hf' (by decide) hX) (hf.tr (gx_stk_feel hf'))) (fun _ => hQ _ m' (.inr rfl) hI' (gx_X_c.fw hf' (by decide) hX) (hf.tr (gx_stk_feel hf'))))
theorem gc_isBarred (h : bw_H1 xs (gx_XW gx_X)) (hI : gx_I m) (hX : gx_X m) {y p c : Int} (hy : 0 ≤ y ∧ y ≤ 39) (hp : -2 ≤ p ∧ p ≤ 7) (hc : -2147483648 ≤ c ∧ c ≤ 2147483647) (hQ : ∀ v m', v = 0 ∨ v = 1 → gx_I m' → gx_X m' → gx_fw gx_feel m m' → Q (some v) m') : gx_to xs w0 (d + 4) yp_m201 0 [(0, .inr 86), (1, .inl y), (2, .inl p), (3, .inl c)] [] m Q :=
  gt201_0 (gc_feels h hI hX hy hp hc (fun m' h1 h2 h3 => gt201_7 (gl_isBarred (fun v m'' hv g1 g2 g3 => hQ v m'' hv g1 g2 g3) 16 0 m' rfl (by omega) h1 h2 h3)))
theorem gk_isBarred (h : bw_H1 xs (gx_XW gx_X)) : bx_Kok yp_P xs bw_INV (gx_XW gx_X) bk_152 := by
  refine gx_K_of (by decide) rfl (fun M w0 v m hM hv hI hX _ => ?_)
  cases (Option.some.inj (hM.symm.trans rfl) : M = yp_m201)
  match v, hv with
  | x1 :: x2 :: x3 :: r, hv =>
    have h1 : 0 ≤ x1 ∧ x1 ≤ 39 := hv.1.2
    have h2 : 0 ≤ x2 ∧ x2 ≤ 7 := hv.2.1.2
    exact gc_isBarred (d := 2) h hI hX h1 (by omega) hv.2.2.1.2 (fun v m' hv hI' hX' hf _ => ⟨⟨rfl, by show 0 ≤ v; omega, by show v ≤ 1; omega⟩, hI', hX', hf⟩)
theorem gc_worthOf (h : bw_H1 xs (gx_XW gx_X)) (hI : gx_I m) (hX : gx_X m) {y p : Int} (hy : 0 ≤ y ∧ y ≤ 39) (hp : -2 ≤ p ∧ p ≤ 7) (hQ : ∀ v m', 0 ≤ v → v ≤ 999 → gx_I m' → gx_X m' → gx_fw gx_feel m m' → Q (some v) m') : gx_to xs w0 (d + 4) yp_m224 0 [(0, .inr 86), (1, .inl y), (2, .inl p)] [] m Q :=
  gt224_0 (gc_feels h hI hX hy hp (by omega) (fun m' h1 h2 h3 => gt224_7 (gc_byLaw (d := d + 1) h2 h1 (by omega) (fun v m'' v1 v2 g1 g2 => gt224_16 (hQ v m'' v1 v2 g1 (gx_X_c.fw g2 (by decide) h2) (h3.tr (gx_stk_feel g2)))))))
end GCM
end
