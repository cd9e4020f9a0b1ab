/-! roads of methods read by hand, from cut points to the next ones (printed by wip/gen/gxall.py) -/
/-- min from 0 on -/
theorem gt199_0 {xs : List Int32} {w0 : sx_W} {d : Nat} {Q : gx_Q} {m : gx_M} {x0 x1 : Int}
    (h1 : (x1 ≤ x0) → Q (some x1) m)
    (h2 : (x0 < x1) → Q (some x0) m) : gx_to xs w0 d yp_m199 0 [(0, .inl x0), (1, .inl x1)] [] m Q := by
  refine gx_blk (C := True) (npc := 2) (L' := [(0, .inl x0), (1, .inl x1)]) (st' := [.inl x1, .inl x0]) (m' := m) [((0, .iload_n 0, 1, 0, 0, 0, 0), (0, 0, 0)), ((1, .iload_n 1, 1, 0, 0, 0, 0), (0, 0, 0))] (by decide +kernel) rfl trivial ?_
  refine gx_cmp .ge 9 (by decide +kernel) (fun c1 => ?_) (fun c1 => ?_)
  · have c1 : x1 ≤ x0 := c1
    refine gx_blk (C := True) (npc := 10) (L' := [(0, .inl x0), (1, .inl x1)]) (st' := [.inl x1]) (m' := m) [((9, .iload_n 1, 1, 0, 0, 0, 0), (0, 0, 0))] (by decide +kernel) rfl trivial ?_
    exact gx_reti (by decide +kernel) (h1 c1)
  · have c1 : x0 < x1 := by have h : ¬ (x1 ≤ x0) := c1; omega
    refine gx_blk (C := True) (npc := 10) (L' := [(0, .inl x0), (1, .inl x1)]) (st' := [.inl x0]) (m' := m) [((5, .iload_n 0, 1, 0, 0, 0, 0), (0, 0, 0)), ((6, .goto 4, 3, 0, 0, 0, 0), (0, 0, 0))] (by decide +kernel) rfl trivial ?_
    exact gx_reti (by decide +kernel) (h2 c1)

/-- hasHad from 0 on -/
theorem gt220_0 {xs : List Int32} {w0 : sx_W} {d : Nat} {Q : gx_Q} {m : gx_M} {x1 x2 : Int}
    (h1 : gx_to xs w0 d yp_m220 2 [(0, .inr 86), (1, .inl x1), (2, .inl x2), (3, .inl 0)] [] m Q) : gx_to xs w0 d yp_m220 0 [(0, .inr 86), (1, .inl x1), (2, .inl x2)] [] m Q := by
  refine gx_blk (C := True) (npc := 2) (L' := [(0, .inr 86), (1, .inl x1), (2, .inl x2), (3, .inl 0)]) (st' := []) (m' := m) [((0, .iconst 0, 1, 0, 0, 0, 0), (0, 0, 0)), ((1, .istore_n 3, 1, 0, 0, 0, 0), (0, 0, 0))] (by decide +kernel) rfl trivial ?_
  exact gx_to_pick [0, 1, 2, 3] h1

/-- hasHad from 2 on -/
theorem gt220_2 {xs : List Int32} {w0 : sx_W} {d : Nat} {Q : gx_Q} {m : gx_M} {x1 x2 x3 : Int} (hI : gx_I m) (r_x1 : 0 ≤ x1 ∧ x1 ≤ 39) (r_x3 : 0 ≤ x3 ∧ x3 ≤ 16)
    (h1 : ((m 87 (400 + x1).toNat) ≤ x3) → Q (some 0) m)
    (h2 : (x3 < (m 87 (400 + x1).toNat)) → ((m 87 (440 + x1).toNat) ≠ 1) → Q (some 0) m)
    (h3 : (x3 < (m 87 (400 + x1).toNat)) → ((m 87 (440 + x1).toNat) = 1) → ((m 87 ((480 + (16 * x1)) + x3).toNat) ≠ x2) → gx_to xs w0 d yp_m220 2 [(0, .inr 86), (1, .inl x1), (2, .inl x2), (3, .inl (x3 + 1))] [] m Q)
    (h4 : (x3 < (m 87 (400 + x1).toNat)) → ((m 87 (440 + x1).toNat) = 1) → ((m 87 ((480 + (16 * x1)) + x3).toNat) = x2) → Q (some 1) m) : gx_to xs w0 d yp_m220 2 [(0, .inr 86), (1, .inl x1), (2, .inl x2), (3, .inl x3)] [] m Q := by
  have e1 : gx_w (400 + x1) = 400 + x1 := gx_w_id (by omega) (by omega)
  have f2 := gx_I_at hI 87 (z := 400 + x1) 400 439 0 16 (by decide +kernel) (by omega) (by omega)
  refine gx_blk (C := (True ∧ (0 ≤ (gx_w (400 + x1)) ∧ (gx_w (400 + x1)) < 1131))) (npc := 13) (L' := [(0, .inr 86), (1, .inl x1), (2, .inl x2), (3, .inl x3)]) (st' := [.inl (m 87 (gx_w (400 + x1)).toNat), .inl x3]) (m' := m) [((2, .iload_n 3, 1, 0, 0, 0, 0), (0, 0, 0)), ((3, .aload_n 0, 1, 0, 0, 0, 0), (0, 0, 0)), ((4, .getfield 7, 3, 10, 0, 5113, 0), (1, 86, 87)), ((7, .sipush 400, 3, 0, 0, 0, 0), (0, 0, 0)), ((10, .iload_n 1, 1, 0, 0, 0, 0), (0, 0, 0)), ((11, .iadd, 1, 0, 0, 0, 0), (0, 0, 0)), ((12, .iaload, 1, 0, 0, 0, 0), (0, 87, 1131))] (by decide +kernel) rfl ⟨trivial, (by rw [e1]; omega)⟩ ?_
  rw [e1]
  refine gx_cmp .ge 57 (by decide +kernel) (fun c1 => ?_) (fun c1 => ?_)
  · have c1 : (m 87 (400 + x1).toNat) ≤ x3 := c1
    refine gx_blk (C := True) (npc := 58) (L' := [(0, .inr 86), (1, .inl x1), (2, .inl x2), (3, .inl x3)]) (st' := [.inl 0]) (m' := m) [((57, .iconst 0, 1, 0, 0, 0, 0), (0, 0, 0))] (by decide +kernel) rfl trivial ?_
    exact gx_retb (by decide +kernel) (by omega) (h1 c1)
  · have c1 : x3 < (m 87 (400 + x1).toNat) := by have h : ¬ ((m 87 (400 + x1).toNat) ≤ x3) := c1; omega
    have e3 : gx_w (440 + x1) = 440 + x1 := gx_w_id (by omega) (by omega)
    have f4 := gx_I_at hI 87 (z := 440 + x1) 440 479 0 1 (by decide +kernel) (by omega) (by omega)
    refine gx_blk (C := (True ∧ (0 ≤ (gx_w (440 + x1)) ∧ (gx_w (440 + x1)) < 1131))) (npc := 27) (L' := [(0, .inr 86), (1, .inl x1), (2, .inl x2), (3, .inl x3)]) (st' := [.inl 1, .inl (m 87 (gx_w (440 + x1)).toNat)]) (m' := m) [((16, .aload_n 0, 1, 0, 0, 0, 0), (0, 0, 0)), ((17, .getfield 7, 3, 10, 0, 5113, 0), (1, 86, 87)), ((20, .sipush 440, 3, 0, 0, 0, 0), (0, 0, 0)), ((23, .iload_n 1, 1, 0, 0, 0, 0), (0, 0, 0)), ((24, .iadd, 1, 0, 0, 0, 0), (0, 0, 0)), ((25, .iaload, 1, 0, 0, 0, 0), (0, 87, 1131)), ((26, .iconst 1, 1, 0, 0, 0, 0), (0, 0, 0))] (by decide +kernel) rfl ⟨trivial, (by rw [e3]; omega)⟩ ?_
    rw [e3]
    refine gx_cmp .ne 57 (by decide +kernel) (fun c2 => ?_) (fun c2 => ?_)
    · have c2 : (m 87 (440 + x1).toNat) ≠ 1 := c2
      refine gx_blk (C := True) (npc := 58) (L' := [(0, .inr 86), (1, .inl x1), (2, .inl x2), (3, .inl x3)]) (st' := [.inl 0]) (m' := m) [((57, .iconst 0, 1, 0, 0, 0, 0), (0, 0, 0))] (by decide +kernel) rfl trivial ?_
      exact gx_retb (by decide +kernel) (by omega) (h2 c1 c2)
    · have c2 : (m 87 (440 + x1).toNat) = 1 := by have h : ¬ ((m 87 (440 + x1).toNat) ≠ 1) := c2; omega
      have e5 : gx_w (16 * x1) = 16 * x1 := gx_w_id (by omega) (by omega)
      have e6 : gx_w (480 + (16 * x1)) = 480 + (16 * x1) := gx_w_id (by omega) (by omega)
      have e7 : gx_w ((480 + (16 * x1)) + x3) = (480 + (16 * x1)) + x3 := gx_w_id (by omega) (by omega)
      have f8 := gx_I_at hI 87 (z := (480 + (16 * x1)) + x3) 480 1119 (-2) 7 (by decide +kernel) (by omega) (by omega)
      refine gx_blk (C := (True ∧ (0 ≤ (gx_w ((gx_w (480 + (gx_w (16 * x1)))) + x3)) ∧ (gx_w ((gx_w (480 + (gx_w (16 * x1)))) + x3)) < 1131))) (npc := 46) (L' := [(0, .inr 86), (1, .inl x1), (2, .inl x2), (3, .inl x3)]) (st' := [.inl x2, .inl (m 87 (gx_w ((gx_w (480 + (gx_w (16 * x1)))) + x3)).toNat)]) (m' := m) [((30, .aload_n 0, 1, 0, 0, 0, 0), (0, 0, 0)), ((31, .getfield 7, 3, 10, 0, 5113, 0), (1, 86, 87)), ((34, .sipush 480, 3, 0, 0, 0, 0), (0, 0, 0)), ((37, .bipush 16, 2, 0, 0, 0, 0), (0, 0, 0)), ((39, .iload_n 1, 1, 0, 0, 0, 0), (0, 0, 0)), ((40, .imul, 1, 0, 0, 0, 0), (0, 0, 0)), ((41, .iadd, 1, 0, 0, 0, 0), (0, 0, 0)), ((42, .iload_n 3, 1, 0, 0, 0, 0), (0, 0, 0)), ((43, .iadd, 1, 0, 0, 0, 0), (0, 0, 0)), ((44, .iaload, 1, 0, 0, 0, 0), (0, 87, 1131)), ((45, .iload_n 2, 1, 0, 0, 0, 0), (0, 0, 0))] (by decide +kernel) rfl ⟨trivial, (by rw [e5, e6, e7]; omega)⟩ ?_
      rw [e5, e6, e7]
      refine gx_cmp .ne 51 (by decide +kernel) (fun c3 => ?_) (fun c3 => ?_)
      · have c3 : (m 87 ((480 + (16 * x1)) + x3).toNat) ≠ x2 := c3
        have e9 : gx_w (x3 + 1) = x3 + 1 := gx_w_id (by omega) (by omega)
        refine gx_blk (C := True) (npc := 2) (L' := [(0, .inr 86), (1, .inl x1), (2, .inl x2), (3, .inl (gx_w (x3 + 1)))]) (st' := []) (m' := m) [((51, .iinc 3 1, 3, 0, 0, 0, 0), (0, 0, 0)), ((54, .goto (-52), 3, 0, 0, 0, 0), (0, 0, 0))] (by decide +kernel) rfl trivial ?_
        rw [e9]
        exact gx_to_pick [0, 1, 2, 3] (h3 c1 c2 c3)
      · have c3 : (m 87 ((480 + (16 * x1)) + x3).toNat) = x2 := by have h : ¬ ((m 87 ((480 + (16 * x1)) + x3).toNat) ≠ x2) := c3; omega
        refine gx_blk (C := True) (npc := 50) (L' := [(0, .inr 86), (1, .inl x1), (2, .inl x2), (3, .inl x3)]) (st' := [.inl 1]) (m' := m) [((49, .iconst 1, 1, 0, 0, 0, 0), (0, 0, 0))] (by decide +kernel) rfl trivial ?_
        exact gx_retb (by decide +kernel) (by omega) (h4 c1 c2 c3)

/-- areLinked from 0 on -/
theorem gt266_0 {xs : List Int32} {w0 : sx_W} {d : Nat} {Q : gx_Q} {m : gx_M} {x1 x2 : Int}
    (h1 : gx_to xs w0 d yp_m266 2 [(0, .inr 86), (1, .inl x1), (2, .inl x2), (3, .inl 0)] [] m Q) : gx_to xs w0 d yp_m266 0 [(0, .inr 86), (1, .inl x1), (2, .inl x2)] [] m Q := by
  refine gx_blk (C := True) (npc := 2) (L' := [(0, .inr 86), (1, .inl x1), (2, .inl x2), (3, .inl 0)]) (st' := []) (m' := m) [((0, .iconst 0, 1, 0, 0, 0, 0), (0, 0, 0)), ((1, .istore_n 3, 1, 0, 0, 0, 0), (0, 0, 0))] (by decide +kernel) rfl trivial ?_
  exact gx_to_pick [0, 1, 2, 3] h1

/-- areLinked from 2 on -/
theorem gt266_2 {xs : List Int32} {w0 : sx_W} {d : Nat} {Q : gx_Q} {m : gx_M} {x1 x2 x3 : Int} (r_x3 : 0 ≤ x3 ∧ x3 ≤ 40)
    (h1 : (40 ≤ x3) → Q (some 0) m)
    (h2 : (x3 < 40) → gx_to xs w0 d yp_m220 0 [(0, .inr 86), (1, .inl x3), (2, .inl x1)] [] m (fun r m' => gx_to xs w0 (d + 1) yp_m266 14 [(0, .inr 86), (1, .inl x1), (2, .inl x2), (3, .inl x3)] (gx_rs r ++ []) m' Q)) : gx_to xs w0 (d + 1) yp_m266 2 [(0, .inr 86), (1, .inl x1), (2, .inl x2), (3, .inl x3)] [] m Q := by
  refine gx_blk (C := True) (npc := 5) (L' := [(0, .inr 86), (1, .inl x1), (2, .inl x2), (3, .inl x3)]) (st' := [.inl 40, .inl x3]) (m' := m) [((2, .iload_n 3, 1, 0, 0, 0, 0), (0, 0, 0)), ((3, .bipush 40, 2, 0, 0, 0, 0), (0, 0, 0))] (by decide +kernel) rfl trivial ?_
  refine gx_cmp .ge 34 (by decide +kernel) (fun c1 => ?_) (fun c1 => ?_)
  · have c1 : 40 ≤ x3 := c1
    refine gx_blk (C := True) (npc := 35) (L' := [(0, .inr 86), (1, .inl x1), (2, .inl x2), (3, .inl x3)]) (st' := [.inl 0]) (m' := m) [((34, .iconst 0, 1, 0, 0, 0, 0), (0, 0, 0))] (by decide +kernel) rfl trivial ?_
    exact gx_retb (by decide +kernel) (by omega) (h1 c1)
  · have c1 : x3 < 40 := by have h : ¬ (40 ≤ x3) := c1; omega
    refine gx_blk (C := True) (npc := 11) (L' := [(0, .inr 86), (1, .inl x1), (2, .inl x2), (3, .inl x3)]) (st' := [.inl x1, .inl x3, .inr 86]) (m' := m) [((8, .aload_n 0, 1, 0, 0, 0, 0), (0, 0, 0)), ((9, .iload_n 3, 1, 0, 0, 0, 0), (0, 0, 0)), ((10, .iload_n 1, 1, 0, 0, 0, 0), (0, 0, 0))] (by decide +kernel) rfl trivial ?_
    exact gx_callv (E := (11, .invokevirtual 303, 3, 220, 0, 7008, 0)) (M' := yp_m220) (c := 86) [.inl x3, .inl x1] [] rfl (by decide +kernel) rfl ⟨rfl, rfl⟩ rfl rfl (Nat.le_of_ble_eq_true rfl) (Nat.le_of_ble_eq_true rfl) (by decide +kernel) (gx_to_mono (h2 c1) (fun r m' h' => gx_to_pick [0, 1, 2, 3] h'))

/-- areLinked from 14 on -/
theorem gt266_14 {xs : List Int32} {w0 : sx_W} {d : Nat} {Q : gx_Q} {m : gx_M} {x1 x2 x3 s0 : Int} (r_x3 : 0 ≤ x3 ∧ x3 ≤ 39)
    (h1 : (s0 = 0) → gx_to xs w0 (d + 1) yp_m266 2 [(0, .inr 86), (1, .inl x1), (2, .inl x2), (3, .inl (x3 + 1))] [] m Q)
    (h2 : (s0 ≠ 0) → gx_to xs w0 d yp_m220 0 [(0, .inr 86), (1, .inl x3), (2, .inl x2)] [] m (fun r m' => gx_to xs w0 (d + 1) yp_m266 23 [(0, .inr 86), (1, .inl x1), (2, .inl x2), (3, .inl x3)] (gx_rs r ++ []) m' Q)) : gx_to xs w0 (d + 1) yp_m266 14 [(0, .inr 86), (1, .inl x1), (2, .inl x2), (3, .inl x3)] [.inl s0] m Q := by
  refine gx_if .eq 28 (by decide +kernel) (fun c1 => ?_) (fun c1 => ?_)
  · have c1 : s0 = 0 := c1
    have e1 : gx_w (x3 + 1) = x3 + 1 := gx_w_id (by omega) (by omega)
    refine gx_blk (C := True) (npc := 2) (L' := [(0, .inr 86), (1, .inl x1), (2, .inl x2), (3, .inl (gx_w (x3 + 1)))]) (st' := []) (m' := m) [((28, .iinc 3 1, 3, 0, 0, 0, 0), (0, 0, 0)), ((31, .goto (-29), 3, 0, 0, 0, 0), (0, 0, 0))] (by decide +kernel) rfl trivial ?_
    rw [e1]
    exact gx_to_pick [0, 1, 2, 3] (h1 c1)
  · have c1 : s0 ≠ 0 := c1
    refine gx_blk (C := True) (npc := 20) (L' := [(0, .inr 86), (1, .inl x1), (2, .inl x2), (3, .inl x3)]) (st' := [.inl x2, .inl x3, .inr 86]) (m' := m) [((17, .aload_n 0, 1, 0, 0, 0, 0), (0, 0, 0)), ((18, .iload_n 3, 1, 0, 0, 0, 0), (0, 0, 0)), ((19, .iload_n 2, 1, 0, 0, 0, 0), (0, 0, 0))] (by decide +kernel) rfl trivial ?_
    exact gx_callv (E := (20, .invokevirtual 303, 3, 220, 0, 7008, 0)) (M' := yp_m220) (c := 86) [.inl x3, .inl x2] [] rfl (by decide +kernel) rfl ⟨rfl, rfl⟩ rfl rfl (Nat.le_of_ble_eq_true rfl) (Nat.le_of_ble_eq_true rfl) (by decide +kernel) (gx_to_mono (h2 c1) (fun r m' h' => gx_to_pick [0, 1, 2, 3] h'))

/-- areLinked from 23 on -/
theorem gt266_23 {xs : List Int32} {w0 : sx_W} {d : Nat} {Q : gx_Q} {m : gx_M} {x1 x2 x3 s0 : Int} (r_x3 : 0 ≤ x3 ∧ x3 ≤ 39)
    (h1 : (s0 = 0) → gx_to xs w0 d yp_m266 2 [(0, .inr 86), (1, .inl x1), (2, .inl x2), (3, .inl (x3 + 1))] [] m Q)
    (h2 : (s0 ≠ 0) → Q (some 1) m) : gx_to xs w0 d yp_m266 23 [(0, .inr 86), (1, .inl x1), (2, .inl x2), (3, .inl x3)] [.inl s0] m Q := by
  refine gx_if .eq 28 (by decide +kernel) (fun c1 => ?_) (fun c1 => ?_)
  · have c1 : s0 = 0 := c1
    have e1 : gx_w (x3 + 1) = x3 + 1 := gx_w_id (by omega) (by omega)
    refine gx_blk (C := True) (npc := 2) (L' := [(0, .inr 86), (1, .inl x1), (2, .inl x2), (3, .inl (gx_w (x3 + 1)))]) (st' := []) (m' := m) [((28, .iinc 3 1, 3, 0, 0, 0, 0), (0, 0, 0)), ((31, .goto (-29), 3, 0, 0, 0, 0), (0, 0, 0))] (by decide +kernel) rfl trivial ?_
    rw [e1]
    exact gx_to_pick [0, 1, 2, 3] (h1 c1)
  · have c1 : s0 ≠ 0 := c1
    refine gx_blk (C := True) (npc := 27) (L' := [(0, .inr 86), (1, .inl x1), (2, .inl x2), (3, .inl x3)]) (st' := [.inl 1]) (m' := m) [((26, .iconst 1, 1, 0, 0, 0, 0), (0, 0, 0))] (by decide +kernel) rfl trivial ?_
    exact gx_retb (by decide +kernel) (by omega) (h2 c1)

/-- laysFar from 0 on -/
theorem gt265_0 {xs : List Int32} {w0 : sx_W} {d : Nat} {Q : gx_Q} {m : gx_M} {x1 : Int}
    (h1 : gx_to xs w0 d yp_m265 2 [(0, .inr 86), (1, .inl x1), (2, .inl 0)] [] m Q) : gx_to xs w0 d yp_m265 0 [(0, .inr 86), (1, .inl x1)] [] m Q := by
  refine gx_blk (C := True) (npc := 2) (L' := [(0, .inr 86), (1, .inl x1), (2, .inl 0)]) (st' := []) (m' := m) [((0, .iconst 0, 1, 0, 0, 0, 0), (0, 0, 0)), ((1, .istore_n 2, 1, 0, 0, 0, 0), (0, 0, 0))] (by decide +kernel) rfl trivial ?_
  exact gx_to_pick [0, 1, 2] h1

/-- laysFar from 2 on -/
theorem gt265_2 {xs : List Int32} {w0 : sx_W} {d : Nat} {Q : gx_Q} {m : gx_M} {x1 x2 : Int} (r_x2 : 0 ≤ x2 ∧ x2 ≤ 8)
    (h1 : (8 ≤ x2) → gx_to xs w0 d yp_m265 34 [(0, .inr 86), (2, .inl 0)] [] m Q)
    (h2 : (x2 < 8) → (x2 ≠ x1) → gx_to xs w0 d yp_m265 2 [(0, .inr 86), (1, .inl x1), (2, .inl (x2 + 1))] [] (gx_u m 117 (x2).toNat 1000000000) Q)
    (h3 : (x2 < 8) → (x2 = x1) → gx_to xs w0 d yp_m265 2 [(0, .inr 86), (1, .inl x1), (2, .inl (x2 + 1))] [] (gx_u m 117 (x2).toNat 0) Q) : gx_to xs w0 d yp_m265 2 [(0, .inr 86), (1, .inl x1), (2, .inl x2)] [] m Q := by
  refine gx_blk (C := True) (npc := 5) (L' := [(0, .inr 86), (1, .inl x1), (2, .inl x2)]) (st' := [.inl 8, .inl x2]) (m' := m) [((2, .iload_n 2, 1, 0, 0, 0, 0), (0, 0, 0)), ((3, .bipush 8, 2, 0, 0, 0, 0), (0, 0, 0))] (by decide +kernel) rfl trivial ?_
  refine gx_cmp .ge 32 (by decide +kernel) (fun c1 => ?_) (fun c1 => ?_)
  · have c1 : 8 ≤ x2 := c1
    refine gx_blk (C := True) (npc := 34) (L' := [(0, .inr 86), (1, .inl x1), (2, .inl 0)]) (st' := []) (m' := m) [((32, .iconst 0, 1, 0, 0, 0, 0), (0, 0, 0)), ((33, .istore_n 2, 1, 0, 0, 0, 0), (0, 0, 0))] (by decide +kernel) rfl trivial ?_
    exact gx_to_pick [0, 2] (h1 c1)
  · have c1 : x2 < 8 := by have h : ¬ (8 ≤ x2) := c1; omega
    refine gx_blk (C := True) (npc := 15) (L' := [(0, .inr 86), (1, .inl x1), (2, .inl x2)]) (st' := [.inl x1, .inl x2, .inl x2, .inr 117]) (m' := m) [((8, .aload_n 0, 1, 0, 0, 0, 0), (0, 0, 0)), ((9, .getfield 101, 3, 10, 46, 5159, 0), (1, 86, 117)), ((12, .iload_n 2, 1, 0, 0, 0, 0), (0, 0, 0)), ((13, .iload_n 2, 1, 0, 0, 0, 0), (0, 0, 0)), ((14, .iload_n 1, 1, 0, 0, 0, 0), (0, 0, 0))] (by decide +kernel) rfl trivial ?_
    refine gx_cmp .ne 22 (by decide +kernel) (fun c2 => ?_) (fun c2 => ?_)
    · have c2 : x2 ≠ x1 := c2
      have e1 : gx_w (x2 + 1) = x2 + 1 := gx_w_id (by omega) (by omega)
      refine gx_blk (C := (True ∧ (0 ≤ x2 ∧ x2 < 8))) (npc := 2) (L' := [(0, .inr 86), (1, .inl x1), (2, .inl (gx_w (x2 + 1)))]) (st' := []) (m' := (gx_u m 117 (x2).toNat 1000000000)) [((22, .ldc_w 333, 3, 0, 0, 7076, 1000000000), (0, 0, 0)), ((25, .iastore, 1, 0, 0, 0, 0), (0, 117, 8)), ((26, .iinc 2 1, 3, 0, 0, 0, 0), (0, 0, 0)), ((29, .goto (-27), 3, 0, 0, 0, 0), (0, 0, 0))] (by decide +kernel) rfl ⟨trivial, (by omega)⟩ ?_
      rw [e1]
      exact gx_to_pick [0, 1, 2] (h2 c1 c2)
    · have c2 : x2 = x1 := by have h : ¬ (x2 ≠ x1) := c2; omega
      have e2 : gx_w (x2 + 1) = x2 + 1 := gx_w_id (by omega) (by omega)
      refine gx_blk (C := (True ∧ (0 ≤ x2 ∧ x2 < 8))) (npc := 2) (L' := [(0, .inr 86), (1, .inl x1), (2, .inl (gx_w (x2 + 1)))]) (st' := []) (m' := (gx_u m 117 (x2).toNat 0)) [((18, .iconst 0, 1, 0, 0, 0, 0), (0, 0, 0)), ((19, .goto 6, 3, 0, 0, 0, 0), (0, 0, 0)), ((25, .iastore, 1, 0, 0, 0, 0), (0, 117, 8)), ((26, .iinc 2 1, 3, 0, 0, 0, 0), (0, 0, 0)), ((29, .goto (-27), 3, 0, 0, 0, 0), (0, 0, 0))] (by decide +kernel) rfl ⟨trivial, (by omega)⟩ ?_
      rw [e2]
      exact gx_to_pick [0, 1, 2] (h3 c1 c2)

/-- laysFar from 34 on -/
theorem gt265_34 {xs : List Int32} {w0 : sx_W} {d : Nat} {Q : gx_Q} {m : gx_M} {x2 : Int} (r_x2 : 0 ≤ x2 ∧ x2 ≤ 8)
    (h1 : (8 ≤ x2) → Q none m)
    (h2 : (x2 < 8) → gx_to xs w0 d yp_m265 42 [(0, .inr 86), (2, .inl x2), (3, .inl 0)] [] m Q) : gx_to xs w0 d yp_m265 34 [(0, .inr 86), (2, .inl x2)] [] m Q := by
  refine gx_blk (C := True) (npc := 37) (L' := [(0, .inr 86), (2, .inl x2)]) (st' := [.inl 8, .inl x2]) (m' := m) [((34, .iload_n 2, 1, 0, 0, 0, 0), (0, 0, 0)), ((35, .bipush 8, 2, 0, 0, 0, 0), (0, 0, 0))] (by decide +kernel) rfl trivial ?_
  refine gx_cmp .ge 140 (by decide +kernel) (fun c1 => ?_) (fun c1 => ?_)
  · have c1 : 8 ≤ x2 := c1
    exact gx_ret0 (by decide +kernel) (h1 c1)
  · have c1 : x2 < 8 := by have h : ¬ (8 ≤ x2) := c1; omega
    refine gx_blk (C := True) (npc := 42) (L' := [(0, .inr 86), (2, .inl x2), (3, .inl 0)]) (st' := []) (m' := m) [((40, .iconst 0, 1, 0, 0, 0, 0), (0, 0, 0)), ((41, .istore_n 3, 1, 0, 0, 0, 0), (0, 0, 0))] (by decide +kernel) rfl trivial ?_
    exact gx_to_pick [0, 2, 3] (h2 c1)

/-- laysFar from 42 on -/
theorem gt265_42 {xs : List Int32} {w0 : sx_W} {d : Nat} {Q : gx_Q} {m : gx_M} {x2 x3 : Int} (r_x2 : 0 ≤ x2 ∧ x2 ≤ 7) (r_x3 : 0 ≤ x3 ∧ x3 ≤ 8)
    (h1 : (8 ≤ x3) → gx_to xs w0 d yp_m265 34 [(0, .inr 86), (2, .inl (x2 + 1))] [] m Q)
    (h2 : (x3 < 8) → gx_to xs w0 d yp_m265 51 [(0, .inr 86), (2, .inl x2), (3, .inl x3), (4, .inl 0)] [] m Q) : gx_to xs w0 d yp_m265 42 [(0, .inr 86), (2, .inl x2), (3, .inl x3)] [] m Q := by
  refine gx_blk (C := True) (npc := 45) (L' := [(0, .inr 86), (2, .inl x2), (3, .inl x3)]) (st' := [.inl 8, .inl x3]) (m' := m) [((42, .iload_n 3, 1, 0, 0, 0, 0), (0, 0, 0)), ((43, .bipush 8, 2, 0, 0, 0, 0), (0, 0, 0))] (by decide +kernel) rfl trivial ?_
  refine gx_cmp .ge 134 (by decide +kernel) (fun c1 => ?_) (fun c1 => ?_)
  · have c1 : 8 ≤ x3 := c1
    have e1 : gx_w (x2 + 1) = x2 + 1 := gx_w_id (by omega) (by omega)
    refine gx_blk (C := True) (npc := 34) (L' := [(0, .inr 86), (2, .inl (gx_w (x2 + 1))), (3, .inl x3)]) (st' := []) (m' := m) [((134, .iinc 2 1, 3, 0, 0, 0, 0), (0, 0, 0)), ((137, .goto (-103), 3, 0, 0, 0, 0), (0, 0, 0))] (by decide +kernel) rfl trivial ?_
    rw [e1]
    exact gx_to_pick [0, 2] (h1 c1)
  · have c1 : x3 < 8 := by have h : ¬ (8 ≤ x3) := c1; omega
    refine gx_blk (C := True) (npc := 51) (L' := [(0, .inr 86), (2, .inl x2), (3, .inl x3), (4, .inl 0)]) (st' := []) (m' := m) [((48, .iconst 0, 1, 0, 0, 0, 0), (0, 0, 0)), ((49, .istore 4, 2, 0, 0, 0, 0), (0, 0, 0))] (by decide +kernel) rfl trivial ?_
    exact gx_to_pick [0, 2, 3, 4] (h2 c1)

/-- laysFar from 51 on -/
theorem gt265_51 {xs : List Int32} {w0 : sx_W} {d : Nat} {Q : gx_Q} {m : gx_M} {x2 x3 x4 : Int} (r_x2 : 0 ≤ x2 ∧ x2 ≤ 7) (r_x3 : 0 ≤ x3 ∧ x3 ≤ 7) (r_x4 : 0 ≤ x4 ∧ x4 ≤ 8)
    (h1 : (8 ≤ x4) → gx_to xs w0 (d + 1) yp_m265 42 [(0, .inr 86), (2, .inl x2), (3, .inl (x3 + 1))] [] m Q)
    (h2 : (x4 < 8) → gx_to xs w0 d yp_m164 0 [(0, .inr 86), (1, .inl x3)] [] m (fun r m' => gx_to xs w0 (d + 1) yp_m265 63 [(0, .inr 86), (2, .inl x2), (3, .inl x3), (4, .inl x4)] (gx_rs r ++ []) m' Q)) : gx_to xs w0 (d + 1) yp_m265 51 [(0, .inr 86), (2, .inl x2), (3, .inl x3), (4, .inl x4)] [] m Q := by
  refine gx_blk (C := True) (npc := 55) (L' := [(0, .inr 86), (2, .inl x2), (3, .inl x3), (4, .inl x4)]) (st' := [.inl 8, .inl x4]) (m' := m) [((51, .iload 4, 2, 0, 0, 0, 0), (0, 0, 0)), ((53, .bipush 8, 2, 0, 0, 0, 0), (0, 0, 0))] (by decide +kernel) rfl trivial ?_
  refine gx_cmp .ge 128 (by decide +kernel) (fun c1 => ?_) (fun c1 => ?_)
  · have c1 : 8 ≤ x4 := c1
    have e1 : gx_w (x3 + 1) = x3 + 1 := gx_w_id (by omega) (by omega)
    refine gx_blk (C := True) (npc := 42) (L' := [(0, .inr 86), (2, .inl x2), (3, .inl (gx_w (x3 + 1))), (4, .inl x4)]) (st' := []) (m' := m) [((128, .iinc 3 1, 3, 0, 0, 0, 0), (0, 0, 0)), ((131, .goto (-89), 3, 0, 0, 0, 0), (0, 0, 0))] (by decide +kernel) rfl trivial ?_
    rw [e1]
    exact gx_to_pick [0, 2, 3] (h1 c1)
  · have c1 : x4 < 8 := by have h : ¬ (8 ≤ x4) := c1; omega
    refine gx_blk (C := True) (npc := 60) (L' := [(0, .inr 86), (2, .inl x2), (3, .inl x3), (4, .inl x4)]) (st' := [.inl x3, .inr 86]) (m' := m) [((58, .aload_n 0, 1, 0, 0, 0, 0), (0, 0, 0)), ((59, .iload_n 3, 1, 0, 0, 0, 0), (0, 0, 0))] (by decide +kernel) rfl trivial ?_
    exact gx_callv (E := (60, .invokevirtual 113, 3, 164, 0, 6031, 0)) (M' := yp_m164) (c := 86) [.inl x3] [] rfl (by decide +kernel) rfl ⟨rfl, rfl⟩ rfl rfl (Nat.le_of_ble_eq_true rfl) (Nat.le_of_ble_eq_true rfl) (by decide +kernel) (gx_to_mono (h2 c1) (fun r m' h' => gx_to_pick [0, 2, 3, 4] h'))

/-- laysFar from 63 on -/
theorem gt265_63 {xs : List Int32} {w0 : sx_W} {d : Nat} {Q : gx_Q} {m : gx_M} {x2 x3 x4 s0 : Int} (r_x2 : 0 ≤ x2 ∧ x2 ≤ 7) (r_x3 : 0 ≤ x3 ∧ x3 ≤ 7) (r_x4 : 0 ≤ x4 ∧ x4 ≤ 7)
    (h1 : (s0 = 0) → gx_to xs w0 (d + 1) yp_m265 51 [(0, .inr 86), (2, .inl x2), (3, .inl x3), (4, .inl (x4 + 1))] [] m Q)
    (h2 : (s0 ≠ 0) → gx_to xs w0 d yp_m164 0 [(0, .inr 86), (1, .inl x4)] [] m (fun r m' => gx_to xs w0 (d + 1) yp_m265 72 [(0, .inr 86), (2, .inl x2), (3, .inl x3), (4, .inl x4)] (gx_rs r ++ []) m' Q)) : gx_to xs w0 (d + 1) yp_m265 63 [(0, .inr 86), (2, .inl x2), (3, .inl x3), (4, .inl x4)] [.inl s0] m Q := by
  refine gx_if .eq 122 (by decide +kernel) (fun c1 => ?_) (fun c1 => ?_)
  · have c1 : s0 = 0 := c1
    have e1 : gx_w (x4 + 1) = x4 + 1 := gx_w_id (by omega) (by omega)
    refine gx_blk (C := True) (npc := 51) (L' := [(0, .inr 86), (2, .inl x2), (3, .inl x3), (4, .inl (gx_w (x4 + 1)))]) (st' := []) (m' := m) [((122, .iinc 4 1, 3, 0, 0, 0, 0), (0, 0, 0)), ((125, .goto (-74), 3, 0, 0, 0, 0), (0, 0, 0))] (by decide +kernel) rfl trivial ?_
    rw [e1]
    exact gx_to_pick [0, 2, 3, 4] (h1 c1)
  · have c1 : s0 ≠ 0 := c1
    refine gx_blk (C := True) (npc := 69) (L' := [(0, .inr 86), (2, .inl x2), (3, .inl x3), (4, .inl x4)]) (st' := [.inl x4, .inr 86]) (m' := m) [((66, .aload_n 0, 1, 0, 0, 0, 0), (0, 0, 0)), ((67, .iload 4, 2, 0, 0, 0, 0), (0, 0, 0))] (by decide +kernel) rfl trivial ?_
    exact gx_callv (E := (69, .invokevirtual 113, 3, 164, 0, 6031, 0)) (M' := yp_m164) (c := 86) [.inl x4] [] rfl (by decide +kernel) rfl ⟨rfl, rfl⟩ rfl rfl (Nat.le_of_ble_eq_true rfl) (Nat.le_of_ble_eq_true rfl) (by decide +kernel) (gx_to_mono (h2 c1) (fun r m' h' => gx_to_pick [0, 2, 3, 4] h'))

/-- laysFar from 72 on -/
theorem gt265_72 {xs : List Int32} {w0 : sx_W} {d : Nat} {Q : gx_Q} {m : gx_M} {x2 x3 x4 s0 : Int} (r_x2 : 0 ≤ x2 ∧ x2 ≤ 7) (r_x3 : 0 ≤ x3 ∧ x3 ≤ 7) (r_x4 : 0 ≤ x4 ∧ x4 ≤ 7)
    (h1 : (s0 = 0) → gx_to xs w0 (d + 1) yp_m265 51 [(0, .inr 86), (2, .inl x2), (3, .inl x3), (4, .inl (x4 + 1))] [] m Q)
    (h2 : (s0 ≠ 0) → (1000000000 ≤ (m 117 (x4).toNat)) → gx_to xs w0 (d + 1) yp_m265 51 [(0, .inr 86), (2, .inl x2), (3, .inl x3), (4, .inl (x4 + 1))] [] m Q)
    (h3 : (s0 ≠ 0) → ((m 117 (x4).toNat) < 1000000000) → gx_to xs w0 d yp_m266 0 [(0, .inr 86), (1, .inl x3), (2, .inl x4)] [] m (fun r m' => gx_to xs w0 (d + 1) yp_m265 95 [(0, .inr 86), (2, .inl x2), (3, .inl x3), (4, .inl x4)] (gx_rs r ++ []) m' Q)) : gx_to xs w0 (d + 1) yp_m265 72 [(0, .inr 86), (2, .inl x2), (3, .inl x3), (4, .inl x4)] [.inl s0] m Q := by
  refine gx_if .eq 122 (by decide +kernel) (fun c1 => ?_) (fun c1 => ?_)
  · have c1 : s0 = 0 := c1
    have e1 : gx_w (x4 + 1) = x4 + 1 := gx_w_id (by omega) (by omega)
    refine gx_blk (C := True) (npc := 51) (L' := [(0, .inr 86), (2, .inl x2), (3, .inl x3), (4, .inl (gx_w (x4 + 1)))]) (st' := []) (m' := m) [((122, .iinc 4 1, 3, 0, 0, 0, 0), (0, 0, 0)), ((125, .goto (-74), 3, 0, 0, 0, 0), (0, 0, 0))] (by decide +kernel) rfl trivial ?_
    rw [e1]
    exact gx_to_pick [0, 2, 3, 4] (h1 c1)
  · have c1 : s0 ≠ 0 := c1
    refine gx_blk (C := (True ∧ (0 ≤ x4 ∧ x4 < 8))) (npc := 85) (L' := [(0, .inr 86), (2, .inl x2), (3, .inl x3), (4, .inl x4)]) (st' := [.inl 1000000000, .inl (m 117 (x4).toNat)]) (m' := m) [((75, .aload_n 0, 1, 0, 0, 0, 0), (0, 0, 0)), ((76, .getfield 101, 3, 10, 46, 5159, 0), (1, 86, 117)), ((79, .iload 4, 2, 0, 0, 0, 0), (0, 0, 0)), ((81, .iaload, 1, 0, 0, 0, 0), (0, 117, 8)), ((82, .ldc_w 333, 3, 0, 0, 7076, 1000000000), (0, 0, 0))] (by decide +kernel) rfl ⟨trivial, (by omega)⟩ ?_
    refine gx_cmp .ge 122 (by decide +kernel) (fun c2 => ?_) (fun c2 => ?_)
    · have c2 : 1000000000 ≤ (m 117 (x4).toNat) := c2
      have e2 : gx_w (x4 + 1) = x4 + 1 := gx_w_id (by omega) (by omega)
      refine gx_blk (C := True) (npc := 51) (L' := [(0, .inr 86), (2, .inl x2), (3, .inl x3), (4, .inl (gx_w (x4 + 1)))]) (st' := []) (m' := m) [((122, .iinc 4 1, 3, 0, 0, 0, 0), (0, 0, 0)), ((125, .goto (-74), 3, 0, 0, 0, 0), (0, 0, 0))] (by decide +kernel) rfl trivial ?_
      rw [e2]
      exact gx_to_pick [0, 2, 3, 4] (h2 c1 c2)
    · have c2 : (m 117 (x4).toNat) < 1000000000 := by have h : ¬ (1000000000 ≤ (m 117 (x4).toNat)) := c2; omega
      refine gx_blk (C := True) (npc := 92) (L' := [(0, .inr 86), (2, .inl x2), (3, .inl x3), (4, .inl x4)]) (st' := [.inl x4, .inl x3, .inr 86]) (m' := m) [((88, .aload_n 0, 1, 0, 0, 0, 0), (0, 0, 0)), ((89, .iload_n 3, 1, 0, 0, 0, 0), (0, 0, 0)), ((90, .iload 4, 2, 0, 0, 0, 0), (0, 0, 0))] (by decide +kernel) rfl trivial ?_
      exact gx_callv (E := (92, .invokevirtual 409, 3, 266, 0, 7193, 0)) (M' := yp_m266) (c := 86) [.inl x3, .inl x4] [] rfl (by decide +kernel) rfl ⟨rfl, rfl⟩ rfl rfl (Nat.le_of_ble_eq_true rfl) (Nat.le_of_ble_eq_true rfl) (by decide +kernel) (gx_to_mono (h3 c1 c2) (fun r m' h' => gx_to_pick [0, 2, 3, 4] h'))

/-- laysFar from 95 on -/
theorem gt265_95 {xs : List Int32} {w0 : sx_W} {d : Nat} {Q : gx_Q} {m : gx_M} {x2 x3 x4 s0 : Int} (r_x2 : 0 ≤ x2 ∧ x2 ≤ 7) (r_x3 : 0 ≤ x3 ∧ x3 ≤ 7) (r_x4 : 0 ≤ x4 ∧ x4 ≤ 7)
    (h1 : (s0 = 0) → gx_to xs w0 (d + 1) yp_m265 51 [(0, .inr 86), (2, .inl x2), (3, .inl x3), (4, .inl (x4 + 1))] [] m Q)
    (h2 : (s0 ≠ 0) → gx_to xs w0 d yp_m199 0 [(0, .inl (m 117 (x3).toNat)), (1, .inl (gx_w ((m 117 (x4).toNat) + 1)))] [] m (fun r m' => gx_to xs w0 (d + 1) yp_m265 121 [(0, .inr 86), (2, .inl x2), (3, .inl x3), (4, .inl x4)] (gx_rs r ++ [.inl x3, .inr 117]) m' Q)) : gx_to xs w0 (d + 1) yp_m265 95 [(0, .inr 86), (2, .inl x2), (3, .inl x3), (4, .inl x4)] [.inl s0] m Q := by
  refine gx_if .eq 122 (by decide +kernel) (fun c1 => ?_) (fun c1 => ?_)
  · have c1 : s0 = 0 := c1
    have e1 : gx_w (x4 + 1) = x4 + 1 := gx_w_id (by omega) (by omega)
    refine gx_blk (C := True) (npc := 51) (L' := [(0, .inr 86), (2, .inl x2), (3, .inl x3), (4, .inl (gx_w (x4 + 1)))]) (st' := []) (m' := m) [((122, .iinc 4 1, 3, 0, 0, 0, 0), (0, 0, 0)), ((125, .goto (-74), 3, 0, 0, 0, 0), (0, 0, 0))] (by decide +kernel) rfl trivial ?_
    rw [e1]
    exact gx_to_pick [0, 2, 3, 4] (h1 c1)
  · have c1 : s0 ≠ 0 := c1
    refine gx_blk (C := (((True ∧ (0 ≤ x3 ∧ x3 < 8))) ∧ (0 ≤ x4 ∧ x4 < 8))) (npc := 118) (L' := [(0, .inr 86), (2, .inl x2), (3, .inl x3), (4, .inl x4)]) (st' := [.inl (gx_w ((m 117 (x4).toNat) + 1)), .inl (m 117 (x3).toNat), .inl x3, .inr 117]) (m' := m) [((98, .aload_n 0, 1, 0, 0, 0, 0), (0, 0, 0)), ((99, .getfield 101, 3, 10, 46, 5159, 0), (1, 86, 117)), ((102, .iload_n 3, 1, 0, 0, 0, 0), (0, 0, 0)), ((103, .aload_n 0, 1, 0, 0, 0, 0), (0, 0, 0)), ((104, .getfield 101, 3, 10, 46, 5159, 0), (1, 86, 117)), ((107, .iload_n 3, 1, 0, 0, 0, 0), (0, 0, 0)), ((108, .iaload, 1, 0, 0, 0, 0), (0, 117, 8)), ((109, .aload_n 0, 1, 0, 0, 0, 0), (0, 0, 0)), ((110, .getfield 101, 3, 10, 46, 5159, 0), (1, 86, 117)), ((113, .iload 4, 2, 0, 0, 0, 0), (0, 0, 0)), ((115, .iaload, 1, 0, 0, 0, 0), (0, 117, 8)), ((116, .iconst 1, 1, 0, 0, 0, 0), (0, 0, 0)), ((117, .iadd, 1, 0, 0, 0, 0), (0, 0, 0))] (by decide +kernel) rfl ⟨⟨trivial, (by omega)⟩, (by omega)⟩ ?_
    exact gx_calls (E := (118, .invokestatic 120, 3, 199, 0, 6168, 0)) (M' := yp_m199) [.inl (m 117 (x3).toNat), .inl (gx_w ((m 117 (x4).toNat) + 1))] [.inl x3, .inr 117] rfl (by decide +kernel) rfl ⟨rfl, rfl⟩ rfl rfl (Nat.le_of_ble_eq_true rfl) (Nat.le_of_ble_eq_true rfl) rfl (gx_to_mono (h2 c1) (fun r m' h' => gx_to_pick [0, 2, 3, 4] h'))

/-- laysFar from 121 on -/
theorem gt265_121 {xs : List Int32} {w0 : sx_W} {d : Nat} {Q : gx_Q} {m : gx_M} {x2 x3 x4 s1 s2 : Int} (r_x2 : 0 ≤ x2 ∧ x2 ≤ 7) (r_x3 : 0 ≤ x3 ∧ x3 ≤ 7) (r_x4 : 0 ≤ x4 ∧ x4 ≤ 7) (r_s1 : 0 ≤ s1 ∧ s1 ≤ 7)
    (h1 : gx_to xs w0 d yp_m265 51 [(0, .inr 86), (2, .inl x2), (3, .inl x3), (4, .inl (x4 + 1))] [] (gx_u m 117 (s1).toNat s2) Q) : gx_to xs w0 d yp_m265 121 [(0, .inr 86), (2, .inl x2), (3, .inl x3), (4, .inl x4)] [.inl s2, .inl s1, .inr 117] m Q := by
  have e1 : gx_w (x4 + 1) = x4 + 1 := gx_w_id (by omega) (by omega)
  refine gx_blk (C := (True ∧ (0 ≤ s1 ∧ s1 < 8))) (npc := 51) (L' := [(0, .inr 86), (2, .inl x2), (3, .inl x3), (4, .inl (gx_w (x4 + 1)))]) (st' := []) (m' := (gx_u m 117 (s1).toNat s2)) [((121, .iastore, 1, 0, 0, 0, 0), (0, 117, 8)), ((122, .iinc 4 1, 3, 0, 0, 0, 0), (0, 0, 0)), ((125, .goto (-74), 3, 0, 0, 0, 0), (0, 0, 0))] (by decide +kernel) rfl ⟨trivial, (by omega)⟩ ?_
  rw [e1]
  exact gx_to_pick [0, 2, 3, 4] h1

/-- linked from 0 on -/
theorem gt264_0 {xs : List Int32} {w0 : sx_W} {d : Nat} {Q : gx_Q} {m : gx_M} {x1 x2 x3 : Int}
    (h1 : gx_to xs w0 d yp_m164 0 [(0, .inr 86), (1, .inl x1)] [] m (fun r m' => gx_to xs w0 (d + 1) yp_m264 5 [(0, .inr 86), (1, .inl x1), (2, .inl x2), (3, .inl x3)] (gx_rs r ++ []) m' Q)) : gx_to xs w0 (d + 1) yp_m264 0 [(0, .inr 86), (1, .inl x1), (2, .inl x2), (3, .inl x3)] [] m Q := by
  refine gx_blk (C := True) (npc := 2) (L' := [(0, .inr 86), (1, .inl x1), (2, .inl x2), (3, .inl x3)]) (st' := [.inl x1, .inr 86]) (m' := m) [((0, .aload_n 0, 1, 0, 0, 0, 0), (0, 0, 0)), ((1, .iload_n 1, 1, 0, 0, 0, 0), (0, 0, 0))] (by decide +kernel) rfl trivial ?_
  exact gx_callv (E := (2, .invokevirtual 113, 3, 164, 0, 6031, 0)) (M' := yp_m164) (c := 86) [.inl x1] [] rfl (by decide +kernel) rfl ⟨rfl, rfl⟩ rfl rfl (Nat.le_of_ble_eq_true rfl) (Nat.le_of_ble_eq_true rfl) (by decide +kernel) (gx_to_mono h1 (fun r m' h' => gx_to_pick [0, 1, 2, 3] h'))

/-- linked from 5 on -/
theorem gt264_5 {xs : List Int32} {w0 : sx_W} {d : Nat} {Q : gx_Q} {m : gx_M} {x1 x2 x3 s0 : Int}
    (h1 : (s0 = 0) → Q (some (-3)) m)
    (h2 : (s0 ≠ 0) → gx_to xs w0 d yp_m164 0 [(0, .inr 86), (1, .inl x2)] [] m (fun r m' => gx_to xs w0 (d + 1) yp_m264 13 [(0, .inr 86), (1, .inl x1), (2, .inl x2), (3, .inl x3)] (gx_rs r ++ []) m' Q)) : gx_to xs w0 (d + 1) yp_m264 5 [(0, .inr 86), (1, .inl x1), (2, .inl x2), (3, .inl x3)] [.inl s0] m Q := by
  refine gx_if .eq 21 (by decide +kernel) (fun c1 => ?_) (fun c1 => ?_)
  · have c1 : s0 = 0 := c1
    refine gx_blk (C := True) (npc := 23) (L' := [(0, .inr 86), (1, .inl x1), (2, .inl x2), (3, .inl x3)]) (st' := [.inl (-3)]) (m' := m) [((21, .bipush (-3), 2, 0, 0, 0, 0), (0, 0, 0))] (by decide +kernel) rfl trivial ?_
    exact gx_reti (by decide +kernel) (h1 c1)
  · have c1 : s0 ≠ 0 := c1
    refine gx_blk (C := True) (npc := 10) (L' := [(0, .inr 86), (1, .inl x1), (2, .inl x2), (3, .inl x3)]) (st' := [.inl x2, .inr 86]) (m' := m) [((8, .aload_n 0, 1, 0, 0, 0, 0), (0, 0, 0)), ((9, .iload_n 2, 1, 0, 0, 0, 0), (0, 0, 0))] (by decide +kernel) rfl trivial ?_
    exact gx_callv (E := (10, .invokevirtual 113, 3, 164, 0, 6031, 0)) (M' := yp_m164) (c := 86) [.inl x2] [] rfl (by decide +kernel) rfl ⟨rfl, rfl⟩ rfl rfl (Nat.le_of_ble_eq_true rfl) (Nat.le_of_ble_eq_true rfl) (by decide +kernel) (gx_to_mono (h2 c1) (fun r m' h' => gx_to_pick [0, 1, 2, 3] h'))

/-- linked from 13 on -/
theorem gt264_13 {xs : List Int32} {w0 : sx_W} {d : Nat} {Q : gx_Q} {m : gx_M} {x1 x2 x3 s0 : Int}
    (h1 : (s0 = 0) → Q (some (-3)) m)
    (h2 : (s0 ≠ 0) → ((-1) ≤ x3) → gx_to xs w0 d yp_m265 0 [(0, .inr 86), (1, .inl x2)] [] m (fun r m' => gx_to xs w0 (d + 1) yp_m264 29 [(0, .inr 86), (1, .inl x1), (3, .inl x3)] (gx_rs r ++ []) m' Q))
    (h3 : (s0 ≠ 0) → (x3 < (-1)) → Q (some (-3)) m) : gx_to xs w0 (d + 1) yp_m264 13 [(0, .inr 86), (1, .inl x1), (2, .inl x2), (3, .inl x3)] [.inl s0] m Q := by
  refine gx_if .eq 21 (by decide +kernel) (fun c1 => ?_) (fun c1 => ?_)
  · have c1 : s0 = 0 := c1
    refine gx_blk (C := True) (npc := 23) (L' := [(0, .inr 86), (1, .inl x1), (2, .inl x2), (3, .inl x3)]) (st' := [.inl (-3)]) (m' := m) [((21, .bipush (-3), 2, 0, 0, 0, 0), (0, 0, 0))] (by decide +kernel) rfl trivial ?_
    exact gx_reti (by decide +kernel) (h1 c1)
  · have c1 : s0 ≠ 0 := c1
    refine gx_blk (C := True) (npc := 18) (L' := [(0, .inr 86), (1, .inl x1), (2, .inl x2), (3, .inl x3)]) (st' := [.inl (-1), .inl x3]) (m' := m) [((16, .iload_n 3, 1, 0, 0, 0, 0), (0, 0, 0)), ((17, .iconst (-1), 1, 0, 0, 0, 0), (0, 0, 0))] (by decide +kernel) rfl trivial ?_
    refine gx_cmp .ge 24 (by decide +kernel) (fun c2 => ?_) (fun c2 => ?_)
    · have c2 : (-1) ≤ x3 := c2
      refine gx_blk (C := True) (npc := 26) (L' := [(0, .inr 86), (1, .inl x1), (2, .inl x2), (3, .inl x3)]) (st' := [.inl x2, .inr 86]) (m' := m) [((24, .aload_n 0, 1, 0, 0, 0, 0), (0, 0, 0)), ((25, .iload_n 2, 1, 0, 0, 0, 0), (0, 0, 0))] (by decide +kernel) rfl trivial ?_
      exact gx_callv (E := (26, .invokevirtual 412, 3, 265, 0, 7189, 0)) (M' := yp_m265) (c := 86) [.inl x2] [] rfl (by decide +kernel) rfl ⟨rfl, rfl⟩ rfl rfl (Nat.le_of_ble_eq_true rfl) (Nat.le_of_ble_eq_true rfl) (by decide +kernel) (gx_to_mono (h2 c1 c2) (fun r m' h' => gx_to_pick [0, 1, 3] h'))
    · have c2 : x3 < (-1) := by have h : ¬ ((-1) ≤ x3) := c2; omega
      refine gx_blk (C := True) (npc := 23) (L' := [(0, .inr 86), (1, .inl x1), (2, .inl x2), (3, .inl x3)]) (st' := [.inl (-3)]) (m' := m) [((21, .bipush (-3), 2, 0, 0, 0, 0), (0, 0, 0))] (by decide +kernel) rfl trivial ?_
      exact gx_reti (by decide +kernel) (h3 c1 c2)

/-- linked from 29 on -/
theorem gt264_29 {xs : List Int32} {w0 : sx_W} {d : Nat} {Q : gx_Q} {m : gx_M} {x1 x3 : Int} (r_x1 : 0 ≤ x1 ∧ x1 ≤ 7)
    (h1 : ((m 117 (x1).toNat) ≠ 1000000000) → (x3 ≠ (-1)) → (x3 ≤ (m 117 (x1).toNat)) → gx_to xs w0 d yp_m264 75 [(0, .inr 86), (3, .inl x3), (4, .inl x1), (5, .inl 0)] [] m Q)
    (h2 : ((m 117 (x1).toNat) ≠ 1000000000) → (x3 ≠ (-1)) → ((m 117 (x1).toNat) < x3) → Q (some (-3)) m)
    (h3 : ((m 117 (x1).toNat) ≠ 1000000000) → (x3 = (-1)) → Q (some (m 117 (x1).toNat)) m)
    (h4 : ((m 117 (x1).toNat) = 1000000000) → Q (some (-2)) m) : gx_to xs w0 d yp_m264 29 [(0, .inr 86), (1, .inl x1), (3, .inl x3)] [] m Q := by
  refine gx_blk (C := (True ∧ (0 ≤ x1 ∧ x1 < 8))) (npc := 38) (L' := [(0, .inr 86), (1, .inl x1), (3, .inl x3)]) (st' := [.inl 1000000000, .inl (m 117 (x1).toNat)]) (m' := m) [((29, .aload_n 0, 1, 0, 0, 0, 0), (0, 0, 0)), ((30, .getfield 101, 3, 10, 46, 5159, 0), (1, 86, 117)), ((33, .iload_n 1, 1, 0, 0, 0, 0), (0, 0, 0)), ((34, .iaload, 1, 0, 0, 0, 0), (0, 117, 8)), ((35, .ldc_w 333, 3, 0, 0, 7076, 1000000000), (0, 0, 0))] (by decide +kernel) rfl ⟨trivial, (by omega)⟩ ?_
  refine gx_cmp .ne 44 (by decide +kernel) (fun c1 => ?_) (fun c1 => ?_)
  · have c1 : (m 117 (x1).toNat) ≠ 1000000000 := c1
    refine gx_blk (C := True) (npc := 46) (L' := [(0, .inr 86), (1, .inl x1), (3, .inl x3)]) (st' := [.inl (-1), .inl x3]) (m' := m) [((44, .iload_n 3, 1, 0, 0, 0, 0), (0, 0, 0)), ((45, .iconst (-1), 1, 0, 0, 0, 0), (0, 0, 0))] (by decide +kernel) rfl trivial ?_
    refine gx_cmp .ne 56 (by decide +kernel) (fun c2 => ?_) (fun c2 => ?_)
    · have c2 : x3 ≠ (-1) := c2
      refine gx_blk (C := (True ∧ (0 ≤ x1 ∧ x1 < 8))) (npc := 63) (L' := [(0, .inr 86), (1, .inl x1), (3, .inl x3)]) (st' := [.inl (m 117 (x1).toNat), .inl x3]) (m' := m) [((56, .iload_n 3, 1, 0, 0, 0, 0), (0, 0, 0)), ((57, .aload_n 0, 1, 0, 0, 0, 0), (0, 0, 0)), ((58, .getfield 101, 3, 10, 46, 5159, 0), (1, 86, 117)), ((61, .iload_n 1, 1, 0, 0, 0, 0), (0, 0, 0)), ((62, .iaload, 1, 0, 0, 0, 0), (0, 117, 8))] (by decide +kernel) rfl ⟨trivial, (by omega)⟩ ?_
      refine gx_cmp .le 69 (by decide +kernel) (fun c3 => ?_) (fun c3 => ?_)
      · have c3 : x3 ≤ (m 117 (x1).toNat) := c3
        refine gx_blk (C := True) (npc := 75) (L' := [(0, .inr 86), (1, .inl x1), (3, .inl x3), (4, .inl x1), (5, .inl 0)]) (st' := []) (m' := m) [((69, .iload_n 1, 1, 0, 0, 0, 0), (0, 0, 0)), ((70, .istore 4, 2, 0, 0, 0, 0), (0, 0, 0)), ((72, .iconst 0, 1, 0, 0, 0, 0), (0, 0, 0)), ((73, .istore 5, 2, 0, 0, 0, 0), (0, 0, 0))] (by decide +kernel) rfl trivial ?_
        exact gx_to_pick [0, 3, 4, 5] (h1 c1 c2 c3)
      · have c3 : (m 117 (x1).toNat) < x3 := by have h : ¬ (x3 ≤ (m 117 (x1).toNat)) := c3; omega
        refine gx_blk (C := True) (npc := 68) (L' := [(0, .inr 86), (1, .inl x1), (3, .inl x3)]) (st' := [.inl (-3)]) (m' := m) [((66, .bipush (-3), 2, 0, 0, 0, 0), (0, 0, 0))] (by decide +kernel) rfl trivial ?_
        exact gx_reti (by decide +kernel) (h2 c1 c2 c3)
    · have c2 : x3 = (-1) := by have h : ¬ (x3 ≠ (-1)) := c2; omega
      refine gx_blk (C := (True ∧ (0 ≤ x1 ∧ x1 < 8))) (npc := 55) (L' := [(0, .inr 86), (1, .inl x1), (3, .inl x3)]) (st' := [.inl (m 117 (x1).toNat)]) (m' := m) [((49, .aload_n 0, 1, 0, 0, 0, 0), (0, 0, 0)), ((50, .getfield 101, 3, 10, 46, 5159, 0), (1, 86, 117)), ((53, .iload_n 1, 1, 0, 0, 0, 0), (0, 0, 0)), ((54, .iaload, 1, 0, 0, 0, 0), (0, 117, 8))] (by decide +kernel) rfl ⟨trivial, (by omega)⟩ ?_
      exact gx_reti (by decide +kernel) (h3 c1 c2)
  · have c1 : (m 117 (x1).toNat) = 1000000000 := by have h : ¬ ((m 117 (x1).toNat) ≠ 1000000000) := c1; omega
    refine gx_blk (C := True) (npc := 43) (L' := [(0, .inr 86), (1, .inl x1), (3, .inl x3)]) (st' := [.inl (-2)]) (m' := m) [((41, .bipush (-2), 2, 0, 0, 0, 0), (0, 0, 0))] (by decide +kernel) rfl trivial ?_
    exact gx_reti (by decide +kernel) (h4 c1)

/-- linked from 75 on -/
theorem gt264_75 {xs : List Int32} {w0 : sx_W} {d : Nat} {Q : gx_Q} {m : gx_M} {x3 x4 x5 : Int} (r_x5 : 0 ≤ x5 ∧ x5 ≤ 8)
    (h1 : (x3 ≤ x5) → Q (some x4) m)
    (h2 : (x5 < x3) → gx_to xs w0 d yp_m264 84 [(0, .inr 86), (3, .inl x3), (4, .inl x4), (5, .inl x5), (6, .inl 0)] [] m Q) : gx_to xs w0 d yp_m264 75 [(0, .inr 86), (3, .inl x3), (4, .inl x4), (5, .inl x5)] [] m Q := by
  refine gx_blk (C := True) (npc := 78) (L' := [(0, .inr 86), (3, .inl x3), (4, .inl x4), (5, .inl x5)]) (st' := [.inl x3, .inl x5]) (m' := m) [((75, .iload 5, 2, 0, 0, 0, 0), (0, 0, 0)), ((77, .iload_n 3, 1, 0, 0, 0, 0), (0, 0, 0))] (by decide +kernel) rfl trivial ?_
  refine gx_cmp .ge 133 (by decide +kernel) (fun c1 => ?_) (fun c1 => ?_)
  · have c1 : x3 ≤ x5 := c1
    refine gx_blk (C := True) (npc := 135) (L' := [(0, .inr 86), (3, .inl x3), (4, .inl x4), (5, .inl x5)]) (st' := [.inl x4]) (m' := m) [((133, .iload 4, 2, 0, 0, 0, 0), (0, 0, 0))] (by decide +kernel) rfl trivial ?_
    exact gx_reti (by decide +kernel) (h1 c1)
  · have c1 : x5 < x3 := by have h : ¬ (x3 ≤ x5) := c1; omega
    refine gx_blk (C := True) (npc := 84) (L' := [(0, .inr 86), (3, .inl x3), (4, .inl x4), (5, .inl x5), (6, .inl 0)]) (st' := []) (m' := m) [((81, .iconst 0, 1, 0, 0, 0, 0), (0, 0, 0)), ((82, .istore 6, 2, 0, 0, 0, 0), (0, 0, 0))] (by decide +kernel) rfl trivial ?_
    exact gx_to_pick [0, 3, 4, 5, 6] (h2 c1)

/-- linked from 84 on -/
theorem gt264_84 {xs : List Int32} {w0 : sx_W} {d : Nat} {Q : gx_Q} {m : gx_M} {x3 x4 x5 x6 : Int} (r_x4 : 0 ≤ x4 ∧ x4 ≤ 7) (r_x5 : 0 ≤ x5 ∧ x5 ≤ 7) (r_x6 : 0 ≤ x6 ∧ x6 ≤ 7)
    (h1 : ((m 117 (x6).toNat) ≠ (gx_w ((m 117 (x4).toNat) - 1))) → gx_to xs w0 (d + 1) yp_m264 84 [(0, .inr 86), (3, .inl x3), (4, .inl x4), (5, .inl x5), (6, .inl (x6 + 1))] [] m Q)
    (h2 : ((m 117 (x6).toNat) = (gx_w ((m 117 (x4).toNat) - 1))) → gx_to xs w0 d yp_m266 0 [(0, .inr 86), (1, .inl x4), (2, .inl x6)] [] m (fun r m' => gx_to xs w0 (d + 1) yp_m264 111 [(0, .inr 86), (3, .inl x3), (4, .inl x4), (5, .inl x5), (6, .inl x6)] (gx_rs r ++ []) m' Q)) : gx_to xs w0 (d + 1) yp_m264 84 [(0, .inr 86), (3, .inl x3), (4, .inl x4), (5, .inl x5), (6, .inl x6)] [] m Q := by
  refine gx_blk (C := (((True ∧ (0 ≤ x6 ∧ x6 < 8))) ∧ (0 ≤ x4 ∧ x4 < 8))) (npc := 100) (L' := [(0, .inr 86), (3, .inl x3), (4, .inl x4), (5, .inl x5), (6, .inl x6)]) (st' := [.inl (gx_w ((m 117 (x4).toNat) - 1)), .inl (m 117 (x6).toNat)]) (m' := m) [((84, .aload_n 0, 1, 0, 0, 0, 0), (0, 0, 0)), ((85, .getfield 101, 3, 10, 46, 5159, 0), (1, 86, 117)), ((88, .iload 6, 2, 0, 0, 0, 0), (0, 0, 0)), ((90, .iaload, 1, 0, 0, 0, 0), (0, 117, 8)), ((91, .aload_n 0, 1, 0, 0, 0, 0), (0, 0, 0)), ((92, .getfield 101, 3, 10, 46, 5159, 0), (1, 86, 117)), ((95, .iload 4, 2, 0, 0, 0, 0), (0, 0, 0)), ((97, .iaload, 1, 0, 0, 0, 0), (0, 117, 8)), ((98, .iconst 1, 1, 0, 0, 0, 0), (0, 0, 0)), ((99, .isub, 1, 0, 0, 0, 0), (0, 0, 0))] (by decide +kernel) rfl ⟨⟨trivial, (by omega)⟩, (by omega)⟩ ?_
  refine gx_cmp .ne 114 (by decide +kernel) (fun c1 => ?_) (fun c1 => ?_)
  · have c1 : (m 117 (x6).toNat) ≠ (gx_w ((m 117 (x4).toNat) - 1)) := c1
    have e1 : gx_w (x6 + 1) = x6 + 1 := gx_w_id (by omega) (by omega)
    refine gx_blk (C := True) (npc := 84) (L' := [(0, .inr 86), (3, .inl x3), (4, .inl x4), (5, .inl x5), (6, .inl (gx_w (x6 + 1)))]) (st' := []) (m' := m) [((114, .iload 6, 2, 0, 0, 0, 0), (0, 0, 0)), ((116, .iconst 1, 1, 0, 0, 0, 0), (0, 0, 0)), ((117, .iadd, 1, 0, 0, 0, 0), (0, 0, 0)), ((118, .istore 6, 2, 0, 0, 0, 0), (0, 0, 0)), ((120, .goto (-36), 3, 0, 0, 0, 0), (0, 0, 0))] (by decide +kernel) rfl trivial ?_
    rw [e1]
    exact gx_to_pick [0, 3, 4, 5, 6] (h1 c1)
  · have c1 : (m 117 (x6).toNat) = (gx_w ((m 117 (x4).toNat) - 1)) := by have h : ¬ ((m 117 (x6).toNat) ≠ (gx_w ((m 117 (x4).toNat) - 1))) := c1; omega
    refine gx_blk (C := True) (npc := 108) (L' := [(0, .inr 86), (3, .inl x3), (4, .inl x4), (5, .inl x5), (6, .inl x6)]) (st' := [.inl x6, .inl x4, .inr 86]) (m' := m) [((103, .aload_n 0, 1, 0, 0, 0, 0), (0, 0, 0)), ((104, .iload 4, 2, 0, 0, 0, 0), (0, 0, 0)), ((106, .iload 6, 2, 0, 0, 0, 0), (0, 0, 0))] (by decide +kernel) rfl trivial ?_
    exact gx_callv (E := (108, .invokevirtual 409, 3, 266, 0, 7193, 0)) (M' := yp_m266) (c := 86) [.inl x4, .inl x6] [] rfl (by decide +kernel) rfl ⟨rfl, rfl⟩ rfl rfl (Nat.le_of_ble_eq_true rfl) (Nat.le_of_ble_eq_true rfl) (by decide +kernel) (gx_to_mono (h2 c1) (fun r m' h' => gx_to_pick [0, 3, 4, 5, 6] h'))

/-- linked from 111 on -/
theorem gt264_111 {xs : List Int32} {w0 : sx_W} {d : Nat} {Q : gx_Q} {m : gx_M} {x3 x4 x5 x6 s0 : Int} (r_x4 : 0 ≤ x4 ∧ x4 ≤ 7) (r_x5 : 0 ≤ x5 ∧ x5 ≤ 7) (r_x6 : 0 ≤ x6 ∧ x6 ≤ 7)
    (h1 : (s0 ≠ 0) → gx_to xs w0 d yp_m264 75 [(0, .inr 86), (3, .inl x3), (4, .inl x6), (5, .inl (x5 + 1))] [] m Q)
    (h2 : (s0 = 0) → gx_to xs w0 d yp_m264 84 [(0, .inr 86), (3, .inl x3), (4, .inl x4), (5, .inl x5), (6, .inl (x6 + 1))] [] m Q) : gx_to xs w0 d yp_m264 111 [(0, .inr 86), (3, .inl x3), (4, .inl x4), (5, .inl x5), (6, .inl x6)] [.inl s0] m Q := by
  refine gx_if .ne 123 (by decide +kernel) (fun c1 => ?_) (fun c1 => ?_)
  · have c1 : s0 ≠ 0 := c1
    have e1 : gx_w (x5 + 1) = x5 + 1 := gx_w_id (by omega) (by omega)
    refine gx_blk (C := True) (npc := 75) (L' := [(0, .inr 86), (3, .inl x3), (4, .inl x6), (5, .inl (gx_w (x5 + 1))), (6, .inl x6)]) (st' := []) (m' := m) [((123, .iload 6, 2, 0, 0, 0, 0), (0, 0, 0)), ((125, .istore 4, 2, 0, 0, 0, 0), (0, 0, 0)), ((127, .iinc 5 1, 3, 0, 0, 0, 0), (0, 0, 0)), ((130, .goto (-55), 3, 0, 0, 0, 0), (0, 0, 0))] (by decide +kernel) rfl trivial ?_
    rw [e1]
    exact gx_to_pick [0, 3, 4, 5] (h1 c1)
  · have c1 : s0 = 0 := by have h : ¬ (s0 ≠ 0) := c1; omega
    have e2 : gx_w (x6 + 1) = x6 + 1 := gx_w_id (by omega) (by omega)
    refine gx_blk (C := True) (npc := 84) (L' := [(0, .inr 86), (3, .inl x3), (4, .inl x4), (5, .inl x5), (6, .inl (gx_w (x6 + 1)))]) (st' := []) (m' := m) [((114, .iload 6, 2, 0, 0, 0, 0), (0, 0, 0)), ((116, .iconst 1, 1, 0, 0, 0, 0), (0, 0, 0)), ((117, .iadd, 1, 0, 0, 0, 0), (0, 0, 0)), ((118, .istore 6, 2, 0, 0, 0, 0), (0, 0, 0)), ((120, .goto (-36), 3, 0, 0, 0, 0), (0, 0, 0))] (by decide +kernel) rfl trivial ?_
    rw [e2]
    exact gx_to_pick [0, 3, 4, 5, 6] (h2 c1)

