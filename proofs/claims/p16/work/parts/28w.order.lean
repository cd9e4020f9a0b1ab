/-! roads of methods read by hand, from cut points to the next ones (printed by wip/gen/gxall.py) -/
/-- areDone from 0 on -/
theorem gt214_0 {xs : List Int32} {w0 : sx_W} {d : Nat} {Q : gx_Q} {m : gx_M} (g0 : 0 ≤ (m 86 32) ∧ (m 86 32) ≤ 6)
    (h1 : gx_to xs w0 d yp_m214 4 [(0, .inr 86), (1, .inl 1), (2, .inl 0)] [] m Q) : gx_to xs w0 d yp_m214 0 [(0, .inr 86)] [] m Q := by
  refine gx_blk (C := True) (npc := 4) (L' := [(0, .inr 86), (1, .inl 1), (2, .inl 0)]) (st' := []) (m' := m) [((0, .iconst 1, 1, 0, 0, 0, 0), (0, 0, 0)), ((1, .istore_n 1, 1, 0, 0, 0, 0), (0, 0, 0)), ((2, .iconst 0, 1, 0, 0, 0, 0), (0, 0, 0)), ((3, .istore_n 2, 1, 0, 0, 0, 0), (0, 0, 0))] (by decide +kernel) rfl trivial ?_
  exact gx_to_pick [0, 1, 2] h1

/-- areDone from 4 on -/
theorem gt214_4 {xs : List Int32} {w0 : sx_W} {d : Nat} {Q : gx_Q} {m : gx_M} {x1 x2 : Int} (hI : gx_I m) (r_x1 : 0 ≤ x1 ∧ x1 ≤ 1) (r_x2 : 0 ≤ x2 ∧ x2 ≤ 6) (g2 : 0 ≤ (m 86 32) ∧ (m 86 32) ≤ 6)
    (h1 : ((m 86 32) ≤ x2) → gx_to xs w0 d yp_m212 0 [(0, .inr 88), (1, .inr 87)] [] m (fun r m' => gx_to xs w0 (d + 1) yp_m214 44 [(1, .inl x1)] (gx_rs r ++ []) m' Q))
    (h2 : (x2 < (m 86 32)) → (x1 = 0) → gx_to xs w0 d yp_m212 0 [(0, .inr 88), (1, .inr 87)] [] m (fun r m' => gx_to xs w0 (d + 1) yp_m214 44 [(1, .inl x1)] (gx_rs r ++ []) m' Q))
    (h3 : (x2 < (m 86 32)) → (x1 ≠ 0) → gx_to xs w0 d yp_m195 0 [(0, .inr 86), (1, .inl (m 109 (x2).toNat))] [] m (fun r m' => gx_to xs w0 (d + 1) yp_m214 26 [(0, .inr 86), (2, .inl x2)] (gx_rs r ++ []) m' Q)) : gx_to xs w0 (d + 1) yp_m214 4 [(0, .inr 86), (1, .inl x1), (2, .inl x2)] [] m Q := by
  have f1 := gx_I_n hI 86 32 0 16 (by decide +kernel)
  refine gx_blk (C := True) (npc := 9) (L' := [(0, .inr 86), (1, .inl x1), (2, .inl x2)]) (st' := [.inl (m 86 32), .inl x2]) (m' := m) [((4, .iload_n 2, 1, 0, 0, 0, 0), (0, 0, 0)), ((5, .aload_n 0, 1, 0, 0, 0, 0), (0, 0, 0)), ((6, .getfield 254, 3, 10, 32, 5145, 0), (0, 86, 0))] (by decide +kernel) rfl trivial ?_
  refine gx_cmp .ge 33 (by decide +kernel) (fun c1 => ?_) (fun c1 => ?_)
  · have c1 : (m 86 32) ≤ x2 := c1
    refine gx_blk (C := True) (npc := 41) (L' := [(0, .inr 86), (1, .inl x1), (2, .inl x2)]) (st' := [.inr 87, .inr 88]) (m' := m) [((33, .aload_n 0, 1, 0, 0, 0, 0), (0, 0, 0)), ((34, .getfield 13, 3, 10, 1, 5114, 0), (1, 86, 88)), ((37, .aload_n 0, 1, 0, 0, 0, 0), (0, 0, 0)), ((38, .getfield 7, 3, 10, 0, 5113, 0), (1, 86, 87))] (by decide +kernel) rfl trivial ?_
    exact gx_calls (E := (41, .invokestatic 290, 3, 212, 0, 6217, 0)) (M' := yp_m212) [.inr 88, .inr 87] [] rfl (by decide +kernel) rfl ⟨rfl, rfl⟩ rfl rfl (Nat.le_of_ble_eq_true rfl) (Nat.le_of_ble_eq_true rfl) rfl (gx_to_mono (h1 c1) (fun r m' h' => gx_to_pick [1] h'))
  · have c1 : x2 < (m 86 32) := by have h : ¬ ((m 86 32) ≤ x2) := c1; omega
    refine gx_blk (C := True) (npc := 13) (L' := [(0, .inr 86), (1, .inl x1), (2, .inl x2)]) (st' := [.inl x1]) (m' := m) [((12, .iload_n 1, 1, 0, 0, 0, 0), (0, 0, 0))] (by decide +kernel) rfl trivial ?_
    refine gx_if .eq 33 (by decide +kernel) (fun c2 => ?_) (fun c2 => ?_)
    · have c2 : x1 = 0 := c2
      refine gx_blk (C := True) (npc := 41) (L' := [(0, .inr 86), (1, .inl x1), (2, .inl x2)]) (st' := [.inr 87, .inr 88]) (m' := m) [((33, .aload_n 0, 1, 0, 0, 0, 0), (0, 0, 0)), ((34, .getfield 13, 3, 10, 1, 5114, 0), (1, 86, 88)), ((37, .aload_n 0, 1, 0, 0, 0, 0), (0, 0, 0)), ((38, .getfield 7, 3, 10, 0, 5113, 0), (1, 86, 87))] (by decide +kernel) rfl trivial ?_
      exact gx_calls (E := (41, .invokestatic 290, 3, 212, 0, 6217, 0)) (M' := yp_m212) [.inr 88, .inr 87] [] rfl (by decide +kernel) rfl ⟨rfl, rfl⟩ rfl rfl (Nat.le_of_ble_eq_true rfl) (Nat.le_of_ble_eq_true rfl) rfl (gx_to_mono (h2 c1 c2) (fun r m' h' => gx_to_pick [1] h'))
    · have c2 : x1 ≠ 0 := c2
      have f2 := gx_I_at hI 109 (z := x2) 0 5 0 5 (by decide +kernel) (by omega) (by omega)
      refine gx_blk (C := (True ∧ (0 ≤ x2 ∧ x2 < 6))) (npc := 23) (L' := [(0, .inr 86), (1, .inl x1), (2, .inl x2)]) (st' := [.inl (m 109 (x2).toNat), .inr 86]) (m' := m) [((16, .aload_n 0, 1, 0, 0, 0, 0), (0, 0, 0)), ((17, .aload_n 0, 1, 0, 0, 0, 0), (0, 0, 0)), ((18, .getfield 77, 3, 10, 33, 5146, 0), (1, 86, 109)), ((21, .iload_n 2, 1, 0, 0, 0, 0), (0, 0, 0)), ((22, .iaload, 1, 0, 0, 0, 0), (0, 109, 6))] (by decide +kernel) rfl ⟨trivial, (by omega)⟩ ?_
      exact gx_callv (E := (23, .invokevirtual 287, 3, 195, 0, 6152, 0)) (M' := yp_m195) (c := 86) [.inl (m 109 (x2).toNat)] [] rfl (by decide +kernel) rfl ⟨rfl, rfl⟩ rfl rfl (Nat.le_of_ble_eq_true rfl) (Nat.le_of_ble_eq_true rfl) (by decide +kernel) (gx_to_mono (h3 c1 c2) (fun r m' h' => gx_to_pick [0, 2] h'))

/-- areDone from 26 on -/
theorem gt214_26 {xs : List Int32} {w0 : sx_W} {d : Nat} {Q : gx_Q} {m : gx_M} {x2 s0 : Int} (r_x2 : 0 ≤ x2 ∧ x2 ≤ 5) (g1 : 0 ≤ (m 86 32) ∧ (m 86 32) ≤ 6)
    (h1 : gx_to xs w0 d yp_m214 4 [(0, .inr 86), (1, .inl s0), (2, .inl (x2 + 1))] [] m Q) : gx_to xs w0 d yp_m214 26 [(0, .inr 86), (2, .inl x2)] [.inl s0] m Q := by
  have e1 : gx_w (x2 + 1) = x2 + 1 := gx_w_id (by omega) (by omega)
  refine gx_blk (C := True) (npc := 4) (L' := [(0, .inr 86), (2, .inl (gx_w (x2 + 1))), (1, .inl s0)]) (st' := []) (m' := m) [((26, .istore_n 1, 1, 0, 0, 0, 0), (0, 0, 0)), ((27, .iinc 2 1, 3, 0, 0, 0, 0), (0, 0, 0)), ((30, .goto (-26), 3, 0, 0, 0, 0), (0, 0, 0))] (by decide +kernel) rfl trivial ?_
  rw [e1]
  exact gx_to_pick [0, 1, 2] h1

/-- areDone from 44 on -/
theorem gt214_44 {xs : List Int32} {w0 : sx_W} {d : Nat} {Q : gx_Q} {m : gx_M} {x1 : Int} (r_x1 : 0 ≤ x1 ∧ x1 ≤ 1) (g1 : 0 ≤ (m 86 32) ∧ (m 86 32) ≤ 6)
    (h1 : Q (some x1) m) : gx_to xs w0 d yp_m214 44 [(1, .inl x1)] [] m Q := by
  refine gx_blk (C := True) (npc := 45) (L' := [(1, .inl x1)]) (st' := [.inl x1]) (m' := m) [((44, .iload_n 1, 1, 0, 0, 0, 0), (0, 0, 0))] (by decide +kernel) rfl trivial ?_
  exact gx_retb (by decide +kernel) (by omega) h1

/-- swaps from 0 on -/
theorem gt216_0 {xs : List Int32} {w0 : sx_W} {d : Nat} {Q : gx_Q} {m : gx_M} {x1 x2 : Int} (hI : gx_I m) (r_x1 : 0 ≤ x1 ∧ x1 ≤ 5) (r_x2 : 0 ≤ x2 ∧ x2 ≤ 5)
    (h1 : Q none (gx_u (gx_u m 109 (x1).toNat (m 109 (x2).toNat)) 109 (x2).toNat (m 109 (x1).toNat))) : gx_to xs w0 d yp_m216 0 [(0, .inr 86), (1, .inl x1), (2, .inl x2)] [] m Q := by
  have f1 := gx_I_at hI 109 (z := x1) 0 5 0 5 (by decide +kernel) (by omega) (by omega)
  have f2 := gx_I_at hI 109 (z := x2) 0 5 0 5 (by decide +kernel) (by omega) (by omega)
  refine gx_blk (C := (((((((True ∧ (0 ≤ x1 ∧ x1 < 6))) ∧ (0 ≤ x2 ∧ x2 < 6))) ∧ (0 ≤ x1 ∧ x1 < 6))) ∧ (0 ≤ x2 ∧ x2 < 6))) (npc := 26) (L' := [(0, .inr 86), (1, .inl x1), (2, .inl x2), (3, .inl (m 109 (x1).toNat))]) (st' := []) (m' := (gx_u (gx_u m 109 (x1).toNat (m 109 (x2).toNat)) 109 (x2).toNat (m 109 (x1).toNat))) [((0, .aload_n 0, 1, 0, 0, 0, 0), (0, 0, 0)), ((1, .getfield 77, 3, 10, 33, 5146, 0), (1, 86, 109)), ((4, .iload_n 1, 1, 0, 0, 0, 0), (0, 0, 0)), ((5, .iaload, 1, 0, 0, 0, 0), (0, 109, 6)), ((6, .istore_n 3, 1, 0, 0, 0, 0), (0, 0, 0)), ((7, .aload_n 0, 1, 0, 0, 0, 0), (0, 0, 0)), ((8, .getfield 77, 3, 10, 33, 5146, 0), (1, 86, 109)), ((11, .iload_n 1, 1, 0, 0, 0, 0), (0, 0, 0)), ((12, .aload_n 0, 1, 0, 0, 0, 0), (0, 0, 0)), ((13, .getfield 77, 3, 10, 33, 5146, 0), (1, 86, 109)), ((16, .iload_n 2, 1, 0, 0, 0, 0), (0, 0, 0)), ((17, .iaload, 1, 0, 0, 0, 0), (0, 109, 6)), ((18, .iastore, 1, 0, 0, 0, 0), (0, 109, 6)), ((19, .aload_n 0, 1, 0, 0, 0, 0), (0, 0, 0)), ((20, .getfield 77, 3, 10, 33, 5146, 0), (1, 86, 109)), ((23, .iload_n 2, 1, 0, 0, 0, 0), (0, 0, 0)), ((24, .iload_n 3, 1, 0, 0, 0, 0), (0, 0, 0)), ((25, .iastore, 1, 0, 0, 0, 0), (0, 109, 6))] (by decide +kernel) rfl ⟨⟨⟨⟨trivial, (by omega)⟩, (by omega)⟩, (by omega)⟩, (by omega)⟩ ?_
  exact gx_ret0 (by decide +kernel) h1

/-- goesToNext from 0 on -/
theorem gt215_0 {xs : List Int32} {w0 : sx_W} {d : Nat} {Q : gx_Q} {m : gx_M} (hI : gx_I m) (g0 : 0 ≤ (m 86 32) ∧ (m 86 32) ≤ 6)
    (h1 : gx_to xs w0 d yp_m215 7 [(0, .inr 86), (1, .inl ((m 86 32) - 2))] [] m Q) : gx_to xs w0 d yp_m215 0 [(0, .inr 86)] [] m Q := by
  have f1 := gx_I_n hI 86 32 0 16 (by decide +kernel)
  have e2 : gx_w ((m 86 32) - 2) = (m 86 32) - 2 := gx_w_id (by omega) (by omega)
  refine gx_blk (C := True) (npc := 7) (L' := [(0, .inr 86), (1, .inl (gx_w ((m 86 32) - 2)))]) (st' := []) (m' := m) [((0, .aload_n 0, 1, 0, 0, 0, 0), (0, 0, 0)), ((1, .getfield 254, 3, 10, 32, 5145, 0), (0, 86, 0)), ((4, .iconst 2, 1, 0, 0, 0, 0), (0, 0, 0)), ((5, .isub, 1, 0, 0, 0, 0), (0, 0, 0)), ((6, .istore_n 1, 1, 0, 0, 0, 0), (0, 0, 0))] (by decide +kernel) rfl trivial ?_
  rw [e2]
  exact gx_to_pick [0, 1] h1

/-- goesToNext from 7 on -/
theorem gt215_7 {xs : List Int32} {w0 : sx_W} {d : Nat} {Q : gx_Q} {m : gx_M} {x1 : Int} (hI : gx_I m) (r_x1 : (-2) ≤ x1 ∧ x1 ≤ 4) (g1 : 0 ≤ (m 86 32) ∧ (m 86 32) ≤ 6)
    (h1 : (x1 < 0) → (x1 < 0) → Q (some 0) m)
    (h2 : (0 ≤ x1) → ((m 109 (x1).toNat) ≤ (m 109 (x1 + 1).toNat)) → (0 ≤ x1) → gx_to xs w0 d yp_m215 48 [(0, .inr 86), (1, .inl x1), (2, .inl ((m 86 32) - 1))] [] m Q)
    (h3 : (0 ≤ x1) → ((m 109 (x1 + 1).toNat) < (m 109 (x1).toNat)) → gx_to xs w0 d yp_m215 7 [(0, .inr 86), (1, .inl (x1 - 1))] [] m Q) : gx_to xs w0 d yp_m215 7 [(0, .inr 86), (1, .inl x1)] [] m Q := by
  refine gx_blk (C := True) (npc := 8) (L' := [(0, .inr 86), (1, .inl x1)]) (st' := [.inl x1]) (m' := m) [((7, .iload_n 1, 1, 0, 0, 0, 0), (0, 0, 0))] (by decide +kernel) rfl trivial ?_
  refine gx_if .lt 35 (by decide +kernel) (fun c1 => ?_) (fun c1 => ?_)
  · have c1 : x1 < 0 := c1
    refine gx_blk (C := True) (npc := 36) (L' := [(0, .inr 86), (1, .inl x1)]) (st' := [.inl x1]) (m' := m) [((35, .iload_n 1, 1, 0, 0, 0, 0), (0, 0, 0))] (by decide +kernel) rfl trivial ?_
    refine gx_if .ge 41 (by decide +kernel) (fun c2 => ?_) (fun c2 => ?_)
    · have c2 : 0 ≤ x1 := c2
      exfalso; omega
    · have c2 : x1 < 0 := by have h : ¬ (0 ≤ x1) := c2; omega
      refine gx_blk (C := True) (npc := 40) (L' := [(0, .inr 86), (1, .inl x1)]) (st' := [.inl 0]) (m' := m) [((39, .iconst 0, 1, 0, 0, 0, 0), (0, 0, 0))] (by decide +kernel) rfl trivial ?_
      exact gx_retb (by decide +kernel) (by omega) (h1 c1 c2)
  · have c1 : 0 ≤ x1 := by have h : ¬ (x1 < 0) := c1; omega
    have f1 := gx_I_at hI 109 (z := x1) 0 4 0 5 (by decide +kernel) (by omega) (by omega)
    have e2 : gx_w (x1 + 1) = x1 + 1 := gx_w_id (by omega) (by omega)
    have f3 := gx_I_at hI 109 (z := x1 + 1) 1 5 0 5 (by decide +kernel) (by omega) (by omega)
    refine gx_blk (C := (((True ∧ (0 ≤ x1 ∧ x1 < 6))) ∧ (0 ≤ (gx_w (x1 + 1)) ∧ (gx_w (x1 + 1)) < 6))) (npc := 25) (L' := [(0, .inr 86), (1, .inl x1)]) (st' := [.inl (m 109 (gx_w (x1 + 1)).toNat), .inl (m 109 (x1).toNat)]) (m' := m) [((11, .aload_n 0, 1, 0, 0, 0, 0), (0, 0, 0)), ((12, .getfield 77, 3, 10, 33, 5146, 0), (1, 86, 109)), ((15, .iload_n 1, 1, 0, 0, 0, 0), (0, 0, 0)), ((16, .iaload, 1, 0, 0, 0, 0), (0, 109, 6)), ((17, .aload_n 0, 1, 0, 0, 0, 0), (0, 0, 0)), ((18, .getfield 77, 3, 10, 33, 5146, 0), (1, 86, 109)), ((21, .iload_n 1, 1, 0, 0, 0, 0), (0, 0, 0)), ((22, .iconst 1, 1, 0, 0, 0, 0), (0, 0, 0)), ((23, .iadd, 1, 0, 0, 0, 0), (0, 0, 0)), ((24, .iaload, 1, 0, 0, 0, 0), (0, 109, 6))] (by decide +kernel) rfl ⟨⟨trivial, (by omega)⟩, (by rw [e2]; omega)⟩ ?_
    rw [e2]
    refine gx_cmp .le 35 (by decide +kernel) (fun c2 => ?_) (fun c2 => ?_)
    · have c2 : (m 109 (x1).toNat) ≤ (m 109 (x1 + 1).toNat) := c2
      refine gx_blk (C := True) (npc := 36) (L' := [(0, .inr 86), (1, .inl x1)]) (st' := [.inl x1]) (m' := m) [((35, .iload_n 1, 1, 0, 0, 0, 0), (0, 0, 0))] (by decide +kernel) rfl trivial ?_
      refine gx_if .ge 41 (by decide +kernel) (fun c3 => ?_) (fun c3 => ?_)
      · have c3 : 0 ≤ x1 := c3
        have f4 := gx_I_n hI 86 32 0 16 (by decide +kernel)
        have e5 : gx_w ((m 86 32) - 1) = (m 86 32) - 1 := gx_w_id (by omega) (by omega)
        refine gx_blk (C := True) (npc := 48) (L' := [(0, .inr 86), (1, .inl x1), (2, .inl (gx_w ((m 86 32) - 1)))]) (st' := []) (m' := m) [((41, .aload_n 0, 1, 0, 0, 0, 0), (0, 0, 0)), ((42, .getfield 254, 3, 10, 32, 5145, 0), (0, 86, 0)), ((45, .iconst 1, 1, 0, 0, 0, 0), (0, 0, 0)), ((46, .isub, 1, 0, 0, 0, 0), (0, 0, 0)), ((47, .istore_n 2, 1, 0, 0, 0, 0), (0, 0, 0))] (by decide +kernel) rfl trivial ?_
        rw [e5]
        exact gx_to_pick [0, 1, 2] (h2 c1 c2 c3)
      · have c3 : x1 < 0 := by have h : ¬ (0 ≤ x1) := c3; omega
        exfalso; omega
    · have c2 : (m 109 (x1 + 1).toNat) < (m 109 (x1).toNat) := by have h : ¬ ((m 109 (x1).toNat) ≤ (m 109 (x1 + 1).toNat)) := c2; omega
      have e6 : gx_w (x1 - 1) = x1 - 1 := gx_w_id (by omega) (by omega)
      refine gx_blk (C := True) (npc := 7) (L' := [(0, .inr 86), (1, .inl (gx_w (x1 - 1)))]) (st' := []) (m' := m) [((28, .iload_n 1, 1, 0, 0, 0, 0), (0, 0, 0)), ((29, .iconst 1, 1, 0, 0, 0, 0), (0, 0, 0)), ((30, .isub, 1, 0, 0, 0, 0), (0, 0, 0)), ((31, .istore_n 1, 1, 0, 0, 0, 0), (0, 0, 0)), ((32, .goto (-25), 3, 0, 0, 0, 0), (0, 0, 0))] (by decide +kernel) rfl trivial ?_
      rw [e6]
      exact gx_to_pick [0, 1] (h3 c1 c2)

/-- goesToNext from 48 on -/
theorem gt215_48 {xs : List Int32} {w0 : sx_W} {d : Nat} {Q : gx_Q} {m : gx_M} {x1 x2 : Int} (hI : gx_I m) (r_x1 : 0 ≤ x1 ∧ x1 ≤ 4) (r_x2 : 1 ≤ x2 ∧ x2 ≤ 5) (g2 : 0 ≤ (m 86 32) ∧ (m 86 32) ≤ 6)
    (h1 : ((m 109 (x1).toNat) ≤ (m 109 (x2).toNat)) → gx_to xs w0 d yp_m216 0 [(0, .inr 86), (1, .inl x1), (2, .inl x2)] [] m (fun r m' => gx_to xs w0 (d + 1) yp_m215 76 [(0, .inr 86), (1, .inl x1)] (gx_rs r ++ []) m' Q))
    (h2 : ((m 109 (x2).toNat) < (m 109 (x1).toNat)) → gx_to xs w0 (d + 1) yp_m215 48 [(0, .inr 86), (1, .inl x1), (2, .inl (x2 - 1))] [] m Q) : gx_to xs w0 (d + 1) yp_m215 48 [(0, .inr 86), (1, .inl x1), (2, .inl x2)] [] m Q := by
  have f1 := gx_I_at hI 109 (z := x2) 1 5 0 5 (by decide +kernel) (by omega) (by omega)
  have f2 := gx_I_at hI 109 (z := x1) 0 4 0 5 (by decide +kernel) (by omega) (by omega)
  refine gx_blk (C := (((True ∧ (0 ≤ x2 ∧ x2 < 6))) ∧ (0 ≤ x1 ∧ x1 < 6))) (npc := 60) (L' := [(0, .inr 86), (1, .inl x1), (2, .inl x2)]) (st' := [.inl (m 109 (x1).toNat), .inl (m 109 (x2).toNat)]) (m' := m) [((48, .aload_n 0, 1, 0, 0, 0, 0), (0, 0, 0)), ((49, .getfield 77, 3, 10, 33, 5146, 0), (1, 86, 109)), ((52, .iload_n 2, 1, 0, 0, 0, 0), (0, 0, 0)), ((53, .iaload, 1, 0, 0, 0, 0), (0, 109, 6)), ((54, .aload_n 0, 1, 0, 0, 0, 0), (0, 0, 0)), ((55, .getfield 77, 3, 10, 33, 5146, 0), (1, 86, 109)), ((58, .iload_n 1, 1, 0, 0, 0, 0), (0, 0, 0)), ((59, .iaload, 1, 0, 0, 0, 0), (0, 109, 6))] (by decide +kernel) rfl ⟨⟨trivial, (by omega)⟩, (by omega)⟩ ?_
  refine gx_cmp .ge 70 (by decide +kernel) (fun c1 => ?_) (fun c1 => ?_)
  · have c1 : (m 109 (x1).toNat) ≤ (m 109 (x2).toNat) := c1
    refine gx_blk (C := True) (npc := 73) (L' := [(0, .inr 86), (1, .inl x1), (2, .inl x2)]) (st' := [.inl x2, .inl x1, .inr 86]) (m' := m) [((70, .aload_n 0, 1, 0, 0, 0, 0), (0, 0, 0)), ((71, .iload_n 1, 1, 0, 0, 0, 0), (0, 0, 0)), ((72, .iload_n 2, 1, 0, 0, 0, 0), (0, 0, 0))] (by decide +kernel) rfl trivial ?_
    exact gx_callv (E := (73, .invokevirtual 294, 3, 216, 0, 6232, 0)) (M' := yp_m216) (c := 86) [.inl x1, .inl x2] [] rfl (by decide +kernel) rfl ⟨rfl, rfl⟩ rfl rfl (Nat.le_of_ble_eq_true rfl) (Nat.le_of_ble_eq_true rfl) (by decide +kernel) (gx_to_mono (h1 c1) (fun r m' h' => gx_to_pick [0, 1] h'))
  · have c1 : (m 109 (x2).toNat) < (m 109 (x1).toNat) := by have h : ¬ ((m 109 (x1).toNat) ≤ (m 109 (x2).toNat)) := c1; omega
    have e3 : gx_w (x2 - 1) = x2 - 1 := gx_w_id (by omega) (by omega)
    refine gx_blk (C := True) (npc := 48) (L' := [(0, .inr 86), (1, .inl x1), (2, .inl (gx_w (x2 - 1)))]) (st' := []) (m' := m) [((63, .iload_n 2, 1, 0, 0, 0, 0), (0, 0, 0)), ((64, .iconst 1, 1, 0, 0, 0, 0), (0, 0, 0)), ((65, .isub, 1, 0, 0, 0, 0), (0, 0, 0)), ((66, .istore_n 2, 1, 0, 0, 0, 0), (0, 0, 0)), ((67, .goto (-19), 3, 0, 0, 0, 0), (0, 0, 0))] (by decide +kernel) rfl trivial ?_
    rw [e3]
    exact gx_to_pick [0, 1, 2] (h2 c1)

/-- goesToNext from 76 on -/
theorem gt215_76 {xs : List Int32} {w0 : sx_W} {d : Nat} {Q : gx_Q} {m : gx_M} {x1 : Int} (hI : gx_I m) (r_x1 : 0 ≤ x1 ∧ x1 ≤ 4) (g1 : 0 ≤ (m 86 32) ∧ (m 86 32) ≤ 6)
    (h1 : gx_to xs w0 d yp_m215 88 [(0, .inr 86), (3, .inl (x1 + 1)), (4, .inl ((m 86 32) - 1))] [] m Q) : gx_to xs w0 d yp_m215 76 [(0, .inr 86), (1, .inl x1)] [] m Q := by
  have e1 : gx_w (x1 + 1) = x1 + 1 := gx_w_id (by omega) (by omega)
  have f2 := gx_I_n hI 86 32 0 16 (by decide +kernel)
  have e3 : gx_w ((m 86 32) - 1) = (m 86 32) - 1 := gx_w_id (by omega) (by omega)
  refine gx_blk (C := True) (npc := 88) (L' := [(0, .inr 86), (1, .inl x1), (3, .inl (gx_w (x1 + 1))), (4, .inl (gx_w ((m 86 32) - 1)))]) (st' := []) (m' := m) [((76, .iload_n 1, 1, 0, 0, 0, 0), (0, 0, 0)), ((77, .iconst 1, 1, 0, 0, 0, 0), (0, 0, 0)), ((78, .iadd, 1, 0, 0, 0, 0), (0, 0, 0)), ((79, .istore_n 3, 1, 0, 0, 0, 0), (0, 0, 0)), ((80, .aload_n 0, 1, 0, 0, 0, 0), (0, 0, 0)), ((81, .getfield 254, 3, 10, 32, 5145, 0), (0, 86, 0)), ((84, .iconst 1, 1, 0, 0, 0, 0), (0, 0, 0)), ((85, .isub, 1, 0, 0, 0, 0), (0, 0, 0)), ((86, .istore 4, 2, 0, 0, 0, 0), (0, 0, 0))] (by decide +kernel) rfl trivial ?_
  rw [e1, e3]
  exact gx_to_pick [0, 3, 4] h1

/-- goesToNext from 88 on -/
theorem gt215_88 {xs : List Int32} {w0 : sx_W} {d : Nat} {Q : gx_Q} {m : gx_M} {x3 x4 : Int} (r_x3 : 1 ≤ x3 ∧ x3 ≤ 6) (r_x4 : (-1) ≤ x4 ∧ x4 ≤ 5) (g2 : 0 ≤ (m 86 32) ∧ (m 86 32) ≤ 6)
    (h1 : (x4 ≤ x3) → Q (some 1) m)
    (h2 : (x3 < x4) → gx_to xs w0 d yp_m216 0 [(0, .inr 86), (1, .inl x3), (2, .inl x4)] [] m (fun r m' => gx_to xs w0 (d + 1) yp_m215 101 [(0, .inr 86), (3, .inl x3), (4, .inl x4)] (gx_rs r ++ []) m' Q)) : gx_to xs w0 (d + 1) yp_m215 88 [(0, .inr 86), (3, .inl x3), (4, .inl x4)] [] m Q := by
  refine gx_blk (C := True) (npc := 91) (L' := [(0, .inr 86), (3, .inl x3), (4, .inl x4)]) (st' := [.inl x4, .inl x3]) (m' := m) [((88, .iload_n 3, 1, 0, 0, 0, 0), (0, 0, 0)), ((89, .iload 4, 2, 0, 0, 0, 0), (0, 0, 0))] (by decide +kernel) rfl trivial ?_
  refine gx_cmp .ge 114 (by decide +kernel) (fun c1 => ?_) (fun c1 => ?_)
  · have c1 : x4 ≤ x3 := c1
    refine gx_blk (C := True) (npc := 115) (L' := [(0, .inr 86), (3, .inl x3), (4, .inl x4)]) (st' := [.inl 1]) (m' := m) [((114, .iconst 1, 1, 0, 0, 0, 0), (0, 0, 0))] (by decide +kernel) rfl trivial ?_
    exact gx_retb (by decide +kernel) (by omega) (h1 c1)
  · have c1 : x3 < x4 := by have h : ¬ (x4 ≤ x3) := c1; omega
    refine gx_blk (C := True) (npc := 98) (L' := [(0, .inr 86), (3, .inl x3), (4, .inl x4)]) (st' := [.inl x4, .inl x3, .inr 86]) (m' := m) [((94, .aload_n 0, 1, 0, 0, 0, 0), (0, 0, 0)), ((95, .iload_n 3, 1, 0, 0, 0, 0), (0, 0, 0)), ((96, .iload 4, 2, 0, 0, 0, 0), (0, 0, 0))] (by decide +kernel) rfl trivial ?_
    exact gx_callv (E := (98, .invokevirtual 294, 3, 216, 0, 6232, 0)) (M' := yp_m216) (c := 86) [.inl x3, .inl x4] [] rfl (by decide +kernel) rfl ⟨rfl, rfl⟩ rfl rfl (Nat.le_of_ble_eq_true rfl) (Nat.le_of_ble_eq_true rfl) (by decide +kernel) (gx_to_mono (h2 c1) (fun r m' h' => gx_to_pick [0, 3, 4] h'))

/-- goesToNext from 101 on -/
theorem gt215_101 {xs : List Int32} {w0 : sx_W} {d : Nat} {Q : gx_Q} {m : gx_M} {x3 x4 : Int} (r_x3 : 1 ≤ x3 ∧ x3 ≤ 5) (r_x4 : 0 ≤ x4 ∧ x4 ≤ 5) (g2 : 0 ≤ (m 86 32) ∧ (m 86 32) ≤ 6)
    (h1 : gx_to xs w0 d yp_m215 88 [(0, .inr 86), (3, .inl (x3 + 1)), (4, .inl (x4 - 1))] [] m Q) : gx_to xs w0 d yp_m215 101 [(0, .inr 86), (3, .inl x3), (4, .inl x4)] [] m Q := by
  have e1 : gx_w (x3 + 1) = x3 + 1 := gx_w_id (by omega) (by omega)
  have e2 : gx_w (x4 - 1) = x4 - 1 := gx_w_id (by omega) (by omega)
  refine gx_blk (C := True) (npc := 88) (L' := [(0, .inr 86), (3, .inl (gx_w (x3 + 1))), (4, .inl (gx_w (x4 - 1)))]) (st' := []) (m' := m) [((101, .iload_n 3, 1, 0, 0, 0, 0), (0, 0, 0)), ((102, .iconst 1, 1, 0, 0, 0, 0), (0, 0, 0)), ((103, .iadd, 1, 0, 0, 0, 0), (0, 0, 0)), ((104, .istore_n 3, 1, 0, 0, 0, 0), (0, 0, 0)), ((105, .iload 4, 2, 0, 0, 0, 0), (0, 0, 0)), ((107, .iconst 1, 1, 0, 0, 0, 0), (0, 0, 0)), ((108, .isub, 1, 0, 0, 0, 0), (0, 0, 0)), ((109, .istore 4, 2, 0, 0, 0, 0), (0, 0, 0)), ((111, .goto (-23), 3, 0, 0, 0, 0), (0, 0, 0))] (by decide +kernel) rfl trivial ?_
  rw [e1, e2]
  exact gx_to_pick [0, 3, 4] h1

/-- inOrder from 0 on -/
theorem gt213_0 {xs : List Int32} {w0 : sx_W} {d : Nat} {Q : gx_Q} {m : gx_M} {x1 x2 : Int}
    (h1 : gx_to xs w0 d yp_m162 0 [(0, .inl x1), (1, .inl 1), (2, .inl 160)] [] m (fun r m' => gx_to xs w0 (d + 1) yp_m213 8 [(0, .inr 86), (1, .inl x1), (2, .inl x2)] (gx_rs r ++ []) m' Q)) : gx_to xs w0 (d + 1) yp_m213 0 [(0, .inr 86), (1, .inl x1), (2, .inl x2)] [] m Q := by
  refine gx_blk (C := True) (npc := 5) (L' := [(0, .inr 86), (1, .inl x1), (2, .inl x2)]) (st' := [.inl 160, .inl 1, .inl x1]) (m' := m) [((0, .iload_n 1, 1, 0, 0, 0, 0), (0, 0, 0)), ((1, .iconst 1, 1, 0, 0, 0, 0), (0, 0, 0)), ((2, .sipush 160, 3, 0, 0, 0, 0), (0, 0, 0))] (by decide +kernel) rfl trivial ?_
  exact gx_calls (E := (5, .invokestatic 108, 3, 162, 0, 6023, 0)) (M' := yp_m162) [.inl x1, .inl 1, .inl 160] [] rfl (by decide +kernel) rfl ⟨rfl, rfl⟩ rfl rfl (Nat.le_of_ble_eq_true rfl) (Nat.le_of_ble_eq_true rfl) rfl (gx_to_mono h1 (fun r m' h' => gx_to_pick [0, 1, 2] h'))

/-- inOrder from 8 on -/
theorem gt213_8 {xs : List Int32} {w0 : sx_W} {d : Nat} {Q : gx_Q} {m : gx_M} {x1 x2 s0 : Int} (hI : gx_I m)
    (h1 : (s0 = 0) → Q (some (-1)) m)
    (h2 : (s0 ≠ 0) → (x1 ≤ (m 86 4)) → gx_to xs w0 d yp_m191 0 [(0, .inr 86), (1, .inl x1)] [] m (fun r m' => gx_to xs w0 (d + 1) yp_m213 26 [(0, .inr 86), (2, .inl x2)] (gx_rs r ++ []) m' Q))
    (h3 : (s0 ≠ 0) → ((m 86 4) < x1) → Q (some (-1)) m) : gx_to xs w0 (d + 1) yp_m213 8 [(0, .inr 86), (1, .inl x1), (2, .inl x2)] [.inl s0] m Q := by
  refine gx_if .eq 19 (by decide +kernel) (fun c1 => ?_) (fun c1 => ?_)
  · have c1 : s0 = 0 := c1
    refine gx_blk (C := True) (npc := 20) (L' := [(0, .inr 86), (1, .inl x1), (2, .inl x2)]) (st' := [.inl (-1)]) (m' := m) [((19, .iconst (-1), 1, 0, 0, 0, 0), (0, 0, 0))] (by decide +kernel) rfl trivial ?_
    exact gx_reti (by decide +kernel) (h1 c1)
  · have c1 : s0 ≠ 0 := c1
    have f1 := gx_I_n hI 86 4 0 260 (by decide +kernel)
    refine gx_blk (C := True) (npc := 16) (L' := [(0, .inr 86), (1, .inl x1), (2, .inl x2)]) (st' := [.inl (m 86 4), .inl x1]) (m' := m) [((11, .iload_n 1, 1, 0, 0, 0, 0), (0, 0, 0)), ((12, .aload_n 0, 1, 0, 0, 0, 0), (0, 0, 0)), ((13, .getfield 124, 3, 10, 4, 5117, 0), (0, 86, 0))] (by decide +kernel) rfl trivial ?_
    refine gx_cmp .le 21 (by decide +kernel) (fun c2 => ?_) (fun c2 => ?_)
    · have c2 : x1 ≤ (m 86 4) := c2
      refine gx_blk (C := True) (npc := 23) (L' := [(0, .inr 86), (1, .inl x1), (2, .inl x2)]) (st' := [.inl x1, .inr 86]) (m' := m) [((21, .aload_n 0, 1, 0, 0, 0, 0), (0, 0, 0)), ((22, .iload_n 1, 1, 0, 0, 0, 0), (0, 0, 0))] (by decide +kernel) rfl trivial ?_
      exact gx_callv (E := (23, .invokevirtual 284, 3, 191, 0, 6136, 0)) (M' := yp_m191) (c := 86) [.inl x1] [] rfl (by decide +kernel) rfl ⟨rfl, rfl⟩ rfl rfl (Nat.le_of_ble_eq_true rfl) (Nat.le_of_ble_eq_true rfl) (by decide +kernel) (gx_to_mono (h2 c1 c2) (fun r m' h' => gx_to_pick [0, 2] h'))
    · have c2 : (m 86 4) < x1 := by have h : ¬ (x1 ≤ (m 86 4)) := c2; omega
      refine gx_blk (C := True) (npc := 20) (L' := [(0, .inr 86), (1, .inl x1), (2, .inl x2)]) (st' := [.inl (-1)]) (m' := m) [((19, .iconst (-1), 1, 0, 0, 0, 0), (0, 0, 0))] (by decide +kernel) rfl trivial ?_
      exact gx_reti (by decide +kernel) (h3 c1 c2)

/-- inOrder from 26 on -/
theorem gt213_26 {xs : List Int32} {w0 : sx_W} {d : Nat} {Q : gx_Q} {m : gx_M} {x2 s0 : Int} (hI : gx_I m)
    (h1 : (s0 ≠ 0) → (6 < (m 86 32)) → Q (some (-3)) m)
    (h2 : (s0 ≠ 0) → ((m 86 32) ≤ 6) → gx_to xs w0 d yp_m162 0 [(0, .inl x2), (1, .inl (-1)), (2, .inl ((m 86 32) - 1))] [] m (fun r m' => gx_to xs w0 (d + 1) yp_m213 54 [(0, .inr 86), (2, .inl x2)] (gx_rs r ++ []) m' Q))
    (h3 : (s0 = 0) → Q (some (m 86 7)) m) : gx_to xs w0 (d + 1) yp_m213 26 [(0, .inr 86), (2, .inl x2)] [.inl s0] m Q := by
  refine gx_if .ne 34 (by decide +kernel) (fun c1 => ?_) (fun c1 => ?_)
  · have c1 : s0 ≠ 0 := c1
    have f1 := gx_I_n hI 86 32 0 16 (by decide +kernel)
    refine gx_blk (C := True) (npc := 40) (L' := [(0, .inr 86), (2, .inl x2)]) (st' := [.inl 6, .inl (m 86 32)]) (m' := m) [((34, .aload_n 0, 1, 0, 0, 0, 0), (0, 0, 0)), ((35, .getfield 254, 3, 10, 32, 5145, 0), (0, 86, 0)), ((38, .bipush 6, 2, 0, 0, 0, 0), (0, 0, 0))] (by decide +kernel) rfl trivial ?_
    refine gx_cmp .gt 57 (by decide +kernel) (fun c2 => ?_) (fun c2 => ?_)
    · have c2 : 6 < (m 86 32) := c2
      refine gx_blk (C := True) (npc := 59) (L' := [(0, .inr 86), (2, .inl x2)]) (st' := [.inl (-3)]) (m' := m) [((57, .bipush (-3), 2, 0, 0, 0, 0), (0, 0, 0))] (by decide +kernel) rfl trivial ?_
      exact gx_reti (by decide +kernel) (h1 c1 c2)
    · have c2 : (m 86 32) ≤ 6 := by have h : ¬ (6 < (m 86 32)) := c2; omega
      have e2 : gx_w ((m 86 32) - 1) = (m 86 32) - 1 := gx_w_id (by omega) (by omega)
      refine gx_blk (C := True) (npc := 51) (L' := [(0, .inr 86), (2, .inl x2)]) (st' := [.inl (gx_w ((m 86 32) - 1)), .inl (-1), .inl x2]) (m' := m) [((43, .iload_n 2, 1, 0, 0, 0, 0), (0, 0, 0)), ((44, .iconst (-1), 1, 0, 0, 0, 0), (0, 0, 0)), ((45, .aload_n 0, 1, 0, 0, 0, 0), (0, 0, 0)), ((46, .getfield 254, 3, 10, 32, 5145, 0), (0, 86, 0)), ((49, .iconst 1, 1, 0, 0, 0, 0), (0, 0, 0)), ((50, .isub, 1, 0, 0, 0, 0), (0, 0, 0))] (by decide +kernel) rfl trivial ?_
      rw [e2]
      exact gx_calls (E := (51, .invokestatic 108, 3, 162, 0, 6023, 0)) (M' := yp_m162) [.inl x2, .inl (-1), .inl ((m 86 32) - 1)] [] rfl (by decide +kernel) rfl ⟨rfl, rfl⟩ rfl rfl (Nat.le_of_ble_eq_true rfl) (Nat.le_of_ble_eq_true rfl) rfl (gx_to_mono (h2 c1 c2) (fun r m' h' => gx_to_pick [0, 2] h'))
  · have c1 : s0 = 0 := by have h : ¬ (s0 ≠ 0) := c1; omega
    refine gx_blk (C := True) (npc := 33) (L' := [(0, .inr 86), (2, .inl x2)]) (st' := [.inl (m 86 7)]) (m' := m) [((29, .aload_n 0, 1, 0, 0, 0, 0), (0, 0, 0)), ((30, .getfield 142, 3, 10, 7, 5120, 0), (0, 86, 0))] (by decide +kernel) rfl trivial ?_
    exact gx_reti (by decide +kernel) (h3 c1)

/-- inOrder from 54 on -/
theorem gt213_54 {xs : List Int32} {w0 : sx_W} {d : Nat} {Q : gx_Q} {m : gx_M} {x2 s0 : Int}
    (h1 : (s0 ≠ 0) → gx_to xs w0 d yp_m212 0 [(0, .inr 87), (1, .inr 88)] [] m (fun r m' => gx_to xs w0 (d + 1) yp_m213 71 [(0, .inr 86), (2, .inl x2)] (gx_rs r ++ []) m' Q))
    (h2 : (s0 = 0) → Q (some (-3)) m) : gx_to xs w0 (d + 1) yp_m213 54 [(0, .inr 86), (2, .inl x2)] [.inl s0] m Q := by
  refine gx_if .ne 60 (by decide +kernel) (fun c1 => ?_) (fun c1 => ?_)
  · have c1 : s0 ≠ 0 := c1
    refine gx_blk (C := True) (npc := 68) (L' := [(0, .inr 86), (2, .inl x2)]) (st' := [.inr 88, .inr 87]) (m' := m) [((60, .aload_n 0, 1, 0, 0, 0, 0), (0, 0, 0)), ((61, .getfield 7, 3, 10, 0, 5113, 0), (1, 86, 87)), ((64, .aload_n 0, 1, 0, 0, 0, 0), (0, 0, 0)), ((65, .getfield 13, 3, 10, 1, 5114, 0), (1, 86, 88))] (by decide +kernel) rfl trivial ?_
    exact gx_calls (E := (68, .invokestatic 290, 3, 212, 0, 6217, 0)) (M' := yp_m212) [.inr 87, .inr 88] [] rfl (by decide +kernel) rfl ⟨rfl, rfl⟩ rfl rfl (Nat.le_of_ble_eq_true rfl) (Nat.le_of_ble_eq_true rfl) rfl (gx_to_mono (h1 c1) (fun r m' h' => gx_to_pick [0, 2] h'))
  · have c1 : s0 = 0 := by have h : ¬ (s0 ≠ 0) := c1; omega
    refine gx_blk (C := True) (npc := 59) (L' := [(0, .inr 86), (2, .inl x2)]) (st' := [.inl (-3)]) (m' := m) [((57, .bipush (-3), 2, 0, 0, 0, 0), (0, 0, 0))] (by decide +kernel) rfl trivial ?_
    exact gx_reti (by decide +kernel) (h2 c1)

/-- inOrder from 71 on -/
theorem gt213_71 {xs : List Int32} {w0 : sx_W} {d : Nat} {Q : gx_Q} {m : gx_M} {x2 : Int}
    (h1 : gx_to xs w0 d yp_m213 73 [(0, .inr 86), (2, .inl x2), (3, .inl 0)] [] m Q) : gx_to xs w0 d yp_m213 71 [(0, .inr 86), (2, .inl x2)] [] m Q := by
  refine gx_blk (C := True) (npc := 73) (L' := [(0, .inr 86), (2, .inl x2), (3, .inl 0)]) (st' := []) (m' := m) [((71, .iconst 0, 1, 0, 0, 0, 0), (0, 0, 0)), ((72, .istore_n 3, 1, 0, 0, 0, 0), (0, 0, 0))] (by decide +kernel) rfl trivial ?_
  exact gx_to_pick [0, 2, 3] h1

/-- inOrder from 73 on -/
theorem gt213_73 {xs : List Int32} {w0 : sx_W} {d : Nat} {Q : gx_Q} {m : gx_M} {x2 x3 : Int} (hI : gx_I m) (r_x3 : 0 ≤ x3 ∧ x3 ≤ 6)
    (h1 : ((m 86 32) ≤ x3) → gx_to xs w0 d yp_m214 0 [(0, .inr 86)] [] m (fun r m' => gx_to xs w0 (d + 1) yp_m213 98 [(0, .inr 86), (2, .inl x2)] (gx_rs r ++ []) m' Q))
    (k1 : (x3 < (m 86 32)) → 0 ≤ x3 ∧ x3 < 6)
    (h2 : (x3 < (m 86 32)) → gx_to xs w0 (d + 1) yp_m213 73 [(0, .inr 86), (2, .inl x2), (3, .inl (x3 + 1))] [] (gx_u m 109 (x3).toNat x3) Q) : gx_to xs w0 (d + 1) yp_m213 73 [(0, .inr 86), (2, .inl x2), (3, .inl x3)] [] m Q := by
  have f1 := gx_I_n hI 86 32 0 16 (by decide +kernel)
  refine gx_blk (C := True) (npc := 78) (L' := [(0, .inr 86), (2, .inl x2), (3, .inl x3)]) (st' := [.inl (m 86 32), .inl x3]) (m' := m) [((73, .iload_n 3, 1, 0, 0, 0, 0), (0, 0, 0)), ((74, .aload_n 0, 1, 0, 0, 0, 0), (0, 0, 0)), ((75, .getfield 254, 3, 10, 32, 5145, 0), (0, 86, 0))] (by decide +kernel) rfl trivial ?_
  refine gx_cmp .ge 94 (by decide +kernel) (fun c1 => ?_) (fun c1 => ?_)
  · have c1 : (m 86 32) ≤ x3 := c1
    refine gx_blk (C := True) (npc := 95) (L' := [(0, .inr 86), (2, .inl x2), (3, .inl x3)]) (st' := [.inr 86]) (m' := m) [((94, .aload_n 0, 1, 0, 0, 0, 0), (0, 0, 0))] (by decide +kernel) rfl trivial ?_
    exact gx_callv (E := (95, .invokevirtual 297, 3, 214, 0, 6224, 0)) (M' := yp_m214) (c := 86) [] [] rfl (by decide +kernel) rfl ⟨rfl, rfl⟩ rfl rfl (Nat.le_of_ble_eq_true rfl) (Nat.le_of_ble_eq_true rfl) (by decide +kernel) (gx_to_mono (h1 c1) (fun r m' h' => gx_to_pick [0, 2] h'))
  · have c1 : x3 < (m 86 32) := by have h : ¬ ((m 86 32) ≤ x3) := c1; omega
    have e2 : gx_w (x3 + 1) = x3 + 1 := gx_w_id (by omega) (by omega)
    refine gx_blk (C := (True ∧ (0 ≤ x3 ∧ x3 < 6))) (npc := 73) (L' := [(0, .inr 86), (2, .inl x2), (3, .inl (gx_w (x3 + 1)))]) (st' := []) (m' := (gx_u m 109 (x3).toNat x3)) [((81, .aload_n 0, 1, 0, 0, 0, 0), (0, 0, 0)), ((82, .getfield 77, 3, 10, 33, 5146, 0), (1, 86, 109)), ((85, .iload_n 3, 1, 0, 0, 0, 0), (0, 0, 0)), ((86, .iload_n 3, 1, 0, 0, 0, 0), (0, 0, 0)), ((87, .iastore, 1, 0, 0, 0, 0), (0, 109, 6)), ((88, .iinc 3 1, 3, 0, 0, 0, 0), (0, 0, 0)), ((91, .goto (-18), 3, 0, 0, 0, 0), (0, 0, 0))] (by decide +kernel) rfl ⟨trivial, (k1 c1)⟩ ?_
    rw [e2]
    exact gx_to_pick [0, 2, 3] (h2 c1)

/-- inOrder from 98 on -/
theorem gt213_98 {xs : List Int32} {w0 : sx_W} {d : Nat} {Q : gx_Q} {m : gx_M} {x2 s0 : Int}
    (h1 : gx_to xs w0 d yp_m213 99 [(0, .inr 86), (2, .inl x2), (3, .inl s0)] [] m Q) : gx_to xs w0 d yp_m213 98 [(0, .inr 86), (2, .inl x2)] [.inl s0] m Q := by
  refine gx_blk (C := True) (npc := 99) (L' := [(0, .inr 86), (2, .inl x2), (3, .inl s0)]) (st' := []) (m' := m) [((98, .istore_n 3, 1, 0, 0, 0, 0), (0, 0, 0))] (by decide +kernel) rfl trivial ?_
  exact gx_to_pick [0, 2, 3] h1

/-- inOrder from 99 on -/
theorem gt213_99 {xs : List Int32} {w0 : sx_W} {d : Nat} {Q : gx_Q} {m : gx_M} {x2 x3 : Int} (hI : gx_I m) (r_x2 : (-1) ≤ x2 ∧ x2 ≤ 5) (r_x3 : 0 ≤ x3 ∧ x3 ≤ 1)
    (h1 : (x3 ≠ 0) → (x2 ≠ (-1)) → (x3 ≠ 0) → Q (some (m 109 (x2).toNat)) m)
    (h2 : (x3 ≠ 0) → (x2 = (-1)) → (x3 ≠ 0) → Q (some 1) m)
    (h3 : (x3 = 0) → gx_to xs w0 d yp_m215 0 [(0, .inr 86)] [] m (fun r m' => gx_to xs w0 (d + 1) yp_m213 107 [(0, .inr 86), (2, .inl x2), (3, .inl x3)] (gx_rs r ++ []) m' Q)) : gx_to xs w0 (d + 1) yp_m213 99 [(0, .inr 86), (2, .inl x2), (3, .inl x3)] [] m Q := by
  refine gx_blk (C := True) (npc := 100) (L' := [(0, .inr 86), (2, .inl x2), (3, .inl x3)]) (st' := [.inl x3]) (m' := m) [((99, .iload_n 3, 1, 0, 0, 0, 0), (0, 0, 0))] (by decide +kernel) rfl trivial ?_
  refine gx_if .ne 118 (by decide +kernel) (fun c1 => ?_) (fun c1 => ?_)
  · have c1 : x3 ≠ 0 := c1
    refine gx_blk (C := True) (npc := 120) (L' := [(0, .inr 86), (2, .inl x2), (3, .inl x3)]) (st' := [.inl (-1), .inl x2]) (m' := m) [((118, .iload_n 2, 1, 0, 0, 0, 0), (0, 0, 0)), ((119, .iconst (-1), 1, 0, 0, 0, 0), (0, 0, 0))] (by decide +kernel) rfl trivial ?_
    refine gx_cmp .ne 133 (by decide +kernel) (fun c2 => ?_) (fun c2 => ?_)
    · have c2 : x2 ≠ (-1) := c2
      refine gx_blk (C := True) (npc := 134) (L' := [(0, .inr 86), (2, .inl x2), (3, .inl x3)]) (st' := [.inl x3]) (m' := m) [((133, .iload_n 3, 1, 0, 0, 0, 0), (0, 0, 0))] (by decide +kernel) rfl trivial ?_
      refine gx_if .eq 146 (by decide +kernel) (fun c3 => ?_) (fun c3 => ?_)
      · have c3 : x3 = 0 := c3
        exfalso; omega
      · have c3 : x3 ≠ 0 := c3
        have f1 := gx_I_at hI 109 (z := x2) 0 5 0 5 (by decide +kernel) (by omega) (by omega)
        refine gx_blk (C := (True ∧ (0 ≤ x2 ∧ x2 < 6))) (npc := 148) (L' := [(0, .inr 86), (2, .inl x2), (3, .inl x3)]) (st' := [.inl (m 109 (x2).toNat)]) (m' := m) [((137, .aload_n 0, 1, 0, 0, 0, 0), (0, 0, 0)), ((138, .getfield 77, 3, 10, 33, 5146, 0), (1, 86, 109)), ((141, .iload_n 2, 1, 0, 0, 0, 0), (0, 0, 0)), ((142, .iaload, 1, 0, 0, 0, 0), (0, 109, 6)), ((143, .goto 5, 3, 0, 0, 0, 0), (0, 0, 0))] (by decide +kernel) rfl ⟨trivial, (by omega)⟩ ?_
        exact gx_reti (by decide +kernel) (h1 c1 c2 c3)
    · have c2 : x2 = (-1) := by have h : ¬ (x2 ≠ (-1)) := c2; omega
      refine gx_blk (C := True) (npc := 124) (L' := [(0, .inr 86), (2, .inl x2), (3, .inl x3)]) (st' := [.inl x3]) (m' := m) [((123, .iload_n 3, 1, 0, 0, 0, 0), (0, 0, 0))] (by decide +kernel) rfl trivial ?_
      refine gx_if .eq 131 (by decide +kernel) (fun c3 => ?_) (fun c3 => ?_)
      · have c3 : x3 = 0 := c3
        exfalso; omega
      · have c3 : x3 ≠ 0 := c3
        refine gx_blk (C := True) (npc := 132) (L' := [(0, .inr 86), (2, .inl x2), (3, .inl x3)]) (st' := [.inl 1]) (m' := m) [((127, .iconst 1, 1, 0, 0, 0, 0), (0, 0, 0)), ((128, .goto 4, 3, 0, 0, 0, 0), (0, 0, 0))] (by decide +kernel) rfl trivial ?_
        exact gx_reti (by decide +kernel) (h2 c1 c2 c3)
  · have c1 : x3 = 0 := by have h : ¬ (x3 ≠ 0) := c1; omega
    refine gx_blk (C := True) (npc := 104) (L' := [(0, .inr 86), (2, .inl x2), (3, .inl x3)]) (st' := [.inr 86]) (m' := m) [((103, .aload_n 0, 1, 0, 0, 0, 0), (0, 0, 0))] (by decide +kernel) rfl trivial ?_
    exact gx_callv (E := (104, .invokevirtual 300, 3, 215, 0, 6228, 0)) (M' := yp_m215) (c := 86) [] [] rfl (by decide +kernel) rfl ⟨rfl, rfl⟩ rfl rfl (Nat.le_of_ble_eq_true rfl) (Nat.le_of_ble_eq_true rfl) (by decide +kernel) (gx_to_mono (h3 c1) (fun r m' h' => gx_to_pick [0, 2, 3] h'))

/-- inOrder from 107 on -/
theorem gt213_107 {xs : List Int32} {w0 : sx_W} {d : Nat} {Q : gx_Q} {m : gx_M} {x2 x3 s0 : Int} (hI : gx_I m) (r_x2 : (-1) ≤ x2 ∧ x2 ≤ 5) (r_x3 : 0 ≤ x3 ∧ x3 ≤ 1)
    (h1 : (s0 = 0) → (x2 ≠ (-1)) → (x3 = 0) → Q (some (-2)) m)
    (h2 : (s0 = 0) → (x2 ≠ (-1)) → (x3 ≠ 0) → Q (some (m 109 (x2).toNat)) m)
    (h3 : (s0 = 0) → (x2 = (-1)) → (x3 = 0) → Q (some 0) m)
    (h4 : (s0 = 0) → (x2 = (-1)) → (x3 ≠ 0) → Q (some 1) m)
    (h5 : (s0 ≠ 0) → gx_to xs w0 d yp_m214 0 [(0, .inr 86)] [] m (fun r m' => gx_to xs w0 (d + 1) yp_m213 114 [(0, .inr 86), (2, .inl x2)] (gx_rs r ++ []) m' Q)) : gx_to xs w0 (d + 1) yp_m213 107 [(0, .inr 86), (2, .inl x2), (3, .inl x3)] [.inl s0] m Q := by
  refine gx_if .eq 118 (by decide +kernel) (fun c1 => ?_) (fun c1 => ?_)
  · have c1 : s0 = 0 := c1
    refine gx_blk (C := True) (npc := 120) (L' := [(0, .inr 86), (2, .inl x2), (3, .inl x3)]) (st' := [.inl (-1), .inl x2]) (m' := m) [((118, .iload_n 2, 1, 0, 0, 0, 0), (0, 0, 0)), ((119, .iconst (-1), 1, 0, 0, 0, 0), (0, 0, 0))] (by decide +kernel) rfl trivial ?_
    refine gx_cmp .ne 133 (by decide +kernel) (fun c2 => ?_) (fun c2 => ?_)
    · have c2 : x2 ≠ (-1) := c2
      refine gx_blk (C := True) (npc := 134) (L' := [(0, .inr 86), (2, .inl x2), (3, .inl x3)]) (st' := [.inl x3]) (m' := m) [((133, .iload_n 3, 1, 0, 0, 0, 0), (0, 0, 0))] (by decide +kernel) rfl trivial ?_
      refine gx_if .eq 146 (by decide +kernel) (fun c3 => ?_) (fun c3 => ?_)
      · have c3 : x3 = 0 := c3
        refine gx_blk (C := True) (npc := 148) (L' := [(0, .inr 86), (2, .inl x2), (3, .inl x3)]) (st' := [.inl (-2)]) (m' := m) [((146, .bipush (-2), 2, 0, 0, 0, 0), (0, 0, 0))] (by decide +kernel) rfl trivial ?_
        exact gx_reti (by decide +kernel) (h1 c1 c2 c3)
      · have c3 : x3 ≠ 0 := c3
        have f1 := gx_I_at hI 109 (z := x2) 0 5 0 5 (by decide +kernel) (by omega) (by omega)
        refine gx_blk (C := (True ∧ (0 ≤ x2 ∧ x2 < 6))) (npc := 148) (L' := [(0, .inr 86), (2, .inl x2), (3, .inl x3)]) (st' := [.inl (m 109 (x2).toNat)]) (m' := m) [((137, .aload_n 0, 1, 0, 0, 0, 0), (0, 0, 0)), ((138, .getfield 77, 3, 10, 33, 5146, 0), (1, 86, 109)), ((141, .iload_n 2, 1, 0, 0, 0, 0), (0, 0, 0)), ((142, .iaload, 1, 0, 0, 0, 0), (0, 109, 6)), ((143, .goto 5, 3, 0, 0, 0, 0), (0, 0, 0))] (by decide +kernel) rfl ⟨trivial, (by omega)⟩ ?_
        exact gx_reti (by decide +kernel) (h2 c1 c2 c3)
    · have c2 : x2 = (-1) := by have h : ¬ (x2 ≠ (-1)) := c2; omega
      refine gx_blk (C := True) (npc := 124) (L' := [(0, .inr 86), (2, .inl x2), (3, .inl x3)]) (st' := [.inl x3]) (m' := m) [((123, .iload_n 3, 1, 0, 0, 0, 0), (0, 0, 0))] (by decide +kernel) rfl trivial ?_
      refine gx_if .eq 131 (by decide +kernel) (fun c3 => ?_) (fun c3 => ?_)
      · have c3 : x3 = 0 := c3
        refine gx_blk (C := True) (npc := 132) (L' := [(0, .inr 86), (2, .inl x2), (3, .inl x3)]) (st' := [.inl 0]) (m' := m) [((131, .iconst 0, 1, 0, 0, 0, 0), (0, 0, 0))] (by decide +kernel) rfl trivial ?_
        exact gx_reti (by decide +kernel) (h3 c1 c2 c3)
      · have c3 : x3 ≠ 0 := c3
        refine gx_blk (C := True) (npc := 132) (L' := [(0, .inr 86), (2, .inl x2), (3, .inl x3)]) (st' := [.inl 1]) (m' := m) [((127, .iconst 1, 1, 0, 0, 0, 0), (0, 0, 0)), ((128, .goto 4, 3, 0, 0, 0, 0), (0, 0, 0))] (by decide +kernel) rfl trivial ?_
        exact gx_reti (by decide +kernel) (h4 c1 c2 c3)
  · have c1 : s0 ≠ 0 := c1
    refine gx_blk (C := True) (npc := 111) (L' := [(0, .inr 86), (2, .inl x2), (3, .inl x3)]) (st' := [.inr 86]) (m' := m) [((110, .aload_n 0, 1, 0, 0, 0, 0), (0, 0, 0))] (by decide +kernel) rfl trivial ?_
    exact gx_callv (E := (111, .invokevirtual 297, 3, 214, 0, 6224, 0)) (M' := yp_m214) (c := 86) [] [] rfl (by decide +kernel) rfl ⟨rfl, rfl⟩ rfl rfl (Nat.le_of_ble_eq_true rfl) (Nat.le_of_ble_eq_true rfl) (by decide +kernel) (gx_to_mono (h5 c1) (fun r m' h' => gx_to_pick [0, 2] h'))

/-- inOrder from 114 on -/
theorem gt213_114 {xs : List Int32} {w0 : sx_W} {d : Nat} {Q : gx_Q} {m : gx_M} {x2 s0 : Int}
    (h1 : gx_to xs w0 d yp_m213 99 [(0, .inr 86), (2, .inl x2), (3, .inl s0)] [] m Q) : gx_to xs w0 d yp_m213 114 [(0, .inr 86), (2, .inl x2)] [.inl s0] m Q := by
  refine gx_blk (C := True) (npc := 99) (L' := [(0, .inr 86), (2, .inl x2), (3, .inl s0)]) (st' := []) (m' := m) [((114, .istore_n 3, 1, 0, 0, 0, 0), (0, 0, 0)), ((115, .goto (-16), 3, 0, 0, 0, 0), (0, 0, 0))] (by decide +kernel) rfl trivial ?_
  exact gx_to_pick [0, 2, 3] h1

