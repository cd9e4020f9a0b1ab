/-! roads of methods read by hand, from cut points to the next ones (printed by wip/gen/gxall.py) -/
/-- worthOfAll from 0 on -/
theorem gt240_0 {xs : List Int32} {w0 : sx_W} {d : Nat} {Q : gx_Q} {m : gx_M} {x1 : Int}
    (h1 : gx_to xs w0 d yp_m240 4 [(0, .inr 86), (1, .inl x1), (2, .inl 0), (3, .inl 0)] [] m Q) : gx_to xs w0 d yp_m240 0 [(0, .inr 86), (1, .inl x1)] [] m Q := by
  refine gx_blk (C := True) (npc := 4) (L' := [(0, .inr 86), (1, .inl x1), (2, .inl 0), (3, .inl 0)]) (st' := []) (m' := m) [((0, .iconst 0, 1, 0, 0, 0, 0), (0, 0, 0)), ((1, .istore_n 2, 1, 0, 0, 0, 0), (0, 0, 0)), ((2, .iconst 0, 1, 0, 0, 0, 0), (0, 0, 0)), ((3, .istore_n 3, 1, 0, 0, 0, 0), (0, 0, 0))] (by decide +kernel) rfl trivial ?_
  exact gx_to_pick [0, 1, 2, 3] h1

/-- worthOfAll from 4 on -/
theorem gt240_4 {xs : List Int32} {w0 : sx_W} {d : Nat} {Q : gx_Q} {m : gx_M} {x1 x2 x3 : Int} (r_x3 : 0 ≤ x3 ∧ x3 ≤ 8)
    (h1 : (8 ≤ x3) → gx_to xs w0 d yp_m206 0 [(0, .inl x2)] [] m (fun r m' => gx_to xs w0 (d + 1) yp_m240 39 [] (gx_rs r ++ [.inl 100]) m' Q))
    (h2 : (x3 < 8) → gx_to xs w0 d yp_m165 0 [(0, .inl x1), (1, .inl x3)] [] m (fun r m' => gx_to xs w0 (d + 1) yp_m240 15 [(0, .inr 86), (1, .inl x1), (2, .inl x2), (3, .inl x3)] (gx_rs r ++ []) m' Q)) : gx_to xs w0 (d + 1) yp_m240 4 [(0, .inr 86), (1, .inl x1), (2, .inl x2), (3, .inl x3)] [] m Q := by
  refine gx_blk (C := True) (npc := 7) (L' := [(0, .inr 86), (1, .inl x1), (2, .inl x2), (3, .inl x3)]) (st' := [.inl 8, .inl x3]) (m' := m) [((4, .iload_n 3, 1, 0, 0, 0, 0), (0, 0, 0)), ((5, .bipush 8, 2, 0, 0, 0, 0), (0, 0, 0))] (by decide +kernel) rfl trivial ?_
  refine gx_cmp .ge 33 (by decide +kernel) (fun c1 => ?_) (fun c1 => ?_)
  · have c1 : 8 ≤ x3 := c1
    refine gx_blk (C := True) (npc := 36) (L' := [(0, .inr 86), (1, .inl x1), (2, .inl x2), (3, .inl x3)]) (st' := [.inl x2, .inl 100]) (m' := m) [((33, .bipush 100, 2, 0, 0, 0, 0), (0, 0, 0)), ((35, .iload_n 2, 1, 0, 0, 0, 0), (0, 0, 0))] (by decide +kernel) rfl trivial ?_
    exact gx_calls (E := (36, .invokestatic 241, 3, 206, 0, 6195, 0)) (M' := yp_m206) [.inl x2] [.inl 100] rfl (by decide +kernel) rfl ⟨rfl, rfl⟩ rfl rfl (Nat.le_of_ble_eq_true rfl) (Nat.le_of_ble_eq_true rfl) rfl (gx_to_mono (h1 c1) (fun r m' h' => gx_to_pick [] h'))
  · have c1 : x3 < 8 := by have h : ¬ (8 ≤ x3) := c1; omega
    refine gx_blk (C := True) (npc := 12) (L' := [(0, .inr 86), (1, .inl x1), (2, .inl x2), (3, .inl x3)]) (st' := [.inl x3, .inl x1]) (m' := m) [((10, .iload_n 1, 1, 0, 0, 0, 0), (0, 0, 0)), ((11, .iload_n 3, 1, 0, 0, 0, 0), (0, 0, 0))] (by decide +kernel) rfl trivial ?_
    exact gx_calls (E := (12, .invokestatic 104, 3, 165, 0, 6035, 0)) (M' := yp_m165) [.inl x1, .inl x3] [] rfl (by decide +kernel) rfl ⟨rfl, rfl⟩ rfl rfl (Nat.le_of_ble_eq_true rfl) (Nat.le_of_ble_eq_true rfl) rfl (gx_to_mono (h2 c1) (fun r m' h' => gx_to_pick [0, 1, 2, 3] h'))

/-- worthOfAll from 15 on -/
theorem gt240_15 {xs : List Int32} {w0 : sx_W} {d : Nat} {Q : gx_Q} {m : gx_M} {x1 x2 x3 s0 : Int} (r_x3 : 0 ≤ x3 ∧ x3 ≤ 7)
    (h1 : (s0 = 0) → gx_to xs w0 (d + 1) yp_m240 4 [(0, .inr 86), (1, .inl x1), (2, .inl x2), (3, .inl (x3 + 1))] [] m Q)
    (h2 : (s0 ≠ 0) → gx_to xs w0 d yp_m207 0 [(0, .inr 86), (1, .inl x3), (2, .inl (-1))] [] m (fun r m' => gx_to xs w0 (d + 1) yp_m240 25 [(0, .inr 86), (1, .inl x1), (3, .inl x3)] (gx_rs r ++ [.inl x2]) m' Q)) : gx_to xs w0 (d + 1) yp_m240 15 [(0, .inr 86), (1, .inl x1), (2, .inl x2), (3, .inl x3)] [.inl s0] m Q := by
  refine gx_if .eq 27 (by decide +kernel) (fun c1 => ?_) (fun c1 => ?_)
  · have c1 : s0 = 0 := c1
    have e1 : gx_w (x3 + 1) = x3 + 1 := gx_w_id (by omega) (by omega)
    refine gx_blk (C := True) (npc := 4) (L' := [(0, .inr 86), (1, .inl x1), (2, .inl x2), (3, .inl (gx_w (x3 + 1)))]) (st' := []) (m' := m) [((27, .iinc 3 1, 3, 0, 0, 0, 0), (0, 0, 0)), ((30, .goto (-26), 3, 0, 0, 0, 0), (0, 0, 0))] (by decide +kernel) rfl trivial ?_
    rw [e1]
    exact gx_to_pick [0, 1, 2, 3] (h1 c1)
  · have c1 : s0 ≠ 0 := c1
    refine gx_blk (C := True) (npc := 22) (L' := [(0, .inr 86), (1, .inl x1), (2, .inl x2), (3, .inl x3)]) (st' := [.inl (-1), .inl x3, .inr 86, .inl x2]) (m' := m) [((18, .iload_n 2, 1, 0, 0, 0, 0), (0, 0, 0)), ((19, .aload_n 0, 1, 0, 0, 0, 0), (0, 0, 0)), ((20, .iload_n 3, 1, 0, 0, 0, 0), (0, 0, 0)), ((21, .iconst (-1), 1, 0, 0, 0, 0), (0, 0, 0))] (by decide +kernel) rfl trivial ?_
    exact gx_callv (E := (22, .invokevirtual 244, 3, 207, 0, 6198, 0)) (M' := yp_m207) (c := 86) [.inl x3, .inl (-1)] [.inl x2] rfl (by decide +kernel) rfl ⟨rfl, rfl⟩ rfl rfl (Nat.le_of_ble_eq_true rfl) (Nat.le_of_ble_eq_true rfl) (by decide +kernel) (gx_to_mono (h2 c1) (fun r m' h' => gx_to_pick [0, 1, 3] h'))

/-- worthOfAll from 25 on -/
theorem gt240_25 {xs : List Int32} {w0 : sx_W} {d : Nat} {Q : gx_Q} {m : gx_M} {x1 x3 s0 s1 : Int} (r_x3 : 0 ≤ x3 ∧ x3 ≤ 7)
    (h1 : gx_to xs w0 d yp_m240 4 [(0, .inr 86), (1, .inl x1), (2, .inl (gx_or s0 s1)), (3, .inl (x3 + 1))] [] m Q) : gx_to xs w0 d yp_m240 25 [(0, .inr 86), (1, .inl x1), (3, .inl x3)] [.inl s1, .inl s0] m Q := by
  have e1 : gx_w (x3 + 1) = x3 + 1 := gx_w_id (by omega) (by omega)
  refine gx_blk (C := True) (npc := 4) (L' := [(0, .inr 86), (1, .inl x1), (3, .inl (gx_w (x3 + 1))), (2, .inl (gx_or s0 s1))]) (st' := []) (m' := m) [((25, .ior, 1, 0, 0, 0, 0), (0, 0, 0)), ((26, .istore_n 2, 1, 0, 0, 0, 0), (0, 0, 0)), ((27, .iinc 3 1, 3, 0, 0, 0, 0), (0, 0, 0)), ((30, .goto (-26), 3, 0, 0, 0, 0), (0, 0, 0))] (by decide +kernel) rfl trivial ?_
  rw [e1]
  exact gx_to_pick [0, 1, 2, 3] h1

/-- worthOfAll from 39 on -/
theorem gt240_39 {xs : List Int32} {w0 : sx_W} {d : Nat} {Q : gx_Q} {m : gx_M} {s0 s1 : Int}
    (h1 : Q (some (gx_w (s0 * s1))) m) : gx_to xs w0 d yp_m240 39 [] [.inl s1, .inl s0] m Q := by
  refine gx_blk (C := True) (npc := 40) (L' := []) (st' := [.inl (gx_w (s0 * s1))]) (m' := m) [((39, .imul, 1, 0, 0, 0, 0), (0, 0, 0))] (by decide +kernel) rfl trivial ?_
  exact gx_reti (by decide +kernel) h1

/-- worthOf from 0 on -/
theorem gt224_0 {xs : List Int32} {w0 : sx_W} {d : Nat} {Q : gx_Q} {m : gx_M} {x1 x2 : Int}
    (h1 : gx_to xs w0 d yp_m202 0 [(0, .inr 86), (1, .inl x1), (2, .inl x2), (3, .inl 0)] [] m (fun r m' => gx_to xs w0 (d + 1) yp_m224 7 [(0, .inr 86)] (gx_rs r ++ []) m' Q)) : gx_to xs w0 (d + 1) yp_m224 0 [(0, .inr 86), (1, .inl x1), (2, .inl x2)] [] m Q := by
  refine gx_blk (C := True) (npc := 4) (L' := [(0, .inr 86), (1, .inl x1), (2, .inl x2)]) (st' := [.inl 0, .inl x2, .inl x1, .inr 86]) (m' := m) [((0, .aload_n 0, 1, 0, 0, 0, 0), (0, 0, 0)), ((1, .iload_n 1, 1, 0, 0, 0, 0), (0, 0, 0)), ((2, .iload_n 2, 1, 0, 0, 0, 0), (0, 0, 0)), ((3, .iconst 0, 1, 0, 0, 0, 0), (0, 0, 0))] (by decide +kernel) rfl trivial ?_
  exact gx_callv (E := (4, .invokevirtual 247, 3, 202, 0, 6179, 0)) (M' := yp_m202) (c := 86) [.inl x1, .inl x2, .inl 0] [] rfl (by decide +kernel) rfl ⟨rfl, rfl⟩ rfl rfl (Nat.le_of_ble_eq_true rfl) (Nat.le_of_ble_eq_true rfl) (by decide +kernel) (gx_to_mono h1 (fun r m' h' => gx_to_pick [0] h'))

/-- worthOf from 7 on -/
theorem gt224_7 {xs : List Int32} {w0 : sx_W} {d : Nat} {Q : gx_Q} {m : gx_M}
    (h1 : gx_to xs w0 d yp_m225 0 [(0, .inr 86), (1, .inl 118), (2, .inl 999)] [] m (fun r m' => gx_to xs w0 (d + 1) yp_m224 16 [] (gx_rs r ++ []) m' Q)) : gx_to xs w0 (d + 1) yp_m224 7 [(0, .inr 86)] [] m Q := by
  refine gx_blk (C := True) (npc := 13) (L' := [(0, .inr 86)]) (st' := [.inl 999, .inl 118, .inr 86]) (m' := m) [((7, .aload_n 0, 1, 0, 0, 0, 0), (0, 0, 0)), ((8, .bipush 118, 2, 0, 0, 0, 0), (0, 0, 0)), ((10, .sipush 999, 3, 0, 0, 0, 0), (0, 0, 0))] (by decide +kernel) rfl trivial ?_
  exact gx_callv (E := (13, .invokevirtual 251, 3, 225, 0, 7028, 0)) (M' := yp_m225) (c := 86) [.inl 118, .inl 999] [] rfl (by decide +kernel) rfl ⟨rfl, rfl⟩ rfl rfl (Nat.le_of_ble_eq_true rfl) (Nat.le_of_ble_eq_true rfl) (by decide +kernel) (gx_to_mono h1 (fun r m' h' => gx_to_pick [] h'))

/-- worthOf from 16 on -/
theorem gt224_16 {xs : List Int32} {w0 : sx_W} {d : Nat} {Q : gx_Q} {m : gx_M} {s0 : Int}
    (h1 : Q (some s0) m) : gx_to xs w0 d yp_m224 16 [] [.inl s0] m Q := by
  exact gx_reti (by decide +kernel) h1

/-- share from 0 on -/
theorem gt238_0 {xs : List Int32} {w0 : sx_W} {d : Nat} {Q : gx_Q} {m : gx_M} {x1 x2 x3 : Int} (hI : gx_I m)
    (h1 : ((gx_and x1 (gx_xor (m 87 1128) (-1))) ≠ 0) → Q (some (-1)) m)
    (h2 : ((gx_and x1 (gx_xor (m 87 1128) (-1))) = 0) → gx_to xs w0 d yp_m206 0 [(0, .inl x1)] [] m (fun r m' => gx_to xs w0 (d + 1) yp_m238 19 [(0, .inr 86), (1, .inl x1), (2, .inl x2), (3, .inl x3)] (gx_rs r ++ []) m' Q)) : gx_to xs w0 (d + 1) yp_m238 0 [(0, .inr 86), (1, .inl x1), (2, .inl x2), (3, .inl x3)] [] m Q := by
  have f1 := gx_I_n hI 87 1128 0 255 (by decide +kernel)
  refine gx_blk (C := (True ∧ (0 ≤ 1128 ∧ 1128 < 1131))) (npc := 12) (L' := [(0, .inr 86), (1, .inl x1), (2, .inl x2), (3, .inl x3)]) (st' := [.inl (gx_and x1 (gx_xor (m 87 1128) (-1)))]) (m' := m) [((0, .iload_n 1, 1, 0, 0, 0, 0), (0, 0, 0)), ((1, .aload_n 0, 1, 0, 0, 0, 0), (0, 0, 0)), ((2, .getfield 7, 3, 10, 0, 5113, 0), (1, 86, 87)), ((5, .sipush 1128, 3, 0, 0, 0, 0), (0, 0, 0)), ((8, .iaload, 1, 0, 0, 0, 0), (0, 87, 1131)), ((9, .iconst (-1), 1, 0, 0, 0, 0), (0, 0, 0)), ((10, .ixor, 1, 0, 0, 0, 0), (0, 0, 0)), ((11, .iand, 1, 0, 0, 0, 0), (0, 0, 0))] (by decide +kernel) rfl ⟨trivial, (by omega)⟩ ?_
  refine gx_if .ne 54 (by decide +kernel) (fun c1 => ?_) (fun c1 => ?_)
  · have c1 : (gx_and x1 (gx_xor (m 87 1128) (-1))) ≠ 0 := c1
    refine gx_blk (C := True) (npc := 55) (L' := [(0, .inr 86), (1, .inl x1), (2, .inl x2), (3, .inl x3)]) (st' := [.inl (-1)]) (m' := m) [((54, .iconst (-1), 1, 0, 0, 0, 0), (0, 0, 0))] (by decide +kernel) rfl trivial ?_
    exact gx_reti (by decide +kernel) (h1 c1)
  · have c1 : (gx_and x1 (gx_xor (m 87 1128) (-1))) = 0 := by have h : ¬ ((gx_and x1 (gx_xor (m 87 1128) (-1))) ≠ 0) := c1; omega
    refine gx_blk (C := True) (npc := 16) (L' := [(0, .inr 86), (1, .inl x1), (2, .inl x2), (3, .inl x3)]) (st' := [.inl x1]) (m' := m) [((15, .iload_n 1, 1, 0, 0, 0, 0), (0, 0, 0))] (by decide +kernel) rfl trivial ?_
    exact gx_calls (E := (16, .invokestatic 241, 3, 206, 0, 6195, 0)) (M' := yp_m206) [.inl x1] [] rfl (by decide +kernel) rfl ⟨rfl, rfl⟩ rfl rfl (Nat.le_of_ble_eq_true rfl) (Nat.le_of_ble_eq_true rfl) rfl (gx_to_mono (h2 c1) (fun r m' h' => gx_to_pick [0, 1, 2, 3] h'))

/-- share from 19 on -/
theorem gt238_19 {xs : List Int32} {w0 : sx_W} {d : Nat} {Q : gx_Q} {m : gx_M} {x1 x2 x3 s0 : Int}
    (h1 : gx_to xs w0 d yp_m162 0 [(0, .inl s0), (1, .inl 1), (2, .inl 5)] [] m (fun r m' => gx_to xs w0 (d + 1) yp_m238 24 [(0, .inr 86), (1, .inl x1), (2, .inl x2), (3, .inl x3)] (gx_rs r ++ []) m' Q)) : gx_to xs w0 (d + 1) yp_m238 19 [(0, .inr 86), (1, .inl x1), (2, .inl x2), (3, .inl x3)] [.inl s0] m Q := by
  refine gx_blk (C := True) (npc := 21) (L' := [(0, .inr 86), (1, .inl x1), (2, .inl x2), (3, .inl x3)]) (st' := [.inl 5, .inl 1, .inl s0]) (m' := m) [((19, .iconst 1, 1, 0, 0, 0, 0), (0, 0, 0)), ((20, .iconst 5, 1, 0, 0, 0, 0), (0, 0, 0))] (by decide +kernel) rfl trivial ?_
  exact gx_calls (E := (21, .invokestatic 108, 3, 162, 0, 6023, 0)) (M' := yp_m162) [.inl s0, .inl 1, .inl 5] [] rfl (by decide +kernel) rfl ⟨rfl, rfl⟩ rfl rfl (Nat.le_of_ble_eq_true rfl) (Nat.le_of_ble_eq_true rfl) rfl (gx_to_mono h1 (fun r m' h' => gx_to_pick [0, 1, 2, 3] h'))

/-- share from 24 on -/
theorem gt238_24 {xs : List Int32} {w0 : sx_W} {d : Nat} {Q : gx_Q} {m : gx_M} {x1 x2 x3 s0 : Int}
    (h1 : (s0 = 0) → Q (some (-1)) m)
    (h2 : (s0 ≠ 0) → gx_to xs w0 d yp_m162 0 [(0, .inl x2), (1, .inl 0), (2, .inl 7)] [] m (fun r m' => gx_to xs w0 (d + 1) yp_m238 34 [(0, .inr 86), (1, .inl x1), (2, .inl x2), (3, .inl x3)] (gx_rs r ++ []) m' Q)) : gx_to xs w0 (d + 1) yp_m238 24 [(0, .inr 86), (1, .inl x1), (2, .inl x2), (3, .inl x3)] [.inl s0] m Q := by
  refine gx_if .eq 54 (by decide +kernel) (fun c1 => ?_) (fun c1 => ?_)
  · have c1 : s0 = 0 := c1
    refine gx_blk (C := True) (npc := 55) (L' := [(0, .inr 86), (1, .inl x1), (2, .inl x2), (3, .inl x3)]) (st' := [.inl (-1)]) (m' := m) [((54, .iconst (-1), 1, 0, 0, 0, 0), (0, 0, 0))] (by decide +kernel) rfl trivial ?_
    exact gx_reti (by decide +kernel) (h1 c1)
  · have c1 : s0 ≠ 0 := c1
    refine gx_blk (C := True) (npc := 31) (L' := [(0, .inr 86), (1, .inl x1), (2, .inl x2), (3, .inl x3)]) (st' := [.inl 7, .inl 0, .inl x2]) (m' := m) [((27, .iload_n 2, 1, 0, 0, 0, 0), (0, 0, 0)), ((28, .iconst 0, 1, 0, 0, 0, 0), (0, 0, 0)), ((29, .bipush 7, 2, 0, 0, 0, 0), (0, 0, 0))] (by decide +kernel) rfl trivial ?_
    exact gx_calls (E := (31, .invokestatic 108, 3, 162, 0, 6023, 0)) (M' := yp_m162) [.inl x2, .inl 0, .inl 7] [] rfl (by decide +kernel) rfl ⟨rfl, rfl⟩ rfl rfl (Nat.le_of_ble_eq_true rfl) (Nat.le_of_ble_eq_true rfl) rfl (gx_to_mono (h2 c1) (fun r m' h' => gx_to_pick [0, 1, 2, 3] h'))

/-- share from 34 on -/
theorem gt238_34 {xs : List Int32} {w0 : sx_W} {d : Nat} {Q : gx_Q} {m : gx_M} {x1 x2 x3 s0 : Int}
    (h1 : (s0 = 0) → Q (some (-1)) m)
    (h2 : (s0 ≠ 0) → gx_to xs w0 d yp_m165 0 [(0, .inl x1), (1, .inl x2)] [] m (fun r m' => gx_to xs w0 (d + 1) yp_m238 42 [(0, .inr 86), (1, .inl x1), (2, .inl x2), (3, .inl x3)] (gx_rs r ++ []) m' Q)) : gx_to xs w0 (d + 1) yp_m238 34 [(0, .inr 86), (1, .inl x1), (2, .inl x2), (3, .inl x3)] [.inl s0] m Q := by
  refine gx_if .eq 54 (by decide +kernel) (fun c1 => ?_) (fun c1 => ?_)
  · have c1 : s0 = 0 := c1
    refine gx_blk (C := True) (npc := 55) (L' := [(0, .inr 86), (1, .inl x1), (2, .inl x2), (3, .inl x3)]) (st' := [.inl (-1)]) (m' := m) [((54, .iconst (-1), 1, 0, 0, 0, 0), (0, 0, 0))] (by decide +kernel) rfl trivial ?_
    exact gx_reti (by decide +kernel) (h1 c1)
  · have c1 : s0 ≠ 0 := c1
    refine gx_blk (C := True) (npc := 39) (L' := [(0, .inr 86), (1, .inl x1), (2, .inl x2), (3, .inl x3)]) (st' := [.inl x2, .inl x1]) (m' := m) [((37, .iload_n 1, 1, 0, 0, 0, 0), (0, 0, 0)), ((38, .iload_n 2, 1, 0, 0, 0, 0), (0, 0, 0))] (by decide +kernel) rfl trivial ?_
    exact gx_calls (E := (39, .invokestatic 104, 3, 165, 0, 6035, 0)) (M' := yp_m165) [.inl x1, .inl x2] [] rfl (by decide +kernel) rfl ⟨rfl, rfl⟩ rfl rfl (Nat.le_of_ble_eq_true rfl) (Nat.le_of_ble_eq_true rfl) rfl (gx_to_mono (h2 c1) (fun r m' h' => gx_to_pick [0, 1, 2, 3] h'))

/-- share from 42 on -/
theorem gt238_42 {xs : List Int32} {w0 : sx_W} {d : Nat} {Q : gx_Q} {m : gx_M} {x1 x2 x3 s0 : Int}
    (h1 : (s0 = 0) → Q (some (-1)) m)
    (h2 : (s0 ≠ 0) → gx_to xs w0 d yp_m162 0 [(0, .inl x3), (1, .inl 0), (2, .inl 1)] [] m (fun r m' => gx_to xs w0 (d + 1) yp_m238 51 [(0, .inr 86), (1, .inl x1), (2, .inl x2), (3, .inl x3)] (gx_rs r ++ []) m' Q)) : gx_to xs w0 (d + 1) yp_m238 42 [(0, .inr 86), (1, .inl x1), (2, .inl x2), (3, .inl x3)] [.inl s0] m Q := by
  refine gx_if .eq 54 (by decide +kernel) (fun c1 => ?_) (fun c1 => ?_)
  · have c1 : s0 = 0 := c1
    refine gx_blk (C := True) (npc := 55) (L' := [(0, .inr 86), (1, .inl x1), (2, .inl x2), (3, .inl x3)]) (st' := [.inl (-1)]) (m' := m) [((54, .iconst (-1), 1, 0, 0, 0, 0), (0, 0, 0))] (by decide +kernel) rfl trivial ?_
    exact gx_reti (by decide +kernel) (h1 c1)
  · have c1 : s0 ≠ 0 := c1
    refine gx_blk (C := True) (npc := 48) (L' := [(0, .inr 86), (1, .inl x1), (2, .inl x2), (3, .inl x3)]) (st' := [.inl 1, .inl 0, .inl x3]) (m' := m) [((45, .iload_n 3, 1, 0, 0, 0, 0), (0, 0, 0)), ((46, .iconst 0, 1, 0, 0, 0, 0), (0, 0, 0)), ((47, .iconst 1, 1, 0, 0, 0, 0), (0, 0, 0))] (by decide +kernel) rfl trivial ?_
    exact gx_calls (E := (48, .invokestatic 108, 3, 162, 0, 6023, 0)) (M' := yp_m162) [.inl x3, .inl 0, .inl 1] [] rfl (by decide +kernel) rfl ⟨rfl, rfl⟩ rfl rfl (Nat.le_of_ble_eq_true rfl) (Nat.le_of_ble_eq_true rfl) rfl (gx_to_mono (h2 c1) (fun r m' h' => gx_to_pick [0, 1, 2, 3] h'))

/-- share from 51 on -/
theorem gt238_51 {xs : List Int32} {w0 : sx_W} {d : Nat} {Q : gx_Q} {m : gx_M} {x1 x2 x3 s0 : Int}
    (h1 : (s0 ≠ 0) → gx_to xs w0 d yp_m206 0 [(0, .inl x1)] [] m (fun r m' => gx_to xs w0 (d + 1) yp_m238 60 [(0, .inr 86), (1, .inl x1), (2, .inl x2), (3, .inl x3)] (gx_rs r ++ []) m' Q))
    (h2 : (s0 = 0) → Q (some (-1)) m) : gx_to xs w0 (d + 1) yp_m238 51 [(0, .inr 86), (1, .inl x1), (2, .inl x2), (3, .inl x3)] [.inl s0] m Q := by
  refine gx_if .ne 56 (by decide +kernel) (fun c1 => ?_) (fun c1 => ?_)
  · have c1 : s0 ≠ 0 := c1
    refine gx_blk (C := True) (npc := 57) (L' := [(0, .inr 86), (1, .inl x1), (2, .inl x2), (3, .inl x3)]) (st' := [.inl x1]) (m' := m) [((56, .iload_n 1, 1, 0, 0, 0, 0), (0, 0, 0))] (by decide +kernel) rfl trivial ?_
    exact gx_calls (E := (57, .invokestatic 241, 3, 206, 0, 6195, 0)) (M' := yp_m206) [.inl x1] [] rfl (by decide +kernel) rfl ⟨rfl, rfl⟩ rfl rfl (Nat.le_of_ble_eq_true rfl) (Nat.le_of_ble_eq_true rfl) rfl (gx_to_mono (h1 c1) (fun r m' h' => gx_to_pick [0, 1, 2, 3] h'))
  · have c1 : s0 = 0 := by have h : ¬ (s0 ≠ 0) := c1; omega
    refine gx_blk (C := True) (npc := 55) (L' := [(0, .inr 86), (1, .inl x1), (2, .inl x2), (3, .inl x3)]) (st' := [.inl (-1)]) (m' := m) [((54, .iconst (-1), 1, 0, 0, 0, 0), (0, 0, 0))] (by decide +kernel) rfl trivial ?_
    exact gx_reti (by decide +kernel) (h2 c1)

/-- share from 60 on -/
theorem gt238_60 {xs : List Int32} {w0 : sx_W} {d : Nat} {Q : gx_Q} {m : gx_M} {x1 x2 x3 s0 : Int}
    (h1 : gx_to xs w0 d yp_m238 68 [(0, .inr 86), (1, .inl x1), (2, .inl x2), (3, .inl x3), (4, .inl s0), (5, .inl 0), (6, .inl 0)] [] m Q) : gx_to xs w0 d yp_m238 60 [(0, .inr 86), (1, .inl x1), (2, .inl x2), (3, .inl x3)] [.inl s0] m Q := by
  refine gx_blk (C := True) (npc := 68) (L' := [(0, .inr 86), (1, .inl x1), (2, .inl x2), (3, .inl x3), (4, .inl s0), (5, .inl 0), (6, .inl 0)]) (st' := []) (m' := m) [((60, .istore 4, 2, 0, 0, 0, 0), (0, 0, 0)), ((62, .iconst 0, 1, 0, 0, 0, 0), (0, 0, 0)), ((63, .istore 5, 2, 0, 0, 0, 0), (0, 0, 0)), ((65, .iconst 0, 1, 0, 0, 0, 0), (0, 0, 0)), ((66, .istore 6, 2, 0, 0, 0, 0), (0, 0, 0))] (by decide +kernel) rfl trivial ?_
  exact gx_to_pick [0, 1, 2, 3, 4, 5, 6] h1

/-- share from 68 on -/
theorem gt238_68 {xs : List Int32} {w0 : sx_W} {d : Nat} {Q : gx_Q} {m : gx_M} {x1 x2 x3 x4 x5 x6 : Int} (r_x4 : 1 ≤ x4 ∧ x4 ≤ 5) (r_x6 : 0 ≤ x6 ∧ x6 ≤ 256)
    (h1 : (256 ≤ x6) → gx_to xs w0 d yp_m239 0 [(0, .inl x4)] [] m (fun r m' => gx_to xs w0 (d + 1) yp_m238 155 [(3, .inl x3), (4, .inl x4), (5, .inl x5)] (gx_rs r ++ [.inl x5]) m' Q))
    (h2 : (x6 < 256) → ((gx_and x6 (gx_xor x1 (-1))) ≠ 0) → gx_to xs w0 (d + 1) yp_m238 68 [(0, .inr 86), (1, .inl x1), (2, .inl x2), (3, .inl x3), (4, .inl x4), (5, .inl x5), (6, .inl (x6 + 1))] [] m Q)
    (h3 : (x6 < 256) → ((gx_and x6 (gx_xor x1 (-1))) = 0) → gx_to xs w0 d yp_m165 0 [(0, .inl x6), (1, .inl x2)] [] m (fun r m' => gx_to xs w0 (d + 1) yp_m238 91 [(0, .inr 86), (1, .inl x1), (2, .inl x2), (3, .inl x3), (4, .inl x4), (5, .inl x5), (6, .inl x6)] (gx_rs r ++ []) m' Q)) : gx_to xs w0 (d + 1) yp_m238 68 [(0, .inr 86), (1, .inl x1), (2, .inl x2), (3, .inl x3), (4, .inl x4), (5, .inl x5), (6, .inl x6)] [] m Q := by
  refine gx_blk (C := True) (npc := 73) (L' := [(0, .inr 86), (1, .inl x1), (2, .inl x2), (3, .inl x3), (4, .inl x4), (5, .inl x5), (6, .inl x6)]) (st' := [.inl 256, .inl x6]) (m' := m) [((68, .iload 6, 2, 0, 0, 0, 0), (0, 0, 0)), ((70, .sipush 256, 3, 0, 0, 0, 0), (0, 0, 0))] (by decide +kernel) rfl trivial ?_
  refine gx_cmp .ge 148 (by decide +kernel) (fun c1 => ?_) (fun c1 => ?_)
  · have c1 : 256 ≤ x6 := c1
    refine gx_blk (C := True) (npc := 152) (L' := [(0, .inr 86), (1, .inl x1), (2, .inl x2), (3, .inl x3), (4, .inl x4), (5, .inl x5), (6, .inl x6)]) (st' := [.inl x4, .inl x5]) (m' := m) [((148, .iload 5, 2, 0, 0, 0, 0), (0, 0, 0)), ((150, .iload 4, 2, 0, 0, 0, 0), (0, 0, 0))] (by decide +kernel) rfl trivial ?_
    exact gx_calls (E := (152, .invokestatic 337, 3, 239, 0, 7085, 0)) (M' := yp_m239) [.inl x4] [.inl x5] rfl (by decide +kernel) rfl ⟨rfl, rfl⟩ rfl rfl (Nat.le_of_ble_eq_true rfl) (Nat.le_of_ble_eq_true rfl) rfl (gx_to_mono (h1 c1) (fun r m' h' => gx_to_pick [3, 4, 5] h'))
  · have c1 : x6 < 256 := by have h : ¬ (256 ≤ x6) := c1; omega
    refine gx_blk (C := True) (npc := 82) (L' := [(0, .inr 86), (1, .inl x1), (2, .inl x2), (3, .inl x3), (4, .inl x4), (5, .inl x5), (6, .inl x6)]) (st' := [.inl (gx_and x6 (gx_xor x1 (-1)))]) (m' := m) [((76, .iload 6, 2, 0, 0, 0, 0), (0, 0, 0)), ((78, .iload_n 1, 1, 0, 0, 0, 0), (0, 0, 0)), ((79, .iconst (-1), 1, 0, 0, 0, 0), (0, 0, 0)), ((80, .ixor, 1, 0, 0, 0, 0), (0, 0, 0)), ((81, .iand, 1, 0, 0, 0, 0), (0, 0, 0))] (by decide +kernel) rfl trivial ?_
    refine gx_if .ne 142 (by decide +kernel) (fun c2 => ?_) (fun c2 => ?_)
    · have c2 : (gx_and x6 (gx_xor x1 (-1))) ≠ 0 := c2
      have e1 : gx_w (x6 + 1) = x6 + 1 := gx_w_id (by omega) (by omega)
      refine gx_blk (C := True) (npc := 68) (L' := [(0, .inr 86), (1, .inl x1), (2, .inl x2), (3, .inl x3), (4, .inl x4), (5, .inl x5), (6, .inl (gx_w (x6 + 1)))]) (st' := []) (m' := m) [((142, .iinc 6 1, 3, 0, 0, 0, 0), (0, 0, 0)), ((145, .goto (-77), 3, 0, 0, 0, 0), (0, 0, 0))] (by decide +kernel) rfl trivial ?_
      rw [e1]
      exact gx_to_pick [0, 1, 2, 3, 4, 5, 6] (h2 c1 c2)
    · have c2 : (gx_and x6 (gx_xor x1 (-1))) = 0 := by have h : ¬ ((gx_and x6 (gx_xor x1 (-1))) ≠ 0) := c2; omega
      refine gx_blk (C := True) (npc := 88) (L' := [(0, .inr 86), (1, .inl x1), (2, .inl x2), (3, .inl x3), (4, .inl x4), (5, .inl x5), (6, .inl x6)]) (st' := [.inl x2, .inl x6]) (m' := m) [((85, .iload 6, 2, 0, 0, 0, 0), (0, 0, 0)), ((87, .iload_n 2, 1, 0, 0, 0, 0), (0, 0, 0))] (by decide +kernel) rfl trivial ?_
      exact gx_calls (E := (88, .invokestatic 104, 3, 165, 0, 6035, 0)) (M' := yp_m165) [.inl x6, .inl x2] [] rfl (by decide +kernel) rfl ⟨rfl, rfl⟩ rfl rfl (Nat.le_of_ble_eq_true rfl) (Nat.le_of_ble_eq_true rfl) rfl (gx_to_mono (h3 c1 c2) (fun r m' h' => gx_to_pick [0, 1, 2, 3, 4, 5, 6] h'))

/-- share from 91 on -/
theorem gt238_91 {xs : List Int32} {w0 : sx_W} {d : Nat} {Q : gx_Q} {m : gx_M} {x1 x2 x3 x4 x5 x6 s0 : Int} (r_x4 : 1 ≤ x4 ∧ x4 ≤ 5) (r_x6 : 0 ≤ x6 ∧ x6 ≤ 255)
    (h1 : (s0 = 0) → gx_to xs w0 d yp_m206 0 [(0, .inl x6)] [] m (fun r m' => gx_to xs w0 (d + 1) yp_m238 104 [(0, .inr 86), (1, .inl x1), (2, .inl x2), (3, .inl x3), (4, .inl x4), (6, .inl x6)] (gx_rs r ++ [.inl x5]) m' Q))
    (h2 : (s0 ≠ 0) → gx_to xs w0 (d + 1) yp_m238 68 [(0, .inr 86), (1, .inl x1), (2, .inl x2), (3, .inl x3), (4, .inl x4), (5, .inl x5), (6, .inl (x6 + 1))] [] m Q) : gx_to xs w0 (d + 1) yp_m238 91 [(0, .inr 86), (1, .inl x1), (2, .inl x2), (3, .inl x3), (4, .inl x4), (5, .inl x5), (6, .inl x6)] [.inl s0] m Q := by
  refine gx_if .eq 97 (by decide +kernel) (fun c1 => ?_) (fun c1 => ?_)
  · have c1 : s0 = 0 := c1
    refine gx_blk (C := True) (npc := 101) (L' := [(0, .inr 86), (1, .inl x1), (2, .inl x2), (3, .inl x3), (4, .inl x4), (5, .inl x5), (6, .inl x6)]) (st' := [.inl x6, .inl x5]) (m' := m) [((97, .iload 5, 2, 0, 0, 0, 0), (0, 0, 0)), ((99, .iload 6, 2, 0, 0, 0, 0), (0, 0, 0))] (by decide +kernel) rfl trivial ?_
    exact gx_calls (E := (101, .invokestatic 241, 3, 206, 0, 6195, 0)) (M' := yp_m206) [.inl x6] [.inl x5] rfl (by decide +kernel) rfl ⟨rfl, rfl⟩ rfl rfl (Nat.le_of_ble_eq_true rfl) (Nat.le_of_ble_eq_true rfl) rfl (gx_to_mono (h1 c1) (fun r m' h' => gx_to_pick [0, 1, 2, 3, 4, 6] h'))
  · have c1 : s0 ≠ 0 := c1
    have e1 : gx_w (x6 + 1) = x6 + 1 := gx_w_id (by omega) (by omega)
    refine gx_blk (C := True) (npc := 68) (L' := [(0, .inr 86), (1, .inl x1), (2, .inl x2), (3, .inl x3), (4, .inl x4), (5, .inl x5), (6, .inl (gx_w (x6 + 1)))]) (st' := []) (m' := m) [((94, .goto 48, 3, 0, 0, 0, 0), (0, 0, 0)), ((142, .iinc 6 1, 3, 0, 0, 0, 0), (0, 0, 0)), ((145, .goto (-77), 3, 0, 0, 0, 0), (0, 0, 0))] (by decide +kernel) rfl trivial ?_
    rw [e1]
    exact gx_to_pick [0, 1, 2, 3, 4, 5, 6] (h2 c1)

/-- share from 104 on -/
theorem gt238_104 {xs : List Int32} {w0 : sx_W} {d : Nat} {Q : gx_Q} {m : gx_M} {x1 x2 x3 x4 x6 s0 s1 : Int} (r_x4 : 1 ≤ x4 ∧ x4 ≤ 5) (r_x6 : 0 ≤ x6 ∧ x6 ≤ 255)
    (h1 : gx_to xs w0 d yp_m239 0 [(0, .inl s1)] [] m (fun r m' => gx_to xs w0 (d + 1) yp_m238 107 [(0, .inr 86), (1, .inl x1), (2, .inl x2), (3, .inl x3), (4, .inl x4), (6, .inl x6)] (gx_rs r ++ [.inl s0]) m' Q)) : gx_to xs w0 (d + 1) yp_m238 104 [(0, .inr 86), (1, .inl x1), (2, .inl x2), (3, .inl x3), (4, .inl x4), (6, .inl x6)] [.inl s1, .inl s0] m Q := by
  exact gx_calls (E := (104, .invokestatic 337, 3, 239, 0, 7085, 0)) (M' := yp_m239) [.inl s1] [.inl s0] rfl (by decide +kernel) rfl ⟨rfl, rfl⟩ rfl rfl (Nat.le_of_ble_eq_true rfl) (Nat.le_of_ble_eq_true rfl) rfl (gx_to_mono h1 (fun r m' h' => gx_to_pick [0, 1, 2, 3, 4, 6] h'))

/-- share from 107 on -/
theorem gt238_107 {xs : List Int32} {w0 : sx_W} {d : Nat} {Q : gx_Q} {m : gx_M} {x1 x2 x3 x4 x6 s0 s1 : Int} (r_x4 : 1 ≤ x4 ∧ x4 ≤ 5) (r_x6 : 0 ≤ x6 ∧ x6 ≤ 255)
    (h1 : gx_to xs w0 d yp_m206 0 [(0, .inl x6)] [] m (fun r m' => gx_to xs w0 (d + 1) yp_m238 116 [(0, .inr 86), (1, .inl x1), (2, .inl x2), (3, .inl x3), (4, .inl x4), (6, .inl x6)] (gx_rs r ++ [.inl (x4 - 1), .inl s1, .inl s0]) m' Q)) : gx_to xs w0 (d + 1) yp_m238 107 [(0, .inr 86), (1, .inl x1), (2, .inl x2), (3, .inl x3), (4, .inl x4), (6, .inl x6)] [.inl s1, .inl s0] m Q := by
  have e1 : gx_w (x4 - 1) = x4 - 1 := gx_w_id (by omega) (by omega)
  refine gx_blk (C := True) (npc := 113) (L' := [(0, .inr 86), (1, .inl x1), (2, .inl x2), (3, .inl x3), (4, .inl x4), (6, .inl x6)]) (st' := [.inl x6, .inl (gx_w (x4 - 1)), .inl s1, .inl s0]) (m' := m) [((107, .iload 4, 2, 0, 0, 0, 0), (0, 0, 0)), ((109, .iconst 1, 1, 0, 0, 0, 0), (0, 0, 0)), ((110, .isub, 1, 0, 0, 0, 0), (0, 0, 0)), ((111, .iload 6, 2, 0, 0, 0, 0), (0, 0, 0))] (by decide +kernel) rfl trivial ?_
  rw [e1]
  exact gx_calls (E := (113, .invokestatic 241, 3, 206, 0, 6195, 0)) (M' := yp_m206) [.inl x6] [.inl (x4 - 1), .inl s1, .inl s0] rfl (by decide +kernel) rfl ⟨rfl, rfl⟩ rfl rfl (Nat.le_of_ble_eq_true rfl) (Nat.le_of_ble_eq_true rfl) rfl (gx_to_mono h1 (fun r m' h' => gx_to_pick [0, 1, 2, 3, 4, 6] h'))

/-- share from 116 on -/
theorem gt238_116 {xs : List Int32} {w0 : sx_W} {d : Nat} {Q : gx_Q} {m : gx_M} {x1 x2 x3 x4 x6 s0 s1 s2 s3 : Int} (r_x4 : 1 ≤ x4 ∧ x4 ≤ 5) (r_x6 : 0 ≤ x6 ∧ x6 ≤ 255) (r_s2 : 0 ≤ s2 ∧ s2 ≤ 4) (r_s3 : 0 ≤ s3 ∧ s3 ≤ 20)
    (h1 : gx_to xs w0 d yp_m239 0 [(0, .inl (s2 - s3))] [] m (fun r m' => gx_to xs w0 (d + 1) yp_m238 120 [(0, .inr 86), (1, .inl x1), (2, .inl x2), (3, .inl x3), (4, .inl x4), (6, .inl x6)] (gx_rs r ++ [.inl s1, .inl s0]) m' Q)) : gx_to xs w0 (d + 1) yp_m238 116 [(0, .inr 86), (1, .inl x1), (2, .inl x2), (3, .inl x3), (4, .inl x4), (6, .inl x6)] [.inl s3, .inl s2, .inl s1, .inl s0] m Q := by
  have e1 : gx_w (s2 - s3) = s2 - s3 := gx_w_id (by omega) (by omega)
  refine gx_blk (C := True) (npc := 117) (L' := [(0, .inr 86), (1, .inl x1), (2, .inl x2), (3, .inl x3), (4, .inl x4), (6, .inl x6)]) (st' := [.inl (gx_w (s2 - s3)), .inl s1, .inl s0]) (m' := m) [((116, .isub, 1, 0, 0, 0, 0), (0, 0, 0))] (by decide +kernel) rfl trivial ?_
  rw [e1]
  exact gx_calls (E := (117, .invokestatic 337, 3, 239, 0, 7085, 0)) (M' := yp_m239) [.inl (s2 - s3)] [.inl s1, .inl s0] rfl (by decide +kernel) rfl ⟨rfl, rfl⟩ rfl rfl (Nat.le_of_ble_eq_true rfl) (Nat.le_of_ble_eq_true rfl) rfl (gx_to_mono h1 (fun r m' h' => gx_to_pick [0, 1, 2, 3, 4, 6] h'))

/-- share from 120 on -/
theorem gt238_120 {xs : List Int32} {w0 : sx_W} {d : Nat} {Q : gx_Q} {m : gx_M} {x1 x2 x3 x4 x6 s0 s1 s2 : Int} (r_x4 : 1 ≤ x4 ∧ x4 ≤ 5) (r_x6 : 0 ≤ x6 ∧ x6 ≤ 255)
    (h1 : gx_to xs w0 d yp_m240 0 [(0, .inr 86), (1, .inl (gx_or x6 (gx_shl 1 x2)))] [] m (fun r m' => gx_to xs w0 (d + 1) yp_m238 131 [(0, .inr 86), (1, .inl x1), (2, .inl x2), (3, .inl x3), (4, .inl x4), (6, .inl x6)] (gx_rs r ++ [.inl (gx_w (s1 * s2)), .inl s0]) m' Q)) : gx_to xs w0 (d + 1) yp_m238 120 [(0, .inr 86), (1, .inl x1), (2, .inl x2), (3, .inl x3), (4, .inl x4), (6, .inl x6)] [.inl s2, .inl s1, .inl s0] m Q := by
  refine gx_blk (C := True) (npc := 128) (L' := [(0, .inr 86), (1, .inl x1), (2, .inl x2), (3, .inl x3), (4, .inl x4), (6, .inl x6)]) (st' := [.inl (gx_or x6 (gx_shl 1 x2)), .inr 86, .inl (gx_w (s1 * s2)), .inl s0]) (m' := m) [((120, .imul, 1, 0, 0, 0, 0), (0, 0, 0)), ((121, .aload_n 0, 1, 0, 0, 0, 0), (0, 0, 0)), ((122, .iload 6, 2, 0, 0, 0, 0), (0, 0, 0)), ((124, .iconst 1, 1, 0, 0, 0, 0), (0, 0, 0)), ((125, .iload_n 2, 1, 0, 0, 0, 0), (0, 0, 0)), ((126, .ishl, 1, 0, 0, 0, 0), (0, 0, 0)), ((127, .ior, 1, 0, 0, 0, 0), (0, 0, 0))] (by decide +kernel) rfl trivial ?_
  exact gx_callv (E := (128, .invokevirtual 340, 3, 240, 0, 7088, 0)) (M' := yp_m240) (c := 86) [.inl (gx_or x6 (gx_shl 1 x2))] [.inl (gx_w (s1 * s2)), .inl s0] rfl (by decide +kernel) rfl ⟨rfl, rfl⟩ rfl rfl (Nat.le_of_ble_eq_true rfl) (Nat.le_of_ble_eq_true rfl) (by decide +kernel) (gx_to_mono h1 (fun r m' h' => gx_to_pick [0, 1, 2, 3, 4, 6] h'))

/-- share from 131 on -/
theorem gt238_131 {xs : List Int32} {w0 : sx_W} {d : Nat} {Q : gx_Q} {m : gx_M} {x1 x2 x3 x4 x6 s0 s1 s2 : Int} (r_x4 : 1 ≤ x4 ∧ x4 ≤ 5) (r_x6 : 0 ≤ x6 ∧ x6 ≤ 255)
    (h1 : gx_to xs w0 d yp_m240 0 [(0, .inr 86), (1, .inl x6)] [] m (fun r m' => gx_to xs w0 (d + 1) yp_m238 137 [(0, .inr 86), (1, .inl x1), (2, .inl x2), (3, .inl x3), (4, .inl x4), (6, .inl x6)] (gx_rs r ++ [.inl s2, .inl s1, .inl s0]) m' Q)) : gx_to xs w0 (d + 1) yp_m238 131 [(0, .inr 86), (1, .inl x1), (2, .inl x2), (3, .inl x3), (4, .inl x4), (6, .inl x6)] [.inl s2, .inl s1, .inl s0] m Q := by
  refine gx_blk (C := True) (npc := 134) (L' := [(0, .inr 86), (1, .inl x1), (2, .inl x2), (3, .inl x3), (4, .inl x4), (6, .inl x6)]) (st' := [.inl x6, .inr 86, .inl s2, .inl s1, .inl s0]) (m' := m) [((131, .aload_n 0, 1, 0, 0, 0, 0), (0, 0, 0)), ((132, .iload 6, 2, 0, 0, 0, 0), (0, 0, 0))] (by decide +kernel) rfl trivial ?_
  exact gx_callv (E := (134, .invokevirtual 340, 3, 240, 0, 7088, 0)) (M' := yp_m240) (c := 86) [.inl x6] [.inl s2, .inl s1, .inl s0] rfl (by decide +kernel) rfl ⟨rfl, rfl⟩ rfl rfl (Nat.le_of_ble_eq_true rfl) (Nat.le_of_ble_eq_true rfl) (by decide +kernel) (gx_to_mono h1 (fun r m' h' => gx_to_pick [0, 1, 2, 3, 4, 6] h'))

/-- share from 137 on -/
theorem gt238_137 {xs : List Int32} {w0 : sx_W} {d : Nat} {Q : gx_Q} {m : gx_M} {x1 x2 x3 x4 x6 s0 s1 s2 s3 : Int} (r_x4 : 1 ≤ x4 ∧ x4 ≤ 5) (r_x6 : 0 ≤ x6 ∧ x6 ≤ 255)
    (h1 : gx_to xs w0 d yp_m238 68 [(0, .inr 86), (1, .inl x1), (2, .inl x2), (3, .inl x3), (4, .inl x4), (5, .inl (gx_w (s0 + (gx_w (s1 * (gx_w (s2 - s3))))))), (6, .inl (x6 + 1))] [] m Q) : gx_to xs w0 d yp_m238 137 [(0, .inr 86), (1, .inl x1), (2, .inl x2), (3, .inl x3), (4, .inl x4), (6, .inl x6)] [.inl s3, .inl s2, .inl s1, .inl s0] m Q := by
  have e1 : gx_w (x6 + 1) = x6 + 1 := gx_w_id (by omega) (by omega)
  refine gx_blk (C := True) (npc := 68) (L' := [(0, .inr 86), (1, .inl x1), (2, .inl x2), (3, .inl x3), (4, .inl x4), (6, .inl (gx_w (x6 + 1))), (5, .inl (gx_w (s0 + (gx_w (s1 * (gx_w (s2 - s3)))))))]) (st' := []) (m' := m) [((137, .isub, 1, 0, 0, 0, 0), (0, 0, 0)), ((138, .imul, 1, 0, 0, 0, 0), (0, 0, 0)), ((139, .iadd, 1, 0, 0, 0, 0), (0, 0, 0)), ((140, .istore 5, 2, 0, 0, 0, 0), (0, 0, 0)), ((142, .iinc 6 1, 3, 0, 0, 0, 0), (0, 0, 0)), ((145, .goto (-77), 3, 0, 0, 0, 0), (0, 0, 0))] (by decide +kernel) rfl trivial ?_
  rw [e1]
  exact gx_to_pick [0, 1, 2, 3, 4, 5, 6] h1

/-- share from 155 on -/
theorem gt238_155 {xs : List Int32} {w0 : sx_W} {d : Nat} {Q : gx_Q} {m : gx_M} {x3 x4 x5 s0 s1 : Int}
    (h1 : gx_to xs w0 d yp_m241 0 [(0, .inl s0), (1, .inl s1)] [] m (fun r m' => gx_to xs w0 (d + 1) yp_m238 158 [(3, .inl x3), (4, .inl x4), (5, .inl x5)] (gx_rs r ++ []) m' Q)) : gx_to xs w0 (d + 1) yp_m238 155 [(3, .inl x3), (4, .inl x4), (5, .inl x5)] [.inl s1, .inl s0] m Q := by
  exact gx_calls (E := (155, .invokestatic 343, 3, 241, 0, 7092, 0)) (M' := yp_m241) [.inl s0, .inl s1] [] rfl (by decide +kernel) rfl ⟨rfl, rfl⟩ rfl rfl (Nat.le_of_ble_eq_true rfl) (Nat.le_of_ble_eq_true rfl) rfl (gx_to_mono h1 (fun r m' h' => gx_to_pick [3, 4, 5] h'))

/-- share from 158 on -/
theorem gt238_158 {xs : List Int32} {w0 : sx_W} {d : Nat} {Q : gx_Q} {m : gx_M} {x3 x4 x5 s0 : Int}
    (h1 : (x3 ≠ 0) → gx_to xs w0 d yp_m239 0 [(0, .inl x4)] [] m (fun r m' => gx_to xs w0 (d + 1) yp_m238 177 [(6, .inl s0)] (gx_rs r ++ []) m' Q))
    (k1 : (x3 = 0) → s0 ≠ 0)
    (h2 : (x3 = 0) → Q (some (gx_w (Int.tdiv x5 s0))) m) : gx_to xs w0 (d + 1) yp_m238 158 [(3, .inl x3), (4, .inl x4), (5, .inl x5)] [.inl s0] m Q := by
  refine gx_blk (C := True) (npc := 161) (L' := [(3, .inl x3), (4, .inl x4), (5, .inl x5), (6, .inl s0)]) (st' := [.inl x3]) (m' := m) [((158, .istore 6, 2, 0, 0, 0, 0), (0, 0, 0)), ((160, .iload_n 3, 1, 0, 0, 0, 0), (0, 0, 0))] (by decide +kernel) rfl trivial ?_
  refine gx_if .ne 172 (by decide +kernel) (fun c1 => ?_) (fun c1 => ?_)
  · have c1 : x3 ≠ 0 := c1
    refine gx_blk (C := True) (npc := 174) (L' := [(3, .inl x3), (4, .inl x4), (5, .inl x5), (6, .inl s0)]) (st' := [.inl x4]) (m' := m) [((172, .iload 4, 2, 0, 0, 0, 0), (0, 0, 0))] (by decide +kernel) rfl trivial ?_
    exact gx_calls (E := (174, .invokestatic 337, 3, 239, 0, 7085, 0)) (M' := yp_m239) [.inl x4] [] rfl (by decide +kernel) rfl ⟨rfl, rfl⟩ rfl rfl (Nat.le_of_ble_eq_true rfl) (Nat.le_of_ble_eq_true rfl) rfl (gx_to_mono (h1 c1) (fun r m' h' => gx_to_pick [6] h'))
  · have c1 : x3 = 0 := by have h : ¬ (x3 ≠ 0) := c1; omega
    refine gx_blk (C := (True ∧ (s0 ≠ 0))) (npc := 180) (L' := [(3, .inl x3), (4, .inl x4), (5, .inl x5), (6, .inl s0)]) (st' := [.inl (gx_w (Int.tdiv x5 s0))]) (m' := m) [((164, .iload 5, 2, 0, 0, 0, 0), (0, 0, 0)), ((166, .iload 6, 2, 0, 0, 0, 0), (0, 0, 0)), ((168, .idiv, 1, 0, 0, 0, 0), (0, 0, 0)), ((169, .goto 11, 3, 0, 0, 0, 0), (0, 0, 0))] (by decide +kernel) rfl ⟨trivial, (k1 c1)⟩ ?_
    exact gx_reti (by decide +kernel) (h2 c1)

/-- share from 177 on -/
theorem gt238_177 {xs : List Int32} {w0 : sx_W} {d : Nat} {Q : gx_Q} {m : gx_M} {x6 s0 : Int}
    (k1 : x6 ≠ 0)
    (h1 : Q (some (gx_w (Int.tdiv s0 x6))) m) : gx_to xs w0 d yp_m238 177 [(6, .inl x6)] [.inl s0] m Q := by
  refine gx_blk (C := (True ∧ (x6 ≠ 0))) (npc := 180) (L' := [(6, .inl x6)]) (st' := [.inl (gx_w (Int.tdiv s0 x6))]) (m' := m) [((177, .iload 6, 2, 0, 0, 0, 0), (0, 0, 0)), ((179, .idiv, 1, 0, 0, 0, 0), (0, 0, 0))] (by decide +kernel) rfl ⟨trivial, k1⟩ ?_
  exact gx_reti (by decide +kernel) h1

