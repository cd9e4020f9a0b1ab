/-! roads of methods read by hand, from cut points to the next ones (printed by wip/gen/gxall.py) -/
/-- in from 0 on -/
theorem gt162_0 {xs : List Int32} {w0 : sx_W} {d : Nat} {Q : gx_Q} {m : gx_M} {x0 x1 x2 : Int}
    (h1 : (x0 < x1) → Q (some 0) m)
    (h2 : (x1 ≤ x0) → (x2 < x0) → Q (some 0) m)
    (h3 : (x1 ≤ x0) → (x0 ≤ x2) → Q (some 1) m) : gx_to xs w0 d yp_m162 0 [(0, .inl x0), (1, .inl x1), (2, .inl x2)] [] m Q := by
  refine gx_blk (C := True) (npc := 2) (L' := [(0, .inl x0), (1, .inl x1), (2, .inl x2)]) (st' := [.inl x1, .inl x0]) (m' := m) [((0, .iload_n 0, 1, 0, 0, 0, 0), (0, 0, 0)), ((1, .iload_n 1, 1, 0, 0, 0, 0), (0, 0, 0))] (by decide +kernel) rfl trivial ?_
  refine gx_cmp .lt 14 (by decide +kernel) (fun c1 => ?_) (fun c1 => ?_)
  · have c1 : x0 < x1 := c1
    refine gx_blk (C := True) (npc := 15) (L' := [(0, .inl x0), (1, .inl x1), (2, .inl x2)]) (st' := [.inl 0]) (m' := m) [((14, .iconst 0, 1, 0, 0, 0, 0), (0, 0, 0))] (by decide +kernel) rfl trivial ?_
    exact gx_retb (by decide +kernel) (by omega) (h1 c1)
  · have c1 : x1 ≤ x0 := by have h : ¬ (x0 < x1) := c1; omega
    refine gx_blk (C := True) (npc := 7) (L' := [(0, .inl x0), (1, .inl x1), (2, .inl x2)]) (st' := [.inl x2, .inl x0]) (m' := m) [((5, .iload_n 0, 1, 0, 0, 0, 0), (0, 0, 0)), ((6, .iload_n 2, 1, 0, 0, 0, 0), (0, 0, 0))] (by decide +kernel) rfl trivial ?_
    refine gx_cmp .gt 14 (by decide +kernel) (fun c2 => ?_) (fun c2 => ?_)
    · have c2 : x2 < x0 := c2
      refine gx_blk (C := True) (npc := 15) (L' := [(0, .inl x0), (1, .inl x1), (2, .inl x2)]) (st' := [.inl 0]) (m' := m) [((14, .iconst 0, 1, 0, 0, 0, 0), (0, 0, 0))] (by decide +kernel) rfl trivial ?_
      exact gx_retb (by decide +kernel) (by omega) (h2 c1 c2)
    · have c2 : x0 ≤ x2 := by have h : ¬ (x2 < x0) := c2; omega
      refine gx_blk (C := True) (npc := 15) (L' := [(0, .inl x0), (1, .inl x1), (2, .inl x2)]) (st' := [.inl 1]) (m' := m) [((10, .iconst 1, 1, 0, 0, 0, 0), (0, 0, 0)), ((11, .goto 4, 3, 0, 0, 0, 0), (0, 0, 0))] (by decide +kernel) rfl trivial ?_
      exact gx_retb (by decide +kernel) (by omega) (h3 c1 c2)

/-- isPerson from 0 on -/
theorem gt164_0 {xs : List Int32} {w0 : sx_W} {d : Nat} {Q : gx_Q} {m : gx_M} {x1 : Int} (hI : gx_I m)
    (h1 : (x1 < 0) → Q (some 0) m)
    (h2 : (0 ≤ x1) → (8 ≤ x1) → Q (some 0) m)
    (h3 : (0 ≤ x1) → (x1 < 8) → gx_to xs w0 d yp_m165 0 [(0, .inl (m 87 1128)), (1, .inl x1)] [] m (fun r m' => gx_to xs w0 (d + 1) yp_m164 22 [] (gx_rs r ++ []) m' Q)) : gx_to xs w0 (d + 1) yp_m164 0 [(0, .inr 86), (1, .inl x1)] [] m Q := by
  refine gx_blk (C := True) (npc := 1) (L' := [(0, .inr 86), (1, .inl x1)]) (st' := [.inl x1]) (m' := m) [((0, .iload_n 1, 1, 0, 0, 0, 0), (0, 0, 0))] (by decide +kernel) rfl trivial ?_
  refine gx_if .lt 29 (by decide +kernel) (fun c1 => ?_) (fun c1 => ?_)
  · have c1 : x1 < 0 := c1
    refine gx_blk (C := True) (npc := 30) (L' := [(0, .inr 86), (1, .inl x1)]) (st' := [.inl 0]) (m' := m) [((29, .iconst 0, 1, 0, 0, 0, 0), (0, 0, 0))] (by decide +kernel) rfl trivial ?_
    exact gx_retb (by decide +kernel) (by omega) (h1 c1)
  · have c1 : 0 ≤ x1 := by have h : ¬ (x1 < 0) := c1; omega
    refine gx_blk (C := True) (npc := 7) (L' := [(0, .inr 86), (1, .inl x1)]) (st' := [.inl 8, .inl x1]) (m' := m) [((4, .iload_n 1, 1, 0, 0, 0, 0), (0, 0, 0)), ((5, .bipush 8, 2, 0, 0, 0, 0), (0, 0, 0))] (by decide +kernel) rfl trivial ?_
    refine gx_cmp .ge 29 (by decide +kernel) (fun c2 => ?_) (fun c2 => ?_)
    · have c2 : 8 ≤ x1 := c2
      refine gx_blk (C := True) (npc := 30) (L' := [(0, .inr 86), (1, .inl x1)]) (st' := [.inl 0]) (m' := m) [((29, .iconst 0, 1, 0, 0, 0, 0), (0, 0, 0))] (by decide +kernel) rfl trivial ?_
      exact gx_retb (by decide +kernel) (by omega) (h2 c1 c2)
    · have c2 : x1 < 8 := by have h : ¬ (8 ≤ x1) := c2; omega
      have f1 := gx_I_n hI 87 1128 0 255 (by decide +kernel)
      refine gx_blk (C := (True ∧ (0 ≤ 1128 ∧ 1128 < 1131))) (npc := 19) (L' := [(0, .inr 86), (1, .inl x1)]) (st' := [.inl x1, .inl (m 87 1128)]) (m' := m) [((10, .aload_n 0, 1, 0, 0, 0, 0), (0, 0, 0)), ((11, .getfield 7, 3, 10, 0, 5113, 0), (1, 86, 87)), ((14, .sipush 1128, 3, 0, 0, 0, 0), (0, 0, 0)), ((17, .iaload, 1, 0, 0, 0, 0), (0, 87, 1131)), ((18, .iload_n 1, 1, 0, 0, 0, 0), (0, 0, 0))] (by decide +kernel) rfl ⟨trivial, (by omega)⟩ ?_
      exact gx_calls (E := (19, .invokestatic 104, 3, 165, 0, 6035, 0)) (M' := yp_m165) [.inl (m 87 1128), .inl x1] [] rfl (by decide +kernel) rfl ⟨rfl, rfl⟩ rfl rfl (Nat.le_of_ble_eq_true rfl) (Nat.le_of_ble_eq_true rfl) rfl (gx_to_mono (h3 c1 c2) (fun r m' h' => gx_to_pick [] h'))

/-- isPerson from 22 on -/
theorem gt164_22 {xs : List Int32} {w0 : sx_W} {d : Nat} {Q : gx_Q} {m : gx_M} {s0 : Int}
    (h1 : (s0 = 0) → Q (some 0) m)
    (h2 : (s0 ≠ 0) → Q (some 1) m) : gx_to xs w0 d yp_m164 22 [] [.inl s0] m Q := by
  refine gx_if .eq 29 (by decide +kernel) (fun c1 => ?_) (fun c1 => ?_)
  · have c1 : s0 = 0 := c1
    refine gx_blk (C := True) (npc := 30) (L' := []) (st' := [.inl 0]) (m' := m) [((29, .iconst 0, 1, 0, 0, 0, 0), (0, 0, 0))] (by decide +kernel) rfl trivial ?_
    exact gx_retb (by decide +kernel) (by omega) (h1 c1)
  · have c1 : s0 ≠ 0 := c1
    refine gx_blk (C := True) (npc := 30) (L' := []) (st' := [.inl 1]) (m' := m) [((25, .iconst 1, 1, 0, 0, 0, 0), (0, 0, 0)), ((26, .goto 4, 3, 0, 0, 0, 0), (0, 0, 0))] (by decide +kernel) rfl trivial ?_
    exact gx_retb (by decide +kernel) (by omega) (h2 c1)

/-- has from 0 on -/
theorem gt165_0 {xs : List Int32} {w0 : sx_W} {d : Nat} {Q : gx_Q} {m : gx_M} {x0 x1 : Int}
    (h1 : ((gx_and (gx_shr x0 x1) 1) ≠ 1) → Q (some 0) m)
    (h2 : ((gx_and (gx_shr x0 x1) 1) = 1) → Q (some 1) m) : gx_to xs w0 d yp_m165 0 [(0, .inl x0), (1, .inl x1)] [] m Q := by
  have f1 := gx_and_bd (gx_shr x0 x1) 1 (by decide)
  refine gx_blk (C := True) (npc := 6) (L' := [(0, .inl x0), (1, .inl x1)]) (st' := [.inl 1, .inl (gx_and (gx_shr x0 x1) 1)]) (m' := m) [((0, .iload_n 0, 1, 0, 0, 0, 0), (0, 0, 0)), ((1, .iload_n 1, 1, 0, 0, 0, 0), (0, 0, 0)), ((2, .ishr, 1, 0, 0, 0, 0), (0, 0, 0)), ((3, .iconst 1, 1, 0, 0, 0, 0), (0, 0, 0)), ((4, .iand, 1, 0, 0, 0, 0), (0, 0, 0)), ((5, .iconst 1, 1, 0, 0, 0, 0), (0, 0, 0))] (by decide +kernel) rfl trivial ?_
  refine gx_cmp .ne 13 (by decide +kernel) (fun c1 => ?_) (fun c1 => ?_)
  · have c1 : (gx_and (gx_shr x0 x1) 1) ≠ 1 := c1
    refine gx_blk (C := True) (npc := 14) (L' := [(0, .inl x0), (1, .inl x1)]) (st' := [.inl 0]) (m' := m) [((13, .iconst 0, 1, 0, 0, 0, 0), (0, 0, 0))] (by decide +kernel) rfl trivial ?_
    exact gx_retb (by decide +kernel) (by omega) (h1 c1)
  · have c1 : (gx_and (gx_shr x0 x1) 1) = 1 := by have h : ¬ ((gx_and (gx_shr x0 x1) 1) ≠ 1) := c1; omega
    refine gx_blk (C := True) (npc := 14) (L' := [(0, .inl x0), (1, .inl x1)]) (st' := [.inl 1]) (m' := m) [((9, .iconst 1, 1, 0, 0, 0, 0), (0, 0, 0)), ((10, .goto 4, 3, 0, 0, 0, 0), (0, 0, 0))] (by decide +kernel) rfl trivial ?_
    exact gx_retb (by decide +kernel) (by omega) (h2 c1)

/-- bits from 0 on -/
theorem gt206_0 {xs : List Int32} {w0 : sx_W} {d : Nat} {Q : gx_Q} {m : gx_M} {x0 : Int}
    (h1 : gx_to xs w0 d yp_m206 4 [(0, .inl x0), (1, .inl 0), (2, .inl 0)] [] m Q) : gx_to xs w0 d yp_m206 0 [(0, .inl x0)] [] m Q := by
  refine gx_blk (C := True) (npc := 4) (L' := [(0, .inl x0), (1, .inl 0), (2, .inl 0)]) (st' := []) (m' := m) [((0, .iconst 0, 1, 0, 0, 0, 0), (0, 0, 0)), ((1, .istore_n 1, 1, 0, 0, 0, 0), (0, 0, 0)), ((2, .iconst 0, 1, 0, 0, 0, 0), (0, 0, 0)), ((3, .istore_n 2, 1, 0, 0, 0, 0), (0, 0, 0))] (by decide +kernel) rfl trivial ?_
  exact gx_to_pick [0, 1, 2] h1

/-- bits from 4 on -/
theorem gt206_4 {xs : List Int32} {w0 : sx_W} {d : Nat} {Q : gx_Q} {m : gx_M} {x0 x1 x2 : Int} (r_x2 : 0 ≤ x2 ∧ x2 ≤ 20)
    (h1 : (20 ≤ x2) → Q (some x1) m)
    (h2 : (x2 < 20) → gx_to xs w0 d yp_m206 4 [(0, .inl x0), (1, .inl (gx_w (x1 + (gx_and (gx_shr x0 x2) 1)))), (2, .inl (x2 + 1))] [] m Q) : gx_to xs w0 d yp_m206 4 [(0, .inl x0), (1, .inl x1), (2, .inl x2)] [] m Q := by
  refine gx_blk (C := True) (npc := 7) (L' := [(0, .inl x0), (1, .inl x1), (2, .inl x2)]) (st' := [.inl 20, .inl x2]) (m' := m) [((4, .iload_n 2, 1, 0, 0, 0, 0), (0, 0, 0)), ((5, .bipush 20, 2, 0, 0, 0, 0), (0, 0, 0))] (by decide +kernel) rfl trivial ?_
  refine gx_cmp .ge 24 (by decide +kernel) (fun c1 => ?_) (fun c1 => ?_)
  · have c1 : 20 ≤ x2 := c1
    refine gx_blk (C := True) (npc := 25) (L' := [(0, .inl x0), (1, .inl x1), (2, .inl x2)]) (st' := [.inl x1]) (m' := m) [((24, .iload_n 1, 1, 0, 0, 0, 0), (0, 0, 0))] (by decide +kernel) rfl trivial ?_
    exact gx_reti (by decide +kernel) (h1 c1)
  · have c1 : x2 < 20 := by have h : ¬ (20 ≤ x2) := c1; omega
    have f1 := gx_and_bd (gx_shr x0 x2) 1 (by decide)
    have e2 : gx_w (x2 + 1) = x2 + 1 := gx_w_id (by omega) (by omega)
    refine gx_blk (C := True) (npc := 4) (L' := [(0, .inl x0), (1, .inl (gx_w (x1 + (gx_and (gx_shr x0 x2) 1)))), (2, .inl (gx_w (x2 + 1)))]) (st' := []) (m' := m) [((10, .iload_n 1, 1, 0, 0, 0, 0), (0, 0, 0)), ((11, .iload_n 0, 1, 0, 0, 0, 0), (0, 0, 0)), ((12, .iload_n 2, 1, 0, 0, 0, 0), (0, 0, 0)), ((13, .ishr, 1, 0, 0, 0, 0), (0, 0, 0)), ((14, .iconst 1, 1, 0, 0, 0, 0), (0, 0, 0)), ((15, .iand, 1, 0, 0, 0, 0), (0, 0, 0)), ((16, .iadd, 1, 0, 0, 0, 0), (0, 0, 0)), ((17, .istore_n 1, 1, 0, 0, 0, 0), (0, 0, 0)), ((18, .iinc 2 1, 3, 0, 0, 0, 0), (0, 0, 0)), ((21, .goto (-17), 3, 0, 0, 0, 0), (0, 0, 0))] (by decide +kernel) rfl trivial ?_
    rw [e2]
    exact gx_to_pick [0, 1, 2] (h2 c1)

/-- reckon from 0 on -/
theorem gt209_0 {xs : List Int32} {w0 : sx_W} {d : Nat} {Q : gx_Q} {m : gx_M} {x0 x1 x2 : Int}
    (h1 : (x0 < 2 ∨ 8 < x0) → (x1 ≠ x2) → Q (some 0) m)
    (h2 : (x0 < 2 ∨ 8 < x0) → (x1 = x2) → Q (some 1) m)
    (h3 : (x0 = 2) → Q (some (gx_w (x1 + x2))) m)
    (h4 : (x0 = 3) → Q (some (gx_w (x1 - x2))) m)
    (h5 : (x0 = 4) → Q (some (gx_w (x1 * x2))) m)
    (k1 : (x0 = 5) → x2 ≠ 0)
    (h6 : (x0 = 5) → Q (some (gx_w (Int.tdiv x1 x2))) m)
    (k2 : (x0 = 6) → x2 ≠ 0)
    (h7 : (x0 = 6) → Q (some (Int.tmod x1 x2)) m)
    (h8 : (x0 = 7) → (x2 ≤ x1) → Q (some 0) m)
    (h9 : (x0 = 7) → (x1 < x2) → Q (some 1) m)
    (h10 : (x0 = 8) → (x1 ≤ x2) → Q (some 0) m)
    (h11 : (x0 = 8) → (x2 < x1) → Q (some 1) m) : gx_to xs w0 d yp_m209 0 [(0, .inl x0), (1, .inl x1), (2, .inl x2)] [] m Q := by
  refine gx_blk (C := True) (npc := 1) (L' := [(0, .inl x0), (1, .inl x1), (2, .inl x2)]) (st' := [.inl x0]) (m' := m) [((0, .iload_n 0, 1, 0, 0, 0, 0), (0, 0, 0))] (by decide +kernel) rfl trivial ?_
  refine gx_tsw 86 2 8 [44, 48, 52, 56, 60, 64, 75] (by decide +kernel) (fun c1 => ?_) (gx_sw_c (fun c1 => ?_) (gx_sw_c (fun c1 => ?_) (gx_sw_c (fun c1 => ?_) (gx_sw_c (fun c1 => ?_) (gx_sw_c (fun c1 => ?_) (gx_sw_c (fun c1 => ?_) (gx_sw_c (fun c1 => ?_) gx_sw_n)))))))
  · have c1 : x0 < 2 ∨ 8 < x0 := c1
    refine gx_blk (C := True) (npc := 88) (L' := [(0, .inl x0), (1, .inl x1), (2, .inl x2)]) (st' := [.inl x2, .inl x1]) (m' := m) [((86, .iload_n 1, 1, 0, 0, 0, 0), (0, 0, 0)), ((87, .iload_n 2, 1, 0, 0, 0, 0), (0, 0, 0))] (by decide +kernel) rfl trivial ?_
    refine gx_cmp .ne 95 (by decide +kernel) (fun c2 => ?_) (fun c2 => ?_)
    · have c2 : x1 ≠ x2 := c2
      refine gx_blk (C := True) (npc := 96) (L' := [(0, .inl x0), (1, .inl x1), (2, .inl x2)]) (st' := [.inl 0]) (m' := m) [((95, .iconst 0, 1, 0, 0, 0, 0), (0, 0, 0))] (by decide +kernel) rfl trivial ?_
      exact gx_reti (by decide +kernel) (h1 c1 c2)
    · have c2 : x1 = x2 := by have h : ¬ (x1 ≠ x2) := c2; omega
      refine gx_blk (C := True) (npc := 96) (L' := [(0, .inl x0), (1, .inl x1), (2, .inl x2)]) (st' := [.inl 1]) (m' := m) [((91, .iconst 1, 1, 0, 0, 0, 0), (0, 0, 0)), ((92, .goto 4, 3, 0, 0, 0, 0), (0, 0, 0))] (by decide +kernel) rfl trivial ?_
      exact gx_reti (by decide +kernel) (h2 c1 c2)
  · have c1 : x0 = 2 := c1
    refine gx_blk (C := True) (npc := 47) (L' := [(0, .inl x0), (1, .inl x1), (2, .inl x2)]) (st' := [.inl (gx_w (x1 + x2))]) (m' := m) [((44, .iload_n 1, 1, 0, 0, 0, 0), (0, 0, 0)), ((45, .iload_n 2, 1, 0, 0, 0, 0), (0, 0, 0)), ((46, .iadd, 1, 0, 0, 0, 0), (0, 0, 0))] (by decide +kernel) rfl trivial ?_
    exact gx_reti (by decide +kernel) (h3 c1)
  · have c1 : x0 = 3 := c1
    refine gx_blk (C := True) (npc := 51) (L' := [(0, .inl x0), (1, .inl x1), (2, .inl x2)]) (st' := [.inl (gx_w (x1 - x2))]) (m' := m) [((48, .iload_n 1, 1, 0, 0, 0, 0), (0, 0, 0)), ((49, .iload_n 2, 1, 0, 0, 0, 0), (0, 0, 0)), ((50, .isub, 1, 0, 0, 0, 0), (0, 0, 0))] (by decide +kernel) rfl trivial ?_
    exact gx_reti (by decide +kernel) (h4 c1)
  · have c1 : x0 = 4 := c1
    refine gx_blk (C := True) (npc := 55) (L' := [(0, .inl x0), (1, .inl x1), (2, .inl x2)]) (st' := [.inl (gx_w (x1 * x2))]) (m' := m) [((52, .iload_n 1, 1, 0, 0, 0, 0), (0, 0, 0)), ((53, .iload_n 2, 1, 0, 0, 0, 0), (0, 0, 0)), ((54, .imul, 1, 0, 0, 0, 0), (0, 0, 0))] (by decide +kernel) rfl trivial ?_
    exact gx_reti (by decide +kernel) (h5 c1)
  · have c1 : x0 = 5 := c1
    refine gx_blk (C := (True ∧ (x2 ≠ 0))) (npc := 59) (L' := [(0, .inl x0), (1, .inl x1), (2, .inl x2)]) (st' := [.inl (gx_w (Int.tdiv x1 x2))]) (m' := m) [((56, .iload_n 1, 1, 0, 0, 0, 0), (0, 0, 0)), ((57, .iload_n 2, 1, 0, 0, 0, 0), (0, 0, 0)), ((58, .idiv, 1, 0, 0, 0, 0), (0, 0, 0))] (by decide +kernel) rfl ⟨trivial, (k1 c1)⟩ ?_
    exact gx_reti (by decide +kernel) (h6 c1)
  · have c1 : x0 = 6 := c1
    refine gx_blk (C := (True ∧ (x2 ≠ 0))) (npc := 63) (L' := [(0, .inl x0), (1, .inl x1), (2, .inl x2)]) (st' := [.inl (Int.tmod x1 x2)]) (m' := m) [((60, .iload_n 1, 1, 0, 0, 0, 0), (0, 0, 0)), ((61, .iload_n 2, 1, 0, 0, 0, 0), (0, 0, 0)), ((62, .irem, 1, 0, 0, 0, 0), (0, 0, 0))] (by decide +kernel) rfl ⟨trivial, (k2 c1)⟩ ?_
    exact gx_reti (by decide +kernel) (h7 c1)
  · have c1 : x0 = 7 := c1
    refine gx_blk (C := True) (npc := 66) (L' := [(0, .inl x0), (1, .inl x1), (2, .inl x2)]) (st' := [.inl x2, .inl x1]) (m' := m) [((64, .iload_n 1, 1, 0, 0, 0, 0), (0, 0, 0)), ((65, .iload_n 2, 1, 0, 0, 0, 0), (0, 0, 0))] (by decide +kernel) rfl trivial ?_
    refine gx_cmp .ge 73 (by decide +kernel) (fun c2 => ?_) (fun c2 => ?_)
    · have c2 : x2 ≤ x1 := c2
      refine gx_blk (C := True) (npc := 74) (L' := [(0, .inl x0), (1, .inl x1), (2, .inl x2)]) (st' := [.inl 0]) (m' := m) [((73, .iconst 0, 1, 0, 0, 0, 0), (0, 0, 0))] (by decide +kernel) rfl trivial ?_
      exact gx_reti (by decide +kernel) (h8 c1 c2)
    · have c2 : x1 < x2 := by have h : ¬ (x2 ≤ x1) := c2; omega
      refine gx_blk (C := True) (npc := 74) (L' := [(0, .inl x0), (1, .inl x1), (2, .inl x2)]) (st' := [.inl 1]) (m' := m) [((69, .iconst 1, 1, 0, 0, 0, 0), (0, 0, 0)), ((70, .goto 4, 3, 0, 0, 0, 0), (0, 0, 0))] (by decide +kernel) rfl trivial ?_
      exact gx_reti (by decide +kernel) (h9 c1 c2)
  · have c1 : x0 = 8 := c1
    refine gx_blk (C := True) (npc := 77) (L' := [(0, .inl x0), (1, .inl x1), (2, .inl x2)]) (st' := [.inl x2, .inl x1]) (m' := m) [((75, .iload_n 1, 1, 0, 0, 0, 0), (0, 0, 0)), ((76, .iload_n 2, 1, 0, 0, 0, 0), (0, 0, 0))] (by decide +kernel) rfl trivial ?_
    refine gx_cmp .le 84 (by decide +kernel) (fun c2 => ?_) (fun c2 => ?_)
    · have c2 : x1 ≤ x2 := c2
      refine gx_blk (C := True) (npc := 85) (L' := [(0, .inl x0), (1, .inl x1), (2, .inl x2)]) (st' := [.inl 0]) (m' := m) [((84, .iconst 0, 1, 0, 0, 0, 0), (0, 0, 0))] (by decide +kernel) rfl trivial ?_
      exact gx_reti (by decide +kernel) (h10 c1 c2)
    · have c2 : x2 < x1 := by have h : ¬ (x1 ≤ x2) := c2; omega
      refine gx_blk (C := True) (npc := 85) (L' := [(0, .inl x0), (1, .inl x1), (2, .inl x2)]) (st' := [.inl 1]) (m' := m) [((80, .iconst 1, 1, 0, 0, 0, 0), (0, 0, 0)), ((81, .goto 4, 3, 0, 0, 0, 0), (0, 0, 0))] (by decide +kernel) rfl trivial ?_
      exact gx_reti (by decide +kernel) (h11 c1 c2)

/-- orders from 0 on -/
theorem gt239_0 {xs : List Int32} {w0 : sx_W} {d : Nat} {Q : gx_Q} {m : gx_M} {x0 : Int}
    (h1 : gx_to xs w0 d yp_m239 4 [(0, .inl x0), (1, .inl 1), (2, .inl 2)] [] m Q) : gx_to xs w0 d yp_m239 0 [(0, .inl x0)] [] m Q := by
  refine gx_blk (C := True) (npc := 4) (L' := [(0, .inl x0), (1, .inl 1), (2, .inl 2)]) (st' := []) (m' := m) [((0, .iconst 1, 1, 0, 0, 0, 0), (0, 0, 0)), ((1, .istore_n 1, 1, 0, 0, 0, 0), (0, 0, 0)), ((2, .iconst 2, 1, 0, 0, 0, 0), (0, 0, 0)), ((3, .istore_n 2, 1, 0, 0, 0, 0), (0, 0, 0))] (by decide +kernel) rfl trivial ?_
  exact gx_to_pick [0, 1, 2] h1

/-- orders from 4 on -/
theorem gt239_4 {xs : List Int32} {w0 : sx_W} {d : Nat} {Q : gx_Q} {m : gx_M} {x0 x1 x2 : Int} (r_x2 : 2 ≤ x2 ∧ x2 ≤ 2000)
    (h1 : (x0 < x2) → Q (some x1) m)
    (h2 : (x2 ≤ x0) → gx_to xs w0 d yp_m239 4 [(0, .inl x0), (1, .inl (gx_w (x1 * x2))), (2, .inl (x2 + 1))] [] m Q) : gx_to xs w0 d yp_m239 4 [(0, .inl x0), (1, .inl x1), (2, .inl x2)] [] m Q := by
  refine gx_blk (C := True) (npc := 6) (L' := [(0, .inl x0), (1, .inl x1), (2, .inl x2)]) (st' := [.inl x0, .inl x2]) (m' := m) [((4, .iload_n 2, 1, 0, 0, 0, 0), (0, 0, 0)), ((5, .iload_n 0, 1, 0, 0, 0, 0), (0, 0, 0))] (by decide +kernel) rfl trivial ?_
  refine gx_cmp .gt 19 (by decide +kernel) (fun c1 => ?_) (fun c1 => ?_)
  · have c1 : x0 < x2 := c1
    refine gx_blk (C := True) (npc := 20) (L' := [(0, .inl x0), (1, .inl x1), (2, .inl x2)]) (st' := [.inl x1]) (m' := m) [((19, .iload_n 1, 1, 0, 0, 0, 0), (0, 0, 0))] (by decide +kernel) rfl trivial ?_
    exact gx_reti (by decide +kernel) (h1 c1)
  · have c1 : x2 ≤ x0 := by have h : ¬ (x0 < x2) := c1; omega
    have e1 : gx_w (x2 + 1) = x2 + 1 := gx_w_id (by omega) (by omega)
    refine gx_blk (C := True) (npc := 4) (L' := [(0, .inl x0), (1, .inl (gx_w (x1 * x2))), (2, .inl (gx_w (x2 + 1)))]) (st' := []) (m' := m) [((9, .iload_n 1, 1, 0, 0, 0, 0), (0, 0, 0)), ((10, .iload_n 2, 1, 0, 0, 0, 0), (0, 0, 0)), ((11, .imul, 1, 0, 0, 0, 0), (0, 0, 0)), ((12, .istore_n 1, 1, 0, 0, 0, 0), (0, 0, 0)), ((13, .iinc 2 1, 3, 0, 0, 0, 0), (0, 0, 0)), ((16, .goto (-12), 3, 0, 0, 0, 0), (0, 0, 0))] (by decide +kernel) rfl trivial ?_
    rw [e1]
    exact gx_to_pick [0, 1, 2] (h2 c1)

/-- gcd from 0 on -/
theorem gt241_0 {xs : List Int32} {w0 : sx_W} {d : Nat} {Q : gx_Q} {m : gx_M} {x0 x1 : Int}
    (h1 : gx_to xs w0 d yp_m241 4 [(2, .inl x0), (3, .inl x1)] [] m Q) : gx_to xs w0 d yp_m241 0 [(0, .inl x0), (1, .inl x1)] [] m Q := by
  refine gx_blk (C := True) (npc := 4) (L' := [(0, .inl x0), (1, .inl x1), (2, .inl x0), (3, .inl x1)]) (st' := []) (m' := m) [((0, .iload_n 0, 1, 0, 0, 0, 0), (0, 0, 0)), ((1, .istore_n 2, 1, 0, 0, 0, 0), (0, 0, 0)), ((2, .iload_n 1, 1, 0, 0, 0, 0), (0, 0, 0)), ((3, .istore_n 3, 1, 0, 0, 0, 0), (0, 0, 0))] (by decide +kernel) rfl trivial ?_
  exact gx_to_pick [2, 3] h1

/-- gcd from 4 on -/
theorem gt241_4 {xs : List Int32} {w0 : sx_W} {d : Nat} {Q : gx_Q} {m : gx_M} {x2 x3 : Int}
    (h1 : (x3 = 0) → Q (some x2) m)
    (k1 : (x3 ≠ 0) → x3 ≠ 0)
    (h2 : (x3 ≠ 0) → gx_to xs w0 d yp_m241 4 [(2, .inl x3), (3, .inl (Int.tmod x2 x3))] [] m Q) : gx_to xs w0 d yp_m241 4 [(2, .inl x2), (3, .inl x3)] [] m Q := by
  refine gx_blk (C := True) (npc := 5) (L' := [(2, .inl x2), (3, .inl x3)]) (st' := [.inl x3]) (m' := m) [((4, .iload_n 3, 1, 0, 0, 0, 0), (0, 0, 0))] (by decide +kernel) rfl trivial ?_
  refine gx_if .eq 21 (by decide +kernel) (fun c1 => ?_) (fun c1 => ?_)
  · have c1 : x3 = 0 := c1
    refine gx_blk (C := True) (npc := 22) (L' := [(2, .inl x2), (3, .inl x3)]) (st' := [.inl x2]) (m' := m) [((21, .iload_n 2, 1, 0, 0, 0, 0), (0, 0, 0))] (by decide +kernel) rfl trivial ?_
    exact gx_reti (by decide +kernel) (h1 c1)
  · have c1 : x3 ≠ 0 := c1
    refine gx_blk (C := (True ∧ (x3 ≠ 0))) (npc := 4) (L' := [(2, .inl x3), (3, .inl (Int.tmod x2 x3)), (4, .inl (Int.tmod x2 x3))]) (st' := []) (m' := m) [((8, .iload_n 2, 1, 0, 0, 0, 0), (0, 0, 0)), ((9, .iload_n 3, 1, 0, 0, 0, 0), (0, 0, 0)), ((10, .irem, 1, 0, 0, 0, 0), (0, 0, 0)), ((11, .istore 4, 2, 0, 0, 0, 0), (0, 0, 0)), ((13, .iload_n 3, 1, 0, 0, 0, 0), (0, 0, 0)), ((14, .istore_n 2, 1, 0, 0, 0, 0), (0, 0, 0)), ((15, .iload 4, 2, 0, 0, 0, 0), (0, 0, 0)), ((17, .istore_n 3, 1, 0, 0, 0, 0), (0, 0, 0)), ((18, .goto (-14), 3, 0, 0, 0, 0), (0, 0, 0))] (by decide +kernel) rfl ⟨trivial, (k1 c1)⟩ ?_
    exact gx_to_pick [2, 3] (h2 c1)

