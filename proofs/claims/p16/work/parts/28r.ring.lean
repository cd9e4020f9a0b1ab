/-! roads of methods read by hand, from cut points to the next ones (printed by wip/gen/gxall.py) -/
/-- wants from 0 on -/
theorem gt250_0 {xs : List Int32} {w0 : sx_W} {d : Nat} {Q : gx_Q} {m : gx_M} {x1 x2 : Int}
    (h1 : gx_to xs w0 d yp_m250 8 [(0, .inr 86), (1, .inl x1), (2, .inl x2), (3, .inl (-1)), (4, .inl 0), (5, .inl 0)] [] m Q) : gx_to xs w0 d yp_m250 0 [(0, .inr 86), (1, .inl x1), (2, .inl x2)] [] m Q := by
  refine gx_blk (C := True) (npc := 8) (L' := [(0, .inr 86), (1, .inl x1), (2, .inl x2), (3, .inl (-1)), (4, .inl 0), (5, .inl 0)]) (st' := []) (m' := m) [((0, .iconst (-1), 1, 0, 0, 0, 0), (0, 0, 0)), ((1, .istore_n 3, 1, 0, 0, 0, 0), (0, 0, 0)), ((2, .iconst 0, 1, 0, 0, 0, 0), (0, 0, 0)), ((3, .istore 4, 2, 0, 0, 0, 0), (0, 0, 0)), ((5, .iconst 0, 1, 0, 0, 0, 0), (0, 0, 0)), ((6, .istore 5, 2, 0, 0, 0, 0), (0, 0, 0))] (by decide +kernel) rfl trivial ?_
  exact gx_to_pick [0, 1, 2, 3, 4, 5] h1

/-- wants from 8 on -/
theorem gt250_8 {xs : List Int32} {w0 : sx_W} {d : Nat} {Q : gx_Q} {m : gx_M} {x1 x2 x3 x4 x5 : Int} (hI : gx_I m) (r_x5 : 0 ≤ x5 ∧ x5 ≤ 8)
    (h1 : ((m 86 37) ≤ x5) → Q (some x3) m)
    (h2 : (x5 < (m 86 37)) → gx_to xs w0 d yp_m165 0 [(0, .inl x2), (1, .inl x5)] [] m (fun r m' => gx_to xs w0 (d + 1) yp_m250 23 [(0, .inr 86), (1, .inl x1), (2, .inl x2), (3, .inl x3), (4, .inl x4), (5, .inl x5)] (gx_rs r ++ []) m' Q)) : gx_to xs w0 (d + 1) yp_m250 8 [(0, .inr 86), (1, .inl x1), (2, .inl x2), (3, .inl x3), (4, .inl x4), (5, .inl x5)] [] m Q := by
  have f1 := gx_I_n hI 86 37 0 8 (by decide +kernel)
  refine gx_blk (C := True) (npc := 14) (L' := [(0, .inr 86), (1, .inl x1), (2, .inl x2), (3, .inl x3), (4, .inl x4), (5, .inl x5)]) (st' := [.inl (m 86 37), .inl x5]) (m' := m) [((8, .iload 5, 2, 0, 0, 0, 0), (0, 0, 0)), ((10, .aload_n 0, 1, 0, 0, 0, 0), (0, 0, 0)), ((11, .getfield 346, 3, 10, 37, 5150, 0), (0, 86, 0))] (by decide +kernel) rfl trivial ?_
  refine gx_cmp .ge 85 (by decide +kernel) (fun c1 => ?_) (fun c1 => ?_)
  · have c1 : (m 86 37) ≤ x5 := c1
    refine gx_blk (C := True) (npc := 86) (L' := [(0, .inr 86), (1, .inl x1), (2, .inl x2), (3, .inl x3), (4, .inl x4), (5, .inl x5)]) (st' := [.inl x3]) (m' := m) [((85, .iload_n 3, 1, 0, 0, 0, 0), (0, 0, 0))] (by decide +kernel) rfl trivial ?_
    exact gx_reti (by decide +kernel) (h1 c1)
  · have c1 : x5 < (m 86 37) := by have h : ¬ ((m 86 37) ≤ x5) := c1; omega
    refine gx_blk (C := True) (npc := 20) (L' := [(0, .inr 86), (1, .inl x1), (2, .inl x2), (3, .inl x3), (4, .inl x4), (5, .inl x5)]) (st' := [.inl x5, .inl x2]) (m' := m) [((17, .iload_n 2, 1, 0, 0, 0, 0), (0, 0, 0)), ((18, .iload 5, 2, 0, 0, 0, 0), (0, 0, 0))] (by decide +kernel) rfl trivial ?_
    exact gx_calls (E := (20, .invokestatic 104, 3, 165, 0, 6035, 0)) (M' := yp_m165) [.inl x2, .inl x5] [] rfl (by decide +kernel) rfl ⟨rfl, rfl⟩ rfl rfl (Nat.le_of_ble_eq_true rfl) (Nat.le_of_ble_eq_true rfl) rfl (gx_to_mono (h2 c1) (fun r m' h' => gx_to_pick [0, 1, 2, 3, 4, 5] h'))

/-- wants from 23 on -/
theorem gt250_23 {xs : List Int32} {w0 : sx_W} {d : Nat} {Q : gx_Q} {m : gx_M} {x1 x2 x3 x4 x5 s0 : Int} (hI : gx_I m) (r_x1 : 0 ≤ x1 ∧ x1 ≤ 7) (r_x5 : 0 ≤ x5 ∧ x5 ≤ 7)
    (h1 : (s0 ≠ 0) → gx_to xs w0 d yp_m224 0 [(0, .inr 86), (1, .inl (m 112 (x5).toNat)), (2, .inl (m 87 (240 + (m 112 (x1).toNat)).toNat))] [] m (fun r m' => gx_to xs w0 (d + 1) yp_m250 55 [(0, .inr 86), (1, .inl x1), (2, .inl x2), (3, .inl x3), (4, .inl x4), (5, .inl x5)] (gx_rs r ++ []) m' Q))
    (h2 : (s0 = 0) → gx_to xs w0 (d + 1) yp_m250 8 [(0, .inr 86), (1, .inl x1), (2, .inl x2), (3, .inl x3), (4, .inl x4), (5, .inl (x5 + 1))] [] m Q) : gx_to xs w0 (d + 1) yp_m250 23 [(0, .inr 86), (1, .inl x1), (2, .inl x2), (3, .inl x3), (4, .inl x4), (5, .inl x5)] [.inl s0] m Q := by
  refine gx_if .ne 29 (by decide +kernel) (fun c1 => ?_) (fun c1 => ?_)
  · have c1 : s0 ≠ 0 := c1
    have f1 := gx_I_at hI 112 (z := x5) 0 7 0 39 (by decide +kernel) (by omega) (by omega)
    have f2 := gx_I_at hI 112 (z := x1) 0 7 0 39 (by decide +kernel) (by omega) (by omega)
    have e3 : gx_w (240 + (m 112 (x1).toNat)) = 240 + (m 112 (x1).toNat) := gx_w_id (by omega) (by omega)
    have f4 := gx_I_at hI 87 (z := 240 + (m 112 (x1).toNat)) 240 279 (-2) 7 (by decide +kernel) (by omega) (by omega)
    refine gx_blk (C := (((((True ∧ (0 ≤ x5 ∧ x5 < 8))) ∧ (0 ≤ x1 ∧ x1 < 8))) ∧ (0 ≤ (gx_w (240 + (m 112 (x1).toNat))) ∧ (gx_w (240 + (m 112 (x1).toNat))) < 1131))) (npc := 52) (L' := [(0, .inr 86), (1, .inl x1), (2, .inl x2), (3, .inl x3), (4, .inl x4), (5, .inl x5)]) (st' := [.inl (m 87 (gx_w (240 + (m 112 (x1).toNat))).toNat), .inl (m 112 (x5).toNat), .inr 86]) (m' := m) [((29, .aload_n 0, 1, 0, 0, 0, 0), (0, 0, 0)), ((30, .aload_n 0, 1, 0, 0, 0, 0), (0, 0, 0)), ((31, .getfield 86, 3, 10, 39, 5152, 0), (1, 86, 112)), ((34, .iload 5, 2, 0, 0, 0, 0), (0, 0, 0)), ((36, .iaload, 1, 0, 0, 0, 0), (0, 112, 8)), ((37, .aload_n 0, 1, 0, 0, 0, 0), (0, 0, 0)), ((38, .getfield 7, 3, 10, 0, 5113, 0), (1, 86, 87)), ((41, .sipush 240, 3, 0, 0, 0, 0), (0, 0, 0)), ((44, .aload_n 0, 1, 0, 0, 0, 0), (0, 0, 0)), ((45, .getfield 86, 3, 10, 39, 5152, 0), (1, 86, 112)), ((48, .iload_n 1, 1, 0, 0, 0, 0), (0, 0, 0)), ((49, .iaload, 1, 0, 0, 0, 0), (0, 112, 8)), ((50, .iadd, 1, 0, 0, 0, 0), (0, 0, 0)), ((51, .iaload, 1, 0, 0, 0, 0), (0, 87, 1131))] (by decide +kernel) rfl ⟨⟨⟨trivial, (by omega)⟩, (by omega)⟩, (by rw [e3]; omega)⟩ ?_
    rw [e3]
    exact gx_callv (E := (52, .invokevirtual 312, 3, 224, 0, 7024, 0)) (M' := yp_m224) (c := 86) [.inl (m 112 (x5).toNat), .inl (m 87 (240 + (m 112 (x1).toNat)).toNat)] [] rfl (by decide +kernel) rfl ⟨rfl, rfl⟩ rfl rfl (Nat.le_of_ble_eq_true rfl) (Nat.le_of_ble_eq_true rfl) (by decide +kernel) (gx_to_mono (h1 c1) (fun r m' h' => gx_to_pick [0, 1, 2, 3, 4, 5] h'))
  · have c1 : s0 = 0 := by have h : ¬ (s0 ≠ 0) := c1; omega
    have e5 : gx_w (x5 + 1) = x5 + 1 := gx_w_id (by omega) (by omega)
    refine gx_blk (C := True) (npc := 8) (L' := [(0, .inr 86), (1, .inl x1), (2, .inl x2), (3, .inl x3), (4, .inl x4), (5, .inl (gx_w (x5 + 1)))]) (st' := []) (m' := m) [((26, .goto 53, 3, 0, 0, 0, 0), (0, 0, 0)), ((79, .iinc 5 1, 3, 0, 0, 0, 0), (0, 0, 0)), ((82, .goto (-74), 3, 0, 0, 0, 0), (0, 0, 0))] (by decide +kernel) rfl trivial ?_
    rw [e5]
    exact gx_to_pick [0, 1, 2, 3, 4, 5] (h2 c1)

/-- wants from 55 on -/
theorem gt250_55 {xs : List Int32} {w0 : sx_W} {d : Nat} {Q : gx_Q} {m : gx_M} {x1 x2 x3 x4 x5 s0 : Int} (r_x1 : 0 ≤ x1 ∧ x1 ≤ 7) (r_x5 : 0 ≤ x5 ∧ x5 ≤ 7)
    (h1 : (x3 = (-1)) → gx_to xs w0 d yp_m250 8 [(0, .inr 86), (1, .inl x1), (2, .inl x2), (3, .inl x5), (4, .inl s0), (5, .inl (x5 + 1))] [] m Q)
    (h2 : (x3 ≠ (-1)) → (x4 < s0) → gx_to xs w0 d yp_m250 8 [(0, .inr 86), (1, .inl x1), (2, .inl x2), (3, .inl x5), (4, .inl s0), (5, .inl (x5 + 1))] [] m Q)
    (h3 : (x3 ≠ (-1)) → (s0 ≤ x4) → gx_to xs w0 d yp_m250 8 [(0, .inr 86), (1, .inl x1), (2, .inl x2), (3, .inl x3), (4, .inl x4), (5, .inl (x5 + 1))] [] m Q) : gx_to xs w0 d yp_m250 55 [(0, .inr 86), (1, .inl x1), (2, .inl x2), (3, .inl x3), (4, .inl x4), (5, .inl x5)] [.inl s0] m Q := by
  refine gx_blk (C := True) (npc := 59) (L' := [(0, .inr 86), (1, .inl x1), (2, .inl x2), (3, .inl x3), (4, .inl x4), (5, .inl x5), (6, .inl s0)]) (st' := [.inl (-1), .inl x3]) (m' := m) [((55, .istore 6, 2, 0, 0, 0, 0), (0, 0, 0)), ((57, .iload_n 3, 1, 0, 0, 0, 0), (0, 0, 0)), ((58, .iconst (-1), 1, 0, 0, 0, 0), (0, 0, 0))] (by decide +kernel) rfl trivial ?_
  refine gx_cmp .eq 72 (by decide +kernel) (fun c1 => ?_) (fun c1 => ?_)
  · have c1 : x3 = (-1) := c1
    have e1 : gx_w (x5 + 1) = x5 + 1 := gx_w_id (by omega) (by omega)
    refine gx_blk (C := True) (npc := 8) (L' := [(0, .inr 86), (1, .inl x1), (2, .inl x2), (3, .inl x5), (4, .inl s0), (5, .inl (gx_w (x5 + 1))), (6, .inl s0)]) (st' := []) (m' := m) [((72, .iload 5, 2, 0, 0, 0, 0), (0, 0, 0)), ((74, .istore_n 3, 1, 0, 0, 0, 0), (0, 0, 0)), ((75, .iload 6, 2, 0, 0, 0, 0), (0, 0, 0)), ((77, .istore 4, 2, 0, 0, 0, 0), (0, 0, 0)), ((79, .iinc 5 1, 3, 0, 0, 0, 0), (0, 0, 0)), ((82, .goto (-74), 3, 0, 0, 0, 0), (0, 0, 0))] (by decide +kernel) rfl trivial ?_
    rw [e1]
    exact gx_to_pick [0, 1, 2, 3, 4, 5] (h1 c1)
  · have c1 : x3 ≠ (-1) := c1
    refine gx_blk (C := True) (npc := 66) (L' := [(0, .inr 86), (1, .inl x1), (2, .inl x2), (3, .inl x3), (4, .inl x4), (5, .inl x5), (6, .inl s0)]) (st' := [.inl x4, .inl s0]) (m' := m) [((62, .iload 6, 2, 0, 0, 0, 0), (0, 0, 0)), ((64, .iload 4, 2, 0, 0, 0, 0), (0, 0, 0))] (by decide +kernel) rfl trivial ?_
    refine gx_cmp .gt 72 (by decide +kernel) (fun c2 => ?_) (fun c2 => ?_)
    · have c2 : x4 < s0 := c2
      have e2 : gx_w (x5 + 1) = x5 + 1 := gx_w_id (by omega) (by omega)
      refine gx_blk (C := True) (npc := 8) (L' := [(0, .inr 86), (1, .inl x1), (2, .inl x2), (3, .inl x5), (4, .inl s0), (5, .inl (gx_w (x5 + 1))), (6, .inl s0)]) (st' := []) (m' := m) [((72, .iload 5, 2, 0, 0, 0, 0), (0, 0, 0)), ((74, .istore_n 3, 1, 0, 0, 0, 0), (0, 0, 0)), ((75, .iload 6, 2, 0, 0, 0, 0), (0, 0, 0)), ((77, .istore 4, 2, 0, 0, 0, 0), (0, 0, 0)), ((79, .iinc 5 1, 3, 0, 0, 0, 0), (0, 0, 0)), ((82, .goto (-74), 3, 0, 0, 0, 0), (0, 0, 0))] (by decide +kernel) rfl trivial ?_
      rw [e2]
      exact gx_to_pick [0, 1, 2, 3, 4, 5] (h2 c1 c2)
    · have c2 : s0 ≤ x4 := by have h : ¬ (x4 < s0) := c2; omega
      have e3 : gx_w (x5 + 1) = x5 + 1 := gx_w_id (by omega) (by omega)
      refine gx_blk (C := True) (npc := 8) (L' := [(0, .inr 86), (1, .inl x1), (2, .inl x2), (3, .inl x3), (4, .inl x4), (5, .inl (gx_w (x5 + 1))), (6, .inl s0)]) (st' := []) (m' := m) [((69, .goto 10, 3, 0, 0, 0, 0), (0, 0, 0)), ((79, .iinc 5 1, 3, 0, 0, 0, 0), (0, 0, 0)), ((82, .goto (-74), 3, 0, 0, 0, 0), (0, 0, 0))] (by decide +kernel) rfl trivial ?_
      rw [e3]
      exact gx_to_pick [0, 1, 2, 3, 4, 5] (h3 c1 c2)

/-- isInRing from 0 on -/
theorem gt251_0 {xs : List Int32} {w0 : sx_W} {d : Nat} {Q : gx_Q} {m : gx_M} {x1 : Int} (hI : gx_I m) (r_x1 : 0 ≤ x1 ∧ x1 ≤ 7)
    (h1 : gx_to xs w0 d yp_m251 9 [(0, .inr 86), (1, .inl x1), (2, .inl (m 115 (x1).toNat)), (3, .inl 0)] [] m Q) : gx_to xs w0 d yp_m251 0 [(0, .inr 86), (1, .inl x1)] [] m Q := by
  have f1 := gx_I_at hI 115 (z := x1) 0 7 0 7 (by decide +kernel) (by omega) (by omega)
  refine gx_blk (C := (True ∧ (0 ≤ x1 ∧ x1 < 8))) (npc := 9) (L' := [(0, .inr 86), (1, .inl x1), (2, .inl (m 115 (x1).toNat)), (3, .inl 0)]) (st' := []) (m' := m) [((0, .aload_n 0, 1, 0, 0, 0, 0), (0, 0, 0)), ((1, .getfield 95, 3, 10, 42, 5155, 0), (1, 86, 115)), ((4, .iload_n 1, 1, 0, 0, 0, 0), (0, 0, 0)), ((5, .iaload, 1, 0, 0, 0, 0), (0, 115, 8)), ((6, .istore_n 2, 1, 0, 0, 0, 0), (0, 0, 0)), ((7, .iconst 0, 1, 0, 0, 0, 0), (0, 0, 0)), ((8, .istore_n 3, 1, 0, 0, 0, 0), (0, 0, 0))] (by decide +kernel) rfl ⟨trivial, (by omega)⟩ ?_
  exact gx_to_pick [0, 1, 2, 3] h1

/-- isInRing from 9 on -/
theorem gt251_9 {xs : List Int32} {w0 : sx_W} {d : Nat} {Q : gx_Q} {m : gx_M} {x1 x2 x3 : Int} (hI : gx_I m) (r_x1 : 0 ≤ x1 ∧ x1 ≤ 7) (r_x2 : 0 ≤ x2 ∧ x2 ≤ 7) (r_x3 : 0 ≤ x3 ∧ x3 ≤ 8)
    (h1 : ((m 86 37) ≤ x3) → (x2 ≠ x1) → Q (some 0) m)
    (h2 : ((m 86 37) ≤ x3) → (x2 = x1) → Q (some 1) m)
    (h3 : (x3 < (m 86 37)) → (x2 = x1) → (x2 ≠ x1) → Q (some 0) m)
    (h4 : (x3 < (m 86 37)) → (x2 = x1) → (x2 = x1) → Q (some 1) m)
    (h5 : (x3 < (m 86 37)) → (x2 ≠ x1) → gx_to xs w0 d yp_m251 9 [(0, .inr 86), (1, .inl x1), (2, .inl (m 115 (x2).toNat)), (3, .inl (x3 + 1))] [] m Q) : gx_to xs w0 d yp_m251 9 [(0, .inr 86), (1, .inl x1), (2, .inl x2), (3, .inl x3)] [] m Q := by
  have f1 := gx_I_n hI 86 37 0 8 (by decide +kernel)
  refine gx_blk (C := True) (npc := 14) (L' := [(0, .inr 86), (1, .inl x1), (2, .inl x2), (3, .inl x3)]) (st' := [.inl (m 86 37), .inl x3]) (m' := m) [((9, .iload_n 3, 1, 0, 0, 0, 0), (0, 0, 0)), ((10, .aload_n 0, 1, 0, 0, 0, 0), (0, 0, 0)), ((11, .getfield 346, 3, 10, 37, 5150, 0), (0, 86, 0))] (by decide +kernel) rfl trivial ?_
  refine gx_cmp .ge 35 (by decide +kernel) (fun c1 => ?_) (fun c1 => ?_)
  · have c1 : (m 86 37) ≤ x3 := c1
    refine gx_blk (C := True) (npc := 37) (L' := [(0, .inr 86), (1, .inl x1), (2, .inl x2), (3, .inl x3)]) (st' := [.inl x1, .inl x2]) (m' := m) [((35, .iload_n 2, 1, 0, 0, 0, 0), (0, 0, 0)), ((36, .iload_n 1, 1, 0, 0, 0, 0), (0, 0, 0))] (by decide +kernel) rfl trivial ?_
    refine gx_cmp .ne 44 (by decide +kernel) (fun c2 => ?_) (fun c2 => ?_)
    · have c2 : x2 ≠ x1 := c2
      refine gx_blk (C := True) (npc := 45) (L' := [(0, .inr 86), (1, .inl x1), (2, .inl x2), (3, .inl x3)]) (st' := [.inl 0]) (m' := m) [((44, .iconst 0, 1, 0, 0, 0, 0), (0, 0, 0))] (by decide +kernel) rfl trivial ?_
      exact gx_retb (by decide +kernel) (by omega) (h1 c1 c2)
    · have c2 : x2 = x1 := by have h : ¬ (x2 ≠ x1) := c2; omega
      refine gx_blk (C := True) (npc := 45) (L' := [(0, .inr 86), (1, .inl x1), (2, .inl x2), (3, .inl x3)]) (st' := [.inl 1]) (m' := m) [((40, .iconst 1, 1, 0, 0, 0, 0), (0, 0, 0)), ((41, .goto 4, 3, 0, 0, 0, 0), (0, 0, 0))] (by decide +kernel) rfl trivial ?_
      exact gx_retb (by decide +kernel) (by omega) (h2 c1 c2)
  · have c1 : x3 < (m 86 37) := by have h : ¬ ((m 86 37) ≤ x3) := c1; omega
    refine gx_blk (C := True) (npc := 19) (L' := [(0, .inr 86), (1, .inl x1), (2, .inl x2), (3, .inl x3)]) (st' := [.inl x1, .inl x2]) (m' := m) [((17, .iload_n 2, 1, 0, 0, 0, 0), (0, 0, 0)), ((18, .iload_n 1, 1, 0, 0, 0, 0), (0, 0, 0))] (by decide +kernel) rfl trivial ?_
    refine gx_cmp .eq 35 (by decide +kernel) (fun c2 => ?_) (fun c2 => ?_)
    · have c2 : x2 = x1 := c2
      refine gx_blk (C := True) (npc := 37) (L' := [(0, .inr 86), (1, .inl x1), (2, .inl x2), (3, .inl x3)]) (st' := [.inl x1, .inl x2]) (m' := m) [((35, .iload_n 2, 1, 0, 0, 0, 0), (0, 0, 0)), ((36, .iload_n 1, 1, 0, 0, 0, 0), (0, 0, 0))] (by decide +kernel) rfl trivial ?_
      refine gx_cmp .ne 44 (by decide +kernel) (fun c3 => ?_) (fun c3 => ?_)
      · have c3 : x2 ≠ x1 := c3
        refine gx_blk (C := True) (npc := 45) (L' := [(0, .inr 86), (1, .inl x1), (2, .inl x2), (3, .inl x3)]) (st' := [.inl 0]) (m' := m) [((44, .iconst 0, 1, 0, 0, 0, 0), (0, 0, 0))] (by decide +kernel) rfl trivial ?_
        exact gx_retb (by decide +kernel) (by omega) (h3 c1 c2 c3)
      · have c3 : x2 = x1 := by have h : ¬ (x2 ≠ x1) := c3; omega
        refine gx_blk (C := True) (npc := 45) (L' := [(0, .inr 86), (1, .inl x1), (2, .inl x2), (3, .inl x3)]) (st' := [.inl 1]) (m' := m) [((40, .iconst 1, 1, 0, 0, 0, 0), (0, 0, 0)), ((41, .goto 4, 3, 0, 0, 0, 0), (0, 0, 0))] (by decide +kernel) rfl trivial ?_
        exact gx_retb (by decide +kernel) (by omega) (h4 c1 c2 c3)
    · have c2 : x2 ≠ x1 := c2
      have f2 := gx_I_at hI 115 (z := x2) 0 7 0 7 (by decide +kernel) (by omega) (by omega)
      have e3 : gx_w (x3 + 1) = x3 + 1 := gx_w_id (by omega) (by omega)
      refine gx_blk (C := (True ∧ (0 ≤ x2 ∧ x2 < 8))) (npc := 9) (L' := [(0, .inr 86), (1, .inl x1), (2, .inl (m 115 (x2).toNat)), (3, .inl (gx_w (x3 + 1)))]) (st' := []) (m' := m) [((22, .aload_n 0, 1, 0, 0, 0, 0), (0, 0, 0)), ((23, .getfield 95, 3, 10, 42, 5155, 0), (1, 86, 115)), ((26, .iload_n 2, 1, 0, 0, 0, 0), (0, 0, 0)), ((27, .iaload, 1, 0, 0, 0, 0), (0, 115, 8)), ((28, .istore_n 2, 1, 0, 0, 0, 0), (0, 0, 0)), ((29, .iinc 3 1, 3, 0, 0, 0, 0), (0, 0, 0)), ((32, .goto (-23), 3, 0, 0, 0, 0), (0, 0, 0))] (by decide +kernel) rfl ⟨trivial, (by omega)⟩ ?_
      rw [e3]
      exact gx_to_pick [0, 1, 2, 3] (h5 c1 c2)

/-- laysRing from 0 on -/
theorem gt249_0 {xs : List Int32} {w0 : sx_W} {d : Nat} {Q : gx_Q} {m : gx_M} (hI : gx_I m)
    (h1 : gx_to xs w0 d yp_m249 9 [(0, .inr 86), (1, .inl (gx_w ((gx_shl 1 (m 86 37)) - 1)))] [] m Q) : gx_to xs w0 d yp_m249 0 [(0, .inr 86)] [] m Q := by
  have f1 := gx_I_n hI 86 37 0 8 (by decide +kernel)
  refine gx_blk (C := True) (npc := 9) (L' := [(0, .inr 86), (1, .inl (gx_w ((gx_shl 1 (m 86 37)) - 1)))]) (st' := []) (m' := m) [((0, .iconst 1, 1, 0, 0, 0, 0), (0, 0, 0)), ((1, .aload_n 0, 1, 0, 0, 0, 0), (0, 0, 0)), ((2, .getfield 346, 3, 10, 37, 5150, 0), (0, 86, 0)), ((5, .ishl, 1, 0, 0, 0, 0), (0, 0, 0)), ((6, .iconst 1, 1, 0, 0, 0, 0), (0, 0, 0)), ((7, .isub, 1, 0, 0, 0, 0), (0, 0, 0)), ((8, .istore_n 1, 1, 0, 0, 0, 0), (0, 0, 0))] (by decide +kernel) rfl trivial ?_
  exact gx_to_pick [0, 1] h1

/-- laysRing from 9 on -/
theorem gt249_9 {xs : List Int32} {w0 : sx_W} {d : Nat} {Q : gx_Q} {m : gx_M} {x1 : Int}
    (h1 : (x1 = 0) → Q none m)
    (h2 : (x1 ≠ 0) → gx_to xs w0 d yp_m249 15 [(0, .inr 86), (1, .inl x1), (2, .inl 0)] [] m Q) : gx_to xs w0 d yp_m249 9 [(0, .inr 86), (1, .inl x1)] [] m Q := by
  refine gx_blk (C := True) (npc := 10) (L' := [(0, .inr 86), (1, .inl x1)]) (st' := [.inl x1]) (m' := m) [((9, .iload_n 1, 1, 0, 0, 0, 0), (0, 0, 0))] (by decide +kernel) rfl trivial ?_
  refine gx_if .eq 113 (by decide +kernel) (fun c1 => ?_) (fun c1 => ?_)
  · have c1 : x1 = 0 := c1
    exact gx_ret0 (by decide +kernel) (h1 c1)
  · have c1 : x1 ≠ 0 := c1
    refine gx_blk (C := True) (npc := 15) (L' := [(0, .inr 86), (1, .inl x1), (2, .inl 0)]) (st' := []) (m' := m) [((13, .iconst 0, 1, 0, 0, 0, 0), (0, 0, 0)), ((14, .istore_n 2, 1, 0, 0, 0, 0), (0, 0, 0))] (by decide +kernel) rfl trivial ?_
    exact gx_to_pick [0, 1, 2] (h2 c1)

/-- laysRing from 15 on -/
theorem gt249_15 {xs : List Int32} {w0 : sx_W} {d : Nat} {Q : gx_Q} {m : gx_M} {x1 x2 : Int} (hI : gx_I m) (r_x2 : 0 ≤ x2 ∧ x2 ≤ 8)
    (h1 : ((m 86 37) ≤ x2) → gx_to xs w0 (d + 1) yp_m249 53 [(0, .inr 86), (1, .inl x1), (2, .inl 0), (3, .inl 0)] [] m Q)
    (h2 : (x2 < (m 86 37)) → gx_to xs w0 d yp_m165 0 [(0, .inl x1), (1, .inl x2)] [] m (fun r m' => gx_to xs w0 (d + 1) yp_m249 28 [(0, .inr 86), (1, .inl x1), (2, .inl x2)] (gx_rs r ++ []) m' Q)) : gx_to xs w0 (d + 1) yp_m249 15 [(0, .inr 86), (1, .inl x1), (2, .inl x2)] [] m Q := by
  have f1 := gx_I_n hI 86 37 0 8 (by decide +kernel)
  refine gx_blk (C := True) (npc := 20) (L' := [(0, .inr 86), (1, .inl x1), (2, .inl x2)]) (st' := [.inl (m 86 37), .inl x2]) (m' := m) [((15, .iload_n 2, 1, 0, 0, 0, 0), (0, 0, 0)), ((16, .aload_n 0, 1, 0, 0, 0, 0), (0, 0, 0)), ((17, .getfield 346, 3, 10, 37, 5150, 0), (0, 86, 0))] (by decide +kernel) rfl trivial ?_
  refine gx_cmp .ge 49 (by decide +kernel) (fun c1 => ?_) (fun c1 => ?_)
  · have c1 : (m 86 37) ≤ x2 := c1
    refine gx_blk (C := True) (npc := 53) (L' := [(0, .inr 86), (1, .inl x1), (2, .inl 0), (3, .inl 0)]) (st' := []) (m' := m) [((49, .iconst 0, 1, 0, 0, 0, 0), (0, 0, 0)), ((50, .istore_n 2, 1, 0, 0, 0, 0), (0, 0, 0)), ((51, .iconst 0, 1, 0, 0, 0, 0), (0, 0, 0)), ((52, .istore_n 3, 1, 0, 0, 0, 0), (0, 0, 0))] (by decide +kernel) rfl trivial ?_
    exact gx_to_pick [0, 1, 2, 3] (h1 c1)
  · have c1 : x2 < (m 86 37) := by have h : ¬ ((m 86 37) ≤ x2) := c1; omega
    refine gx_blk (C := True) (npc := 25) (L' := [(0, .inr 86), (1, .inl x1), (2, .inl x2)]) (st' := [.inl x2, .inl x1]) (m' := m) [((23, .iload_n 1, 1, 0, 0, 0, 0), (0, 0, 0)), ((24, .iload_n 2, 1, 0, 0, 0, 0), (0, 0, 0))] (by decide +kernel) rfl trivial ?_
    exact gx_calls (E := (25, .invokestatic 104, 3, 165, 0, 6035, 0)) (M' := yp_m165) [.inl x1, .inl x2] [] rfl (by decide +kernel) rfl ⟨rfl, rfl⟩ rfl rfl (Nat.le_of_ble_eq_true rfl) (Nat.le_of_ble_eq_true rfl) rfl (gx_to_mono (h2 c1) (fun r m' h' => gx_to_pick [0, 1, 2] h'))

/-- laysRing from 28 on -/
theorem gt249_28 {xs : List Int32} {w0 : sx_W} {d : Nat} {Q : gx_Q} {m : gx_M} {x1 x2 s0 : Int} (r_x2 : 0 ≤ x2 ∧ x2 ≤ 7)
    (h1 : (s0 = 0) → gx_to xs w0 (d + 1) yp_m249 15 [(0, .inr 86), (1, .inl x1), (2, .inl (x2 + 1))] [] m Q)
    (h2 : (s0 ≠ 0) → gx_to xs w0 d yp_m250 0 [(0, .inr 86), (1, .inl x2), (2, .inl x1)] [] m (fun r m' => gx_to xs w0 (d + 1) yp_m249 42 [(0, .inr 86), (1, .inl x1), (2, .inl x2)] (gx_rs r ++ [.inl x2, .inr 115]) m' Q)) : gx_to xs w0 (d + 1) yp_m249 28 [(0, .inr 86), (1, .inl x1), (2, .inl x2)] [.inl s0] m Q := by
  refine gx_if .eq 43 (by decide +kernel) (fun c1 => ?_) (fun c1 => ?_)
  · have c1 : s0 = 0 := c1
    have e1 : gx_w (x2 + 1) = x2 + 1 := gx_w_id (by omega) (by omega)
    refine gx_blk (C := True) (npc := 15) (L' := [(0, .inr 86), (1, .inl x1), (2, .inl (gx_w (x2 + 1)))]) (st' := []) (m' := m) [((43, .iinc 2 1, 3, 0, 0, 0, 0), (0, 0, 0)), ((46, .goto (-31), 3, 0, 0, 0, 0), (0, 0, 0))] (by decide +kernel) rfl trivial ?_
    rw [e1]
    exact gx_to_pick [0, 1, 2] (h1 c1)
  · have c1 : s0 ≠ 0 := c1
    refine gx_blk (C := True) (npc := 39) (L' := [(0, .inr 86), (1, .inl x1), (2, .inl x2)]) (st' := [.inl x1, .inl x2, .inr 86, .inl x2, .inr 115]) (m' := m) [((31, .aload_n 0, 1, 0, 0, 0, 0), (0, 0, 0)), ((32, .getfield 95, 3, 10, 42, 5155, 0), (1, 86, 115)), ((35, .iload_n 2, 1, 0, 0, 0, 0), (0, 0, 0)), ((36, .aload_n 0, 1, 0, 0, 0, 0), (0, 0, 0)), ((37, .iload_n 2, 1, 0, 0, 0, 0), (0, 0, 0)), ((38, .iload_n 1, 1, 0, 0, 0, 0), (0, 0, 0))] (by decide +kernel) rfl trivial ?_
    exact gx_callv (E := (39, .invokevirtual 367, 3, 250, 0, 7127, 0)) (M' := yp_m250) (c := 86) [.inl x2, .inl x1] [.inl x2, .inr 115] rfl (by decide +kernel) rfl ⟨rfl, rfl⟩ rfl rfl (Nat.le_of_ble_eq_true rfl) (Nat.le_of_ble_eq_true rfl) (by decide +kernel) (gx_to_mono (h2 c1) (fun r m' h' => gx_to_pick [0, 1, 2] h'))

/-- laysRing from 42 on -/
theorem gt249_42 {xs : List Int32} {w0 : sx_W} {d : Nat} {Q : gx_Q} {m : gx_M} {x1 x2 s1 s2 : Int} (r_x2 : 0 ≤ x2 ∧ x2 ≤ 7) (r_s1 : 0 ≤ s1 ∧ s1 ≤ 7)
    (h1 : gx_to xs w0 d yp_m249 15 [(0, .inr 86), (1, .inl x1), (2, .inl (x2 + 1))] [] (gx_u m 115 (s1).toNat s2) Q) : gx_to xs w0 d yp_m249 42 [(0, .inr 86), (1, .inl x1), (2, .inl x2)] [.inl s2, .inl s1, .inr 115] m Q := by
  have e1 : gx_w (x2 + 1) = x2 + 1 := gx_w_id (by omega) (by omega)
  refine gx_blk (C := (True ∧ (0 ≤ s1 ∧ s1 < 8))) (npc := 15) (L' := [(0, .inr 86), (1, .inl x1), (2, .inl (gx_w (x2 + 1)))]) (st' := []) (m' := (gx_u m 115 (s1).toNat s2)) [((42, .iastore, 1, 0, 0, 0, 0), (0, 115, 8)), ((43, .iinc 2 1, 3, 0, 0, 0, 0), (0, 0, 0)), ((46, .goto (-31), 3, 0, 0, 0, 0), (0, 0, 0))] (by decide +kernel) rfl ⟨trivial, (by omega)⟩ ?_
  rw [e1]
  exact gx_to_pick [0, 1, 2] h1

/-- laysRing from 53 on -/
theorem gt249_53 {xs : List Int32} {w0 : sx_W} {d : Nat} {Q : gx_Q} {m : gx_M} {x1 x2 x3 : Int} (hI : gx_I m) (r_x3 : 0 ≤ x3 ∧ x3 ≤ 8)
    (h1 : ((m 86 37) ≤ x3) → gx_to xs w0 (d + 1) yp_m249 9 [(0, .inr 86), (1, .inl (gx_and x1 (gx_xor x2 (-1))))] [] m Q)
    (h2 : (x3 < (m 86 37)) → gx_to xs w0 d yp_m165 0 [(0, .inl x1), (1, .inl x3)] [] m (fun r m' => gx_to xs w0 (d + 1) yp_m249 66 [(0, .inr 86), (1, .inl x1), (2, .inl x2), (3, .inl x3)] (gx_rs r ++ []) m' Q)) : gx_to xs w0 (d + 1) yp_m249 53 [(0, .inr 86), (1, .inl x1), (2, .inl x2), (3, .inl x3)] [] m Q := by
  have f1 := gx_I_n hI 86 37 0 8 (by decide +kernel)
  refine gx_blk (C := True) (npc := 58) (L' := [(0, .inr 86), (1, .inl x1), (2, .inl x2), (3, .inl x3)]) (st' := [.inl (m 86 37), .inl x3]) (m' := m) [((53, .iload_n 3, 1, 0, 0, 0, 0), (0, 0, 0)), ((54, .aload_n 0, 1, 0, 0, 0, 0), (0, 0, 0)), ((55, .getfield 346, 3, 10, 37, 5150, 0), (0, 86, 0))] (by decide +kernel) rfl trivial ?_
  refine gx_cmp .ge 104 (by decide +kernel) (fun c1 => ?_) (fun c1 => ?_)
  · have c1 : (m 86 37) ≤ x3 := c1
    refine gx_blk (C := True) (npc := 9) (L' := [(0, .inr 86), (1, .inl (gx_and x1 (gx_xor x2 (-1)))), (2, .inl x2), (3, .inl x3)]) (st' := []) (m' := m) [((104, .iload_n 1, 1, 0, 0, 0, 0), (0, 0, 0)), ((105, .iload_n 2, 1, 0, 0, 0, 0), (0, 0, 0)), ((106, .iconst (-1), 1, 0, 0, 0, 0), (0, 0, 0)), ((107, .ixor, 1, 0, 0, 0, 0), (0, 0, 0)), ((108, .iand, 1, 0, 0, 0, 0), (0, 0, 0)), ((109, .istore_n 1, 1, 0, 0, 0, 0), (0, 0, 0)), ((110, .goto (-101), 3, 0, 0, 0, 0), (0, 0, 0))] (by decide +kernel) rfl trivial ?_
    exact gx_to_pick [0, 1] (h1 c1)
  · have c1 : x3 < (m 86 37) := by have h : ¬ ((m 86 37) ≤ x3) := c1; omega
    refine gx_blk (C := True) (npc := 63) (L' := [(0, .inr 86), (1, .inl x1), (2, .inl x2), (3, .inl x3)]) (st' := [.inl x3, .inl x1]) (m' := m) [((61, .iload_n 1, 1, 0, 0, 0, 0), (0, 0, 0)), ((62, .iload_n 3, 1, 0, 0, 0, 0), (0, 0, 0))] (by decide +kernel) rfl trivial ?_
    exact gx_calls (E := (63, .invokestatic 104, 3, 165, 0, 6035, 0)) (M' := yp_m165) [.inl x1, .inl x3] [] rfl (by decide +kernel) rfl ⟨rfl, rfl⟩ rfl rfl (Nat.le_of_ble_eq_true rfl) (Nat.le_of_ble_eq_true rfl) rfl (gx_to_mono (h2 c1) (fun r m' h' => gx_to_pick [0, 1, 2, 3] h'))

/-- laysRing from 66 on -/
theorem gt249_66 {xs : List Int32} {w0 : sx_W} {d : Nat} {Q : gx_Q} {m : gx_M} {x1 x2 x3 s0 : Int} (r_x3 : 0 ≤ x3 ∧ x3 ≤ 7)
    (h1 : (s0 = 0) → gx_to xs w0 (d + 1) yp_m249 53 [(0, .inr 86), (1, .inl x1), (2, .inl x2), (3, .inl (x3 + 1))] [] m Q)
    (h2 : (s0 ≠ 0) → gx_to xs w0 d yp_m251 0 [(0, .inr 86), (1, .inl x3)] [] m (fun r m' => gx_to xs w0 (d + 1) yp_m249 74 [(0, .inr 86), (1, .inl x1), (2, .inl x2), (3, .inl x3)] (gx_rs r ++ []) m' Q)) : gx_to xs w0 (d + 1) yp_m249 66 [(0, .inr 86), (1, .inl x1), (2, .inl x2), (3, .inl x3)] [.inl s0] m Q := by
  refine gx_if .eq 98 (by decide +kernel) (fun c1 => ?_) (fun c1 => ?_)
  · have c1 : s0 = 0 := c1
    have e1 : gx_w (x3 + 1) = x3 + 1 := gx_w_id (by omega) (by omega)
    refine gx_blk (C := True) (npc := 53) (L' := [(0, .inr 86), (1, .inl x1), (2, .inl x2), (3, .inl (gx_w (x3 + 1)))]) (st' := []) (m' := m) [((98, .iinc 3 1, 3, 0, 0, 0, 0), (0, 0, 0)), ((101, .goto (-48), 3, 0, 0, 0, 0), (0, 0, 0))] (by decide +kernel) rfl trivial ?_
    rw [e1]
    exact gx_to_pick [0, 1, 2, 3] (h1 c1)
  · have c1 : s0 ≠ 0 := c1
    refine gx_blk (C := True) (npc := 71) (L' := [(0, .inr 86), (1, .inl x1), (2, .inl x2), (3, .inl x3)]) (st' := [.inl x3, .inr 86]) (m' := m) [((69, .aload_n 0, 1, 0, 0, 0, 0), (0, 0, 0)), ((70, .iload_n 3, 1, 0, 0, 0, 0), (0, 0, 0))] (by decide +kernel) rfl trivial ?_
    exact gx_callv (E := (71, .invokevirtual 370, 3, 251, 0, 7131, 0)) (M' := yp_m251) (c := 86) [.inl x3] [] rfl (by decide +kernel) rfl ⟨rfl, rfl⟩ rfl rfl (Nat.le_of_ble_eq_true rfl) (Nat.le_of_ble_eq_true rfl) (by decide +kernel) (gx_to_mono (h2 c1) (fun r m' h' => gx_to_pick [0, 1, 2, 3] h'))

/-- laysRing from 74 on -/
theorem gt249_74 {xs : List Int32} {w0 : sx_W} {d : Nat} {Q : gx_Q} {m : gx_M} {x1 x2 x3 s0 : Int} (hI : gx_I m) (r_x3 : 0 ≤ x3 ∧ x3 ≤ 7)
    (h1 : (s0 ≠ 0) → gx_to xs w0 d yp_m249 53 [(0, .inr 86), (1, .inl x1), (2, .inl (gx_or x2 (gx_shl 1 x3))), (3, .inl (x3 + 1))] [] (gx_u m 116 (x3).toNat (m 115 (x3).toNat)) Q)
    (h2 : (s0 = 0) → gx_to xs w0 d yp_m249 53 [(0, .inr 86), (1, .inl x1), (2, .inl x2), (3, .inl (x3 + 1))] [] m Q) : gx_to xs w0 d yp_m249 74 [(0, .inr 86), (1, .inl x1), (2, .inl x2), (3, .inl x3)] [.inl s0] m Q := by
  refine gx_if .ne 80 (by decide +kernel) (fun c1 => ?_) (fun c1 => ?_)
  · have c1 : s0 ≠ 0 := c1
    have f1 := gx_I_at hI 115 (z := x3) 0 7 0 7 (by decide +kernel) (by omega) (by omega)
    have e2 : gx_w (x3 + 1) = x3 + 1 := gx_w_id (by omega) (by omega)
    refine gx_blk (C := (((True ∧ (0 ≤ x3 ∧ x3 < 8))) ∧ (0 ≤ x3 ∧ x3 < 8))) (npc := 53) (L' := [(0, .inr 86), (1, .inl x1), (2, .inl (gx_or x2 (gx_shl 1 x3))), (3, .inl (gx_w (x3 + 1)))]) (st' := []) (m' := (gx_u m 116 (x3).toNat (m 115 (x3).toNat))) [((80, .aload_n 0, 1, 0, 0, 0, 0), (0, 0, 0)), ((81, .getfield 98, 3, 10, 43, 5156, 0), (1, 86, 116)), ((84, .iload_n 3, 1, 0, 0, 0, 0), (0, 0, 0)), ((85, .aload_n 0, 1, 0, 0, 0, 0), (0, 0, 0)), ((86, .getfield 95, 3, 10, 42, 5155, 0), (1, 86, 115)), ((89, .iload_n 3, 1, 0, 0, 0, 0), (0, 0, 0)), ((90, .iaload, 1, 0, 0, 0, 0), (0, 115, 8)), ((91, .iastore, 1, 0, 0, 0, 0), (0, 116, 8)), ((92, .iload_n 2, 1, 0, 0, 0, 0), (0, 0, 0)), ((93, .iconst 1, 1, 0, 0, 0, 0), (0, 0, 0)), ((94, .iload_n 3, 1, 0, 0, 0, 0), (0, 0, 0)), ((95, .ishl, 1, 0, 0, 0, 0), (0, 0, 0)), ((96, .ior, 1, 0, 0, 0, 0), (0, 0, 0)), ((97, .istore_n 2, 1, 0, 0, 0, 0), (0, 0, 0)), ((98, .iinc 3 1, 3, 0, 0, 0, 0), (0, 0, 0)), ((101, .goto (-48), 3, 0, 0, 0, 0), (0, 0, 0))] (by decide +kernel) rfl ⟨⟨trivial, (by omega)⟩, (by omega)⟩ ?_
    rw [e2]
    exact gx_to_pick [0, 1, 2, 3] (h1 c1)
  · have c1 : s0 = 0 := by have h : ¬ (s0 ≠ 0) := c1; omega
    have e3 : gx_w (x3 + 1) = x3 + 1 := gx_w_id (by omega) (by omega)
    refine gx_blk (C := True) (npc := 53) (L' := [(0, .inr 86), (1, .inl x1), (2, .inl x2), (3, .inl (gx_w (x3 + 1)))]) (st' := []) (m' := m) [((77, .goto 21, 3, 0, 0, 0, 0), (0, 0, 0)), ((98, .iinc 3 1, 3, 0, 0, 0, 0), (0, 0, 0)), ((101, .goto (-48), 3, 0, 0, 0, 0), (0, 0, 0))] (by decide +kernel) rfl trivial ?_
    rw [e3]
    exact gx_to_pick [0, 1, 2, 3] (h2 c1)

