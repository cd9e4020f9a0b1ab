section
/-! roads of methods read by hand, from cut points to the next ones (printed by wip/gen/gxall.py) -/
/-- isYear from 0 on -/
theorem gt196_0 {xs : List Int32} {w0 : sx_W} {d : Nat} {Q : gx_Q} {m : gx_M} {x1 : Int} (hI : gx_I m)
    (h1 : (x1 < 0) → Q (some 0) m)
    (h2 : (0 ≤ x1) → (40 ≤ x1) → Q (some 0) m)
    (h3 : (0 ≤ x1) → (x1 < 40) → ((m 87 (440 + x1).toNat) ≠ 1) → Q (some 0) m)
    (h4 : (0 ≤ x1) → (x1 < 40) → ((m 87 (440 + x1).toNat) = 1) → Q (some 1) m) : gx_to xs w0 d yp_m196 0 [(0, .inr 86), (1, .inl x1)] [] m Q := by
  refine gx_blk (C := True) (npc := 1) (L' := [(0, .inr 86), (1, .inl x1)]) (st' := [.inl x1]) (m' := m) [((0, .iload_n 1, 1, 0, 0, 0, 0), (0, 0, 0))] (by decide +kernel) rfl trivial ?_
  refine gx_if .lt 28 (by decide +kernel) (fun c1 => ?_) (fun c1 => ?_)
  · have c1 : x1 < 0 := c1
    refine gx_blk (C := True) (npc := 29) (L' := [(0, .inr 86), (1, .inl x1)]) (st' := [.inl 0]) (m' := m) [((28, .iconst 0, 1, 0, 0, 0, 0), (0, 0, 0))] (by decide +kernel) rfl trivial ?_
    exact gx_retb (by decide +kernel) (by omega) (h1 c1)
  · have c1 : 0 ≤ x1 := by have h : ¬ (x1 < 0) := c1; omega
    refine gx_blk (C := True) (npc := 7) (L' := [(0, .inr 86), (1, .inl x1)]) (st' := [.inl 40, .inl x1]) (m' := m) [((4, .iload_n 1, 1, 0, 0, 0, 0), (0, 0, 0)), ((5, .bipush 40, 2, 0, 0, 0, 0), (0, 0, 0))] (by decide +kernel) rfl trivial ?_
    refine gx_cmp .ge 28 (by decide +kernel) (fun c2 => ?_) (fun c2 => ?_)
    · have c2 : 40 ≤ x1 := c2
      refine gx_blk (C := True) (npc := 29) (L' := [(0, .inr 86), (1, .inl x1)]) (st' := [.inl 0]) (m' := m) [((28, .iconst 0, 1, 0, 0, 0, 0), (0, 0, 0))] (by decide +kernel) rfl trivial ?_
      exact gx_retb (by decide +kernel) (by omega) (h2 c1 c2)
    · have c2 : x1 < 40 := by have h : ¬ (40 ≤ x1) := c2; omega
      have e1 : gx_w (440 + x1) = 440 + x1 := gx_w_id (by omega) (by omega)
      have f2 := gx_I_at hI 87 (z := 440 + x1) 440 479 0 1 (by decide +kernel) (by omega) (by omega)
      refine gx_blk (C := (True ∧ (0 ≤ (gx_w (440 + x1)) ∧ (gx_w (440 + x1)) < 1131))) (npc := 21) (L' := [(0, .inr 86), (1, .inl x1)]) (st' := [.inl 1, .inl (m 87 (gx_w (440 + x1)).toNat)]) (m' := m) [((10, .aload_n 0, 1, 0, 0, 0, 0), (0, 0, 0)), ((11, .getfield 7, 3, 10, 0, 5113, 0), (1, 86, 87)), ((14, .sipush 440, 3, 0, 0, 0, 0), (0, 0, 0)), ((17, .iload_n 1, 1, 0, 0, 0, 0), (0, 0, 0)), ((18, .iadd, 1, 0, 0, 0, 0), (0, 0, 0)), ((19, .iaload, 1, 0, 0, 0, 0), (0, 87, 1131)), ((20, .iconst 1, 1, 0, 0, 0, 0), (0, 0, 0))] (by decide +kernel) rfl ⟨trivial, (by rw [e1]; omega)⟩ ?_
      rw [e1]
      refine gx_cmp .ne 28 (by decide +kernel) (fun c3 => ?_) (fun c3 => ?_)
      · have c3 : (m 87 (440 + x1).toNat) ≠ 1 := c3
        refine gx_blk (C := True) (npc := 29) (L' := [(0, .inr 86), (1, .inl x1)]) (st' := [.inl 0]) (m' := m) [((28, .iconst 0, 1, 0, 0, 0, 0), (0, 0, 0))] (by decide +kernel) rfl trivial ?_
        exact gx_retb (by decide +kernel) (by omega) (h3 c1 c2 c3)
      · have c3 : (m 87 (440 + x1).toNat) = 1 := by have h : ¬ ((m 87 (440 + x1).toNat) ≠ 1) := c3; omega
        refine gx_blk (C := True) (npc := 29) (L' := [(0, .inr 86), (1, .inl x1)]) (st' := [.inl 1]) (m' := m) [((24, .iconst 1, 1, 0, 0, 0, 0), (0, 0, 0)), ((25, .goto 4, 3, 0, 0, 0, 0), (0, 0, 0))] (by decide +kernel) rfl trivial ?_
        exact gx_retb (by decide +kernel) (by omega) (h4 c1 c2 c3)

/-- isPawned from 0 on -/
theorem gt200_0 {xs : List Int32} {w0 : sx_W} {d : Nat} {Q : gx_Q} {m : gx_M} {x1 : Int} (hI : gx_I m) (r_x1 : 0 ≤ x1 ∧ x1 ≤ 39)
    (h1 : ((m 87 (280 + x1).toNat) < 0) → Q (some 0) m)
    (h2 : (0 ≤ (m 87 (280 + x1).toNat)) → Q (some 1) m) : gx_to xs w0 d yp_m200 0 [(0, .inr 86), (1, .inl x1)] [] m Q := by
  have e1 : gx_w (280 + x1) = 280 + x1 := gx_w_id (by omega) (by omega)
  have f2 := gx_I_at hI 87 (z := 280 + x1) 280 319 (-2) 7 (by decide +kernel) (by omega) (by omega)
  refine gx_blk (C := (True ∧ (0 ≤ (gx_w (280 + x1)) ∧ (gx_w (280 + x1)) < 1131))) (npc := 10) (L' := [(0, .inr 86), (1, .inl x1)]) (st' := [.inl (m 87 (gx_w (280 + x1)).toNat)]) (m' := m) [((0, .aload_n 0, 1, 0, 0, 0, 0), (0, 0, 0)), ((1, .getfield 7, 3, 10, 0, 5113, 0), (1, 86, 87)), ((4, .sipush 280, 3, 0, 0, 0, 0), (0, 0, 0)), ((7, .iload_n 1, 1, 0, 0, 0, 0), (0, 0, 0)), ((8, .iadd, 1, 0, 0, 0, 0), (0, 0, 0)), ((9, .iaload, 1, 0, 0, 0, 0), (0, 87, 1131))] (by decide +kernel) rfl ⟨trivial, (by rw [e1]; omega)⟩ ?_
  rw [e1]
  refine gx_if .lt 17 (by decide +kernel) (fun c1 => ?_) (fun c1 => ?_)
  · have c1 : (m 87 (280 + x1).toNat) < 0 := c1
    refine gx_blk (C := True) (npc := 18) (L' := [(0, .inr 86), (1, .inl x1)]) (st' := [.inl 0]) (m' := m) [((17, .iconst 0, 1, 0, 0, 0, 0), (0, 0, 0))] (by decide +kernel) rfl trivial ?_
    exact gx_retb (by decide +kernel) (by omega) (h1 c1)
  · have c1 : 0 ≤ (m 87 (280 + x1).toNat) := by have h : ¬ ((m 87 (280 + x1).toNat) < 0) := c1; omega
    refine gx_blk (C := True) (npc := 18) (L' := [(0, .inr 86), (1, .inl x1)]) (st' := [.inl 1]) (m' := m) [((13, .iconst 1, 1, 0, 0, 0, 0), (0, 0, 0)), ((14, .goto 4, 3, 0, 0, 0, 0), (0, 0, 0))] (by decide +kernel) rfl trivial ?_
    exact gx_retb (by decide +kernel) (by omega) (h2 c1)

/-- takesYears from 0 on -/
theorem gt243_0 {xs : List Int32} {w0 : sx_W} {d : Nat} {Q : gx_Q} {m : gx_M} {x1 : Int} (r_x1 : 1 ≤ x1 ∧ x1 ≤ 8)
    (h1 : gx_to xs w0 d yp_m243 7 [(0, .inr 86), (1, .inl x1), (2, .inl 0)] [] (gx_u m 86 37 x1) Q) : gx_to xs w0 d yp_m243 0 [(0, .inr 86), (1, .inl x1)] [] m Q := by
  refine gx_blk (C := True) (npc := 7) (L' := [(0, .inr 86), (1, .inl x1), (2, .inl 0)]) (st' := []) (m' := (gx_u m 86 37 x1)) [((0, .aload_n 0, 1, 0, 0, 0, 0), (0, 0, 0)), ((1, .iload_n 1, 1, 0, 0, 0, 0), (0, 0, 0)), ((2, .putfield 346, 3, 10, 37, 5150, 0), (0, 86, 0)), ((5, .iconst 0, 1, 0, 0, 0, 0), (0, 0, 0)), ((6, .istore_n 2, 1, 0, 0, 0, 0), (0, 0, 0))] (by decide +kernel) rfl trivial ?_
  exact gx_to_pick [0, 1, 2] h1

/-- takesYears from 7 on -/
theorem gt243_7 {xs : List Int32} {w0 : sx_W} {d : Nat} {Q : gx_Q} {m : gx_M} {x1 x2 : Int} (hI : gx_I m) (r_x1 : 1 ≤ x1 ∧ x1 ≤ 8) (r_x2 : 0 ≤ x2 ∧ x2 ≤ 8)
    (h1 : (x1 ≤ x2) → Q (some 1) m)
    (h2 : (x2 < x1) → gx_to xs w0 d yp_m196 0 [(0, .inr 86), (1, .inl (gx_and (m 90 (x2).toNat) 255))] [] m (fun r m' => gx_to xs w0 (d + 1) yp_m243 28 [(0, .inr 86), (1, .inl x1), (2, .inl x2), (3, .inl (gx_and (m 90 (x2).toNat) 255))] (gx_rs r ++ []) m' Q)) : gx_to xs w0 (d + 1) yp_m243 7 [(0, .inr 86), (1, .inl x1), (2, .inl x2)] [] m Q := by
  refine gx_blk (C := True) (npc := 9) (L' := [(0, .inr 86), (1, .inl x1), (2, .inl x2)]) (st' := [.inl x1, .inl x2]) (m' := m) [((7, .iload_n 2, 1, 0, 0, 0, 0), (0, 0, 0)), ((8, .iload_n 1, 1, 0, 0, 0, 0), (0, 0, 0))] (by decide +kernel) rfl trivial ?_
  refine gx_cmp .ge 82 (by decide +kernel) (fun c1 => ?_) (fun c1 => ?_)
  · have c1 : x1 ≤ x2 := c1
    refine gx_blk (C := True) (npc := 83) (L' := [(0, .inr 86), (1, .inl x1), (2, .inl x2)]) (st' := [.inl 1]) (m' := m) [((82, .iconst 1, 1, 0, 0, 0, 0), (0, 0, 0))] (by decide +kernel) rfl trivial ?_
    exact gx_retb (by decide +kernel) (by omega) (h1 c1)
  · have c1 : x2 < x1 := by have h : ¬ (x1 ≤ x2) := c1; omega
    have f1 := gx_I_at hI 90 (z := x2) 0 7 (-128) 127 (by decide +kernel) (by omega) (by omega)
    have f2 := gx_and_bd (m 90 (x2).toNat) 255 (by decide)
    refine gx_blk (C := (True ∧ (0 ≤ x2 ∧ x2 < 260))) (npc := 25) (L' := [(0, .inr 86), (1, .inl x1), (2, .inl x2), (3, .inl (gx_and (m 90 (x2).toNat) 255))]) (st' := [.inl (gx_and (m 90 (x2).toNat) 255), .inr 86]) (m' := m) [((12, .aload_n 0, 1, 0, 0, 0, 0), (0, 0, 0)), ((13, .getfield 19, 3, 10, 3, 5116, 0), (1, 86, 90)), ((16, .iload_n 2, 1, 0, 0, 0, 0), (0, 0, 0)), ((17, .baload, 1, 0, 0, 0, 0), (0, 90, 260)), ((18, .sipush 255, 3, 0, 0, 0, 0), (0, 0, 0)), ((21, .iand, 1, 0, 0, 0, 0), (0, 0, 0)), ((22, .istore_n 3, 1, 0, 0, 0, 0), (0, 0, 0)), ((23, .aload_n 0, 1, 0, 0, 0, 0), (0, 0, 0)), ((24, .iload_n 3, 1, 0, 0, 0, 0), (0, 0, 0))] (by decide +kernel) rfl ⟨trivial, (by omega)⟩ ?_
    exact gx_callv (E := (25, .invokevirtual 269, 3, 196, 0, 6156, 0)) (M' := yp_m196) (c := 86) [.inl (gx_and (m 90 (x2).toNat) 255)] [] rfl (by decide +kernel) rfl ⟨rfl, rfl⟩ rfl rfl (Nat.le_of_ble_eq_true rfl) (Nat.le_of_ble_eq_true rfl) (by decide +kernel) (gx_to_mono (h2 c1) (fun r m' h' => gx_to_pick [0, 1, 2, 3] h'))

/-- takesYears from 28 on -/
theorem gt243_28 {xs : List Int32} {w0 : sx_W} {d : Nat} {Q : gx_Q} {m : gx_M} {x1 x2 x3 s0 : Int} (r_x1 : 1 ≤ x1 ∧ x1 ≤ 8) (r_x2 : 0 ≤ x2 ∧ x2 ≤ 7)
    (h1 : (s0 = 0) → Q (some 0) m)
    (h2 : (s0 ≠ 0) → gx_to xs w0 d yp_m200 0 [(0, .inr 86), (1, .inl x3)] [] m (fun r m' => gx_to xs w0 (d + 1) yp_m243 36 [(0, .inr 86), (1, .inl x1), (2, .inl x2), (3, .inl x3)] (gx_rs r ++ []) m' Q)) : gx_to xs w0 (d + 1) yp_m243 28 [(0, .inr 86), (1, .inl x1), (2, .inl x2), (3, .inl x3)] [.inl s0] m Q := by
  refine gx_if .eq 39 (by decide +kernel) (fun c1 => ?_) (fun c1 => ?_)
  · have c1 : s0 = 0 := c1
    refine gx_blk (C := True) (npc := 40) (L' := [(0, .inr 86), (1, .inl x1), (2, .inl x2), (3, .inl x3)]) (st' := [.inl 0]) (m' := m) [((39, .iconst 0, 1, 0, 0, 0, 0), (0, 0, 0))] (by decide +kernel) rfl trivial ?_
    exact gx_retb (by decide +kernel) (by omega) (h1 c1)
  · have c1 : s0 ≠ 0 := c1
    refine gx_blk (C := True) (npc := 33) (L' := [(0, .inr 86), (1, .inl x1), (2, .inl x2), (3, .inl x3)]) (st' := [.inl x3, .inr 86]) (m' := m) [((31, .aload_n 0, 1, 0, 0, 0, 0), (0, 0, 0)), ((32, .iload_n 3, 1, 0, 0, 0, 0), (0, 0, 0))] (by decide +kernel) rfl trivial ?_
    exact gx_callv (E := (33, .invokevirtual 275, 3, 200, 0, 6171, 0)) (M' := yp_m200) (c := 86) [.inl x3] [] rfl (by decide +kernel) rfl ⟨rfl, rfl⟩ rfl rfl (Nat.le_of_ble_eq_true rfl) (Nat.le_of_ble_eq_true rfl) (by decide +kernel) (gx_to_mono (h2 c1) (fun r m' h' => gx_to_pick [0, 1, 2, 3] h'))

/-- takesYears from 36 on -/
theorem gt243_36 {xs : List Int32} {w0 : sx_W} {d : Nat} {Q : gx_Q} {m : gx_M} {x1 x2 x3 s0 : Int} (r_x1 : 1 ≤ x1 ∧ x1 ≤ 8) (r_x2 : 0 ≤ x2 ∧ x2 ≤ 7) (r_x3 : 0 ≤ x3 ∧ x3 ≤ 39)
    (h1 : (s0 = 0) → gx_to xs w0 d yp_m243 44 [(0, .inr 86), (1, .inl x1), (2, .inl x2), (3, .inl x3), (4, .inl 0)] [] m Q)
    (h2 : (s0 ≠ 0) → Q (some 0) m) : gx_to xs w0 d yp_m243 36 [(0, .inr 86), (1, .inl x1), (2, .inl x2), (3, .inl x3)] [.inl s0] m Q := by
  refine gx_if .eq 41 (by decide +kernel) (fun c1 => ?_) (fun c1 => ?_)
  · have c1 : s0 = 0 := c1
    refine gx_blk (C := True) (npc := 44) (L' := [(0, .inr 86), (1, .inl x1), (2, .inl x2), (3, .inl x3), (4, .inl 0)]) (st' := []) (m' := m) [((41, .iconst 0, 1, 0, 0, 0, 0), (0, 0, 0)), ((42, .istore 4, 2, 0, 0, 0, 0), (0, 0, 0))] (by decide +kernel) rfl trivial ?_
    exact gx_to_pick [0, 1, 2, 3, 4] (h1 c1)
  · have c1 : s0 ≠ 0 := c1
    refine gx_blk (C := True) (npc := 40) (L' := [(0, .inr 86), (1, .inl x1), (2, .inl x2), (3, .inl x3)]) (st' := [.inl 0]) (m' := m) [((39, .iconst 0, 1, 0, 0, 0, 0), (0, 0, 0))] (by decide +kernel) rfl trivial ?_
    exact gx_retb (by decide +kernel) (by omega) (h2 c1)

/-- takesYears from 44 on -/
theorem gt243_44 {xs : List Int32} {w0 : sx_W} {d : Nat} {Q : gx_Q} {m : gx_M} {x1 x2 x3 x4 : Int} (hI : gx_I m) (r_x1 : 1 ≤ x1 ∧ x1 ≤ 8) (r_x2 : 0 ≤ x2 ∧ x2 ≤ 7) (r_x3 : 0 ≤ x3 ∧ x3 ≤ 39) (r_x4 : 0 ≤ x4 ∧ x4 ≤ 7)
    (h1 : (x2 ≤ x4) → gx_to xs w0 d yp_m243 7 [(0, .inr 86), (1, .inl x1), (2, .inl (x2 + 1))] [] (gx_u m 112 (x2).toNat x3) Q)
    (h2 : (x4 < x2) → ((m 112 (x4).toNat) ≠ x3) → gx_to xs w0 d yp_m243 44 [(0, .inr 86), (1, .inl x1), (2, .inl x2), (3, .inl x3), (4, .inl (x4 + 1))] [] m Q)
    (h3 : (x4 < x2) → ((m 112 (x4).toNat) = x3) → Q (some 0) m) : gx_to xs w0 d yp_m243 44 [(0, .inr 86), (1, .inl x1), (2, .inl x2), (3, .inl x3), (4, .inl x4)] [] m Q := by
  refine gx_blk (C := True) (npc := 47) (L' := [(0, .inr 86), (1, .inl x1), (2, .inl x2), (3, .inl x3), (4, .inl x4)]) (st' := [.inl x2, .inl x4]) (m' := m) [((44, .iload 4, 2, 0, 0, 0, 0), (0, 0, 0)), ((46, .iload_n 2, 1, 0, 0, 0, 0), (0, 0, 0))] (by decide +kernel) rfl trivial ?_
  refine gx_cmp .ge 69 (by decide +kernel) (fun c1 => ?_) (fun c1 => ?_)
  · have c1 : x2 ≤ x4 := c1
    have e1 : gx_w (x2 + 1) = x2 + 1 := gx_w_id (by omega) (by omega)
    refine gx_blk (C := (True ∧ (0 ≤ x2 ∧ x2 < 8))) (npc := 7) (L' := [(0, .inr 86), (1, .inl x1), (2, .inl (gx_w (x2 + 1))), (3, .inl x3), (4, .inl x4)]) (st' := []) (m' := (gx_u m 112 (x2).toNat x3)) [((69, .aload_n 0, 1, 0, 0, 0, 0), (0, 0, 0)), ((70, .getfield 86, 3, 10, 39, 5152, 0), (1, 86, 112)), ((73, .iload_n 2, 1, 0, 0, 0, 0), (0, 0, 0)), ((74, .iload_n 3, 1, 0, 0, 0, 0), (0, 0, 0)), ((75, .iastore, 1, 0, 0, 0, 0), (0, 112, 8)), ((76, .iinc 2 1, 3, 0, 0, 0, 0), (0, 0, 0)), ((79, .goto (-72), 3, 0, 0, 0, 0), (0, 0, 0))] (by decide +kernel) rfl ⟨trivial, (by omega)⟩ ?_
    rw [e1]
    exact gx_to_pick [0, 1, 2] (h1 c1)
  · have c1 : x4 < x2 := by have h : ¬ (x2 ≤ x4) := c1; omega
    have f2 := gx_I_at hI 112 (z := x4) 0 6 0 39 (by decide +kernel) (by omega) (by omega)
    refine gx_blk (C := (True ∧ (0 ≤ x4 ∧ x4 < 8))) (npc := 58) (L' := [(0, .inr 86), (1, .inl x1), (2, .inl x2), (3, .inl x3), (4, .inl x4)]) (st' := [.inl x3, .inl (m 112 (x4).toNat)]) (m' := m) [((50, .aload_n 0, 1, 0, 0, 0, 0), (0, 0, 0)), ((51, .getfield 86, 3, 10, 39, 5152, 0), (1, 86, 112)), ((54, .iload 4, 2, 0, 0, 0, 0), (0, 0, 0)), ((56, .iaload, 1, 0, 0, 0, 0), (0, 112, 8)), ((57, .iload_n 3, 1, 0, 0, 0, 0), (0, 0, 0))] (by decide +kernel) rfl ⟨trivial, (by omega)⟩ ?_
    refine gx_cmp .ne 63 (by decide +kernel) (fun c2 => ?_) (fun c2 => ?_)
    · have c2 : (m 112 (x4).toNat) ≠ x3 := c2
      have e3 : gx_w (x4 + 1) = x4 + 1 := gx_w_id (by omega) (by omega)
      refine gx_blk (C := True) (npc := 44) (L' := [(0, .inr 86), (1, .inl x1), (2, .inl x2), (3, .inl x3), (4, .inl (gx_w (x4 + 1)))]) (st' := []) (m' := m) [((63, .iinc 4 1, 3, 0, 0, 0, 0), (0, 0, 0)), ((66, .goto (-22), 3, 0, 0, 0, 0), (0, 0, 0))] (by decide +kernel) rfl trivial ?_
      rw [e3]
      exact gx_to_pick [0, 1, 2, 3, 4] (h2 c1 c2)
    · have c2 : (m 112 (x4).toNat) = x3 := by have h : ¬ ((m 112 (x4).toNat) ≠ x3) := c2; omega
      refine gx_blk (C := True) (npc := 62) (L' := [(0, .inr 86), (1, .inl x1), (2, .inl x2), (3, .inl x3), (4, .inl x4)]) (st' := [.inl 0]) (m' := m) [((61, .iconst 0, 1, 0, 0, 0, 0), (0, 0, 0))] (by decide +kernel) rfl trivial ?_
      exact gx_retb (by decide +kernel) (by omega) (h3 c1 c2)

/-- soldBy from 0 on -/
theorem gt246_0 {xs : List Int32} {w0 : sx_W} {d : Nat} {Q : gx_Q} {m : gx_M} {x1 x2 x3 : Int} (r_x1 : 0 ≤ x1 ∧ x1 ≤ 5) (r_x2 : 0 ≤ x2 ∧ x2 ≤ 8) (r_x3 : 0 ≤ x3 ∧ x3 ≤ 255)
    (h1 : (x2 ≠ 8) → gx_to xs w0 d yp_m165 0 [(0, .inl (m 86 38)), (1, .inl x2)] [] m (fun r m' => gx_to xs w0 (d + 1) yp_m246 29 [(0, .inr 86), (1, .inl x1), (2, .inl x2), (3, .inl x3)] (gx_rs r ++ []) m' Q))
    (h2 : (x2 = 8) → Q (some (m 114 ((256 * (x1 + 1)) + x3).toNat)) m) : gx_to xs w0 (d + 1) yp_m246 0 [(0, .inr 86), (1, .inl x1), (2, .inl x2), (3, .inl x3)] [] m Q := by
  refine gx_blk (C := True) (npc := 3) (L' := [(0, .inr 86), (1, .inl x1), (2, .inl x2), (3, .inl x3)]) (st' := [.inl 8, .inl x2]) (m' := m) [((0, .iload_n 2, 1, 0, 0, 0, 0), (0, 0, 0)), ((1, .bipush 8, 2, 0, 0, 0, 0), (0, 0, 0))] (by decide +kernel) rfl trivial ?_
  refine gx_cmp .ne 21 (by decide +kernel) (fun c1 => ?_) (fun c1 => ?_)
  · have c1 : x2 ≠ 8 := c1
    refine gx_blk (C := True) (npc := 26) (L' := [(0, .inr 86), (1, .inl x1), (2, .inl x2), (3, .inl x3)]) (st' := [.inl x2, .inl (m 86 38)]) (m' := m) [((21, .aload_n 0, 1, 0, 0, 0, 0), (0, 0, 0)), ((22, .getfield 349, 3, 10, 38, 5151, 0), (0, 86, 0)), ((25, .iload_n 2, 1, 0, 0, 0, 0), (0, 0, 0))] (by decide +kernel) rfl trivial ?_
    exact gx_calls (E := (26, .invokestatic 104, 3, 165, 0, 6035, 0)) (M' := yp_m165) [.inl (m 86 38), .inl x2] [] rfl (by decide +kernel) rfl ⟨rfl, rfl⟩ rfl rfl (Nat.le_of_ble_eq_true rfl) (Nat.le_of_ble_eq_true rfl) rfl (gx_to_mono (h1 c1) (fun r m' h' => gx_to_pick [0, 1, 2, 3] h'))
  · have c1 : x2 = 8 := by have h : ¬ (x2 ≠ 8) := c1; omega
    have e1 : gx_w (x1 + 1) = x1 + 1 := gx_w_id (by omega) (by omega)
    have e2 : gx_w (256 * (x1 + 1)) = 256 * (x1 + 1) := gx_w_id (by omega) (by omega)
    have e3 : gx_w ((256 * (x1 + 1)) + x3) = (256 * (x1 + 1)) + x3 := gx_w_id (by omega) (by omega)
    refine gx_blk (C := (True ∧ (0 ≤ (gx_w ((gx_w (256 * (gx_w (x1 + 1)))) + x3)) ∧ (gx_w ((gx_w (256 * (gx_w (x1 + 1)))) + x3)) < 1792))) (npc := 20) (L' := [(0, .inr 86), (1, .inl x1), (2, .inl x2), (3, .inl x3)]) (st' := [.inl (m 114 (gx_w ((gx_w (256 * (gx_w (x1 + 1)))) + x3)).toNat)]) (m' := m) [((6, .aload_n 0, 1, 0, 0, 0, 0), (0, 0, 0)), ((7, .getfield 92, 3, 10, 41, 5154, 0), (1, 86, 114)), ((10, .sipush 256, 3, 0, 0, 0, 0), (0, 0, 0)), ((13, .iload_n 1, 1, 0, 0, 0, 0), (0, 0, 0)), ((14, .iconst 1, 1, 0, 0, 0, 0), (0, 0, 0)), ((15, .iadd, 1, 0, 0, 0, 0), (0, 0, 0)), ((16, .imul, 1, 0, 0, 0, 0), (0, 0, 0)), ((17, .iload_n 3, 1, 0, 0, 0, 0), (0, 0, 0)), ((18, .iadd, 1, 0, 0, 0, 0), (0, 0, 0)), ((19, .iaload, 1, 0, 0, 0, 0), (0, 114, 1792))] (by decide +kernel) rfl ⟨trivial, (by rw [e1, e2, e3]; omega)⟩ ?_
    rw [e1, e2, e3]
    exact gx_reti (by decide +kernel) (h2 c1)

/-- soldBy from 29 on -/
theorem gt246_29 {xs : List Int32} {w0 : sx_W} {d : Nat} {Q : gx_Q} {m : gx_M} {x1 x2 x3 s0 : Int} (r_x1 : 0 ≤ x1 ∧ x1 ≤ 5) (r_x2 : 0 ≤ x2 ∧ x2 ≤ 7) (r_x3 : 0 ≤ x3 ∧ x3 ≤ 255)
    (h1 : (s0 = 0) → Q (some (-1)) m)
    (h2 : (s0 ≠ 0) → gx_to xs w0 d yp_m165 0 [(0, .inl x3), (1, .inl x2)] [] m (fun r m' => gx_to xs w0 (d + 1) yp_m246 37 [(0, .inr 86), (1, .inl x1), (2, .inl x2), (3, .inl x3)] (gx_rs r ++ []) m' Q)) : gx_to xs w0 (d + 1) yp_m246 29 [(0, .inr 86), (1, .inl x1), (2, .inl x2), (3, .inl x3)] [.inl s0] m Q := by
  refine gx_if .eq 59 (by decide +kernel) (fun c1 => ?_) (fun c1 => ?_)
  · have c1 : s0 = 0 := c1
    refine gx_blk (C := True) (npc := 93) (L' := [(0, .inr 86), (1, .inl x1), (2, .inl x2), (3, .inl x3)]) (st' := [.inl (-1)]) (m' := m) [((59, .iconst (-1), 1, 0, 0, 0, 0), (0, 0, 0)), ((60, .goto 33, 3, 0, 0, 0, 0), (0, 0, 0))] (by decide +kernel) rfl trivial ?_
    exact gx_reti (by decide +kernel) (h1 c1)
  · have c1 : s0 ≠ 0 := c1
    refine gx_blk (C := True) (npc := 34) (L' := [(0, .inr 86), (1, .inl x1), (2, .inl x2), (3, .inl x3)]) (st' := [.inl x2, .inl x3]) (m' := m) [((32, .iload_n 3, 1, 0, 0, 0, 0), (0, 0, 0)), ((33, .iload_n 2, 1, 0, 0, 0, 0), (0, 0, 0))] (by decide +kernel) rfl trivial ?_
    exact gx_calls (E := (34, .invokestatic 104, 3, 165, 0, 6035, 0)) (M' := yp_m165) [.inl x3, .inl x2] [] rfl (by decide +kernel) rfl ⟨rfl, rfl⟩ rfl rfl (Nat.le_of_ble_eq_true rfl) (Nat.le_of_ble_eq_true rfl) rfl (gx_to_mono (h2 c1) (fun r m' h' => gx_to_pick [0, 1, 2, 3] h'))

/-- soldBy from 37 on -/
theorem gt246_37 {xs : List Int32} {w0 : sx_W} {d : Nat} {Q : gx_Q} {m : gx_M} {x1 x2 x3 s0 : Int} (hI : gx_I m) (r_x1 : 0 ≤ x1 ∧ x1 ≤ 5) (r_x2 : 0 ≤ x2 ∧ x2 ≤ 7) (r_x3 : 0 ≤ x3 ∧ x3 ≤ 255)
    (h1 : (s0 ≠ 0) → Q (some (-1)) m)
    (k1 : (s0 = 0) → ((m 87 (240 + (m 112 (x1).toNat)).toNat) ≠ x2) → 0 ≤ (gx_w ((256 * (x1 + 1)) + (gx_or x3 (gx_shl 1 x2)))) ∧ (gx_w ((256 * (x1 + 1)) + (gx_or x3 (gx_shl 1 x2)))) < 1792)
    (h2 : (s0 = 0) → ((m 87 (240 + (m 112 (x1).toNat)).toNat) ≠ x2) → Q (some (gx_w ((m 113 ((8 * x1) + x2).toNat) + (m 114 (gx_w ((256 * (x1 + 1)) + (gx_or x3 (gx_shl 1 x2)))).toNat)))) m)
    (h3 : (s0 = 0) → ((m 87 (240 + (m 112 (x1).toNat)).toNat) = x2) → Q (some (-1)) m) : gx_to xs w0 d yp_m246 37 [(0, .inr 86), (1, .inl x1), (2, .inl x2), (3, .inl x3)] [.inl s0] m Q := by
  refine gx_if .ne 59 (by decide +kernel) (fun c1 => ?_) (fun c1 => ?_)
  · have c1 : s0 ≠ 0 := c1
    refine gx_blk (C := True) (npc := 93) (L' := [(0, .inr 86), (1, .inl x1), (2, .inl x2), (3, .inl x3)]) (st' := [.inl (-1)]) (m' := m) [((59, .iconst (-1), 1, 0, 0, 0, 0), (0, 0, 0)), ((60, .goto 33, 3, 0, 0, 0, 0), (0, 0, 0))] (by decide +kernel) rfl trivial ?_
    exact gx_reti (by decide +kernel) (h1 c1)
  · have c1 : s0 = 0 := by have h : ¬ (s0 ≠ 0) := c1; omega
    have f1 := gx_I_at hI 112 (z := x1) 0 5 0 39 (by decide +kernel) (by omega) (by omega)
    have e2 : gx_w (240 + (m 112 (x1).toNat)) = 240 + (m 112 (x1).toNat) := gx_w_id (by omega) (by omega)
    have f3 := gx_I_at hI 87 (z := 240 + (m 112 (x1).toNat)) 240 279 (-2) 7 (by decide +kernel) (by omega) (by omega)
    refine gx_blk (C := (((True ∧ (0 ≤ x1 ∧ x1 < 8))) ∧ (0 ≤ (gx_w (240 + (m 112 (x1).toNat))) ∧ (gx_w (240 + (m 112 (x1).toNat))) < 1131))) (npc := 56) (L' := [(0, .inr 86), (1, .inl x1), (2, .inl x2), (3, .inl x3)]) (st' := [.inl x2, .inl (m 87 (gx_w (240 + (m 112 (x1).toNat))).toNat)]) (m' := m) [((40, .aload_n 0, 1, 0, 0, 0, 0), (0, 0, 0)), ((41, .getfield 7, 3, 10, 0, 5113, 0), (1, 86, 87)), ((44, .sipush 240, 3, 0, 0, 0, 0), (0, 0, 0)), ((47, .aload_n 0, 1, 0, 0, 0, 0), (0, 0, 0)), ((48, .getfield 86, 3, 10, 39, 5152, 0), (1, 86, 112)), ((51, .iload_n 1, 1, 0, 0, 0, 0), (0, 0, 0)), ((52, .iaload, 1, 0, 0, 0, 0), (0, 112, 8)), ((53, .iadd, 1, 0, 0, 0, 0), (0, 0, 0)), ((54, .iaload, 1, 0, 0, 0, 0), (0, 87, 1131)), ((55, .iload_n 2, 1, 0, 0, 0, 0), (0, 0, 0))] (by decide +kernel) rfl ⟨⟨trivial, (by omega)⟩, (by rw [e2]; omega)⟩ ?_
    rw [e2]
    refine gx_cmp .ne 63 (by decide +kernel) (fun c2 => ?_) (fun c2 => ?_)
    · have c2 : (m 87 (240 + (m 112 (x1).toNat)).toNat) ≠ x2 := c2
      have e4 : gx_w (8 * x1) = 8 * x1 := gx_w_id (by omega) (by omega)
      have e5 : gx_w ((8 * x1) + x2) = (8 * x1) + x2 := gx_w_id (by omega) (by omega)
      have f6 := gx_I_at hI 113 (z := (8 * x1) + x2) 0 47 0 999 (by decide +kernel) (by omega) (by omega)
      have e7 : gx_w (x1 + 1) = x1 + 1 := gx_w_id (by omega) (by omega)
      have e8 : gx_w (256 * (x1 + 1)) = 256 * (x1 + 1) := gx_w_id (by omega) (by omega)
      refine gx_blk (C := (((True ∧ (0 ≤ (gx_w ((gx_w (8 * x1)) + x2)) ∧ (gx_w ((gx_w (8 * x1)) + x2)) < 64))) ∧ (0 ≤ (gx_w ((gx_w (256 * (gx_w (x1 + 1)))) + (gx_or x3 (gx_shl 1 x2)))) ∧ (gx_w ((gx_w (256 * (gx_w (x1 + 1)))) + (gx_or x3 (gx_shl 1 x2)))) < 1792))) (npc := 93) (L' := [(0, .inr 86), (1, .inl x1), (2, .inl x2), (3, .inl x3)]) (st' := [.inl (gx_w ((m 113 (gx_w ((gx_w (8 * x1)) + x2)).toNat) + (m 114 (gx_w ((gx_w (256 * (gx_w (x1 + 1)))) + (gx_or x3 (gx_shl 1 x2)))).toNat)))]) (m' := m) [((63, .aload_n 0, 1, 0, 0, 0, 0), (0, 0, 0)), ((64, .getfield 89, 3, 10, 40, 5153, 0), (1, 86, 113)), ((67, .bipush 8, 2, 0, 0, 0, 0), (0, 0, 0)), ((69, .iload_n 1, 1, 0, 0, 0, 0), (0, 0, 0)), ((70, .imul, 1, 0, 0, 0, 0), (0, 0, 0)), ((71, .iload_n 2, 1, 0, 0, 0, 0), (0, 0, 0)), ((72, .iadd, 1, 0, 0, 0, 0), (0, 0, 0)), ((73, .iaload, 1, 0, 0, 0, 0), (0, 113, 64)), ((74, .aload_n 0, 1, 0, 0, 0, 0), (0, 0, 0)), ((75, .getfield 92, 3, 10, 41, 5154, 0), (1, 86, 114)), ((78, .sipush 256, 3, 0, 0, 0, 0), (0, 0, 0)), ((81, .iload_n 1, 1, 0, 0, 0, 0), (0, 0, 0)), ((82, .iconst 1, 1, 0, 0, 0, 0), (0, 0, 0)), ((83, .iadd, 1, 0, 0, 0, 0), (0, 0, 0)), ((84, .imul, 1, 0, 0, 0, 0), (0, 0, 0)), ((85, .iload_n 3, 1, 0, 0, 0, 0), (0, 0, 0)), ((86, .iconst 1, 1, 0, 0, 0, 0), (0, 0, 0)), ((87, .iload_n 2, 1, 0, 0, 0, 0), (0, 0, 0)), ((88, .ishl, 1, 0, 0, 0, 0), (0, 0, 0)), ((89, .ior, 1, 0, 0, 0, 0), (0, 0, 0)), ((90, .iadd, 1, 0, 0, 0, 0), (0, 0, 0)), ((91, .iaload, 1, 0, 0, 0, 0), (0, 114, 1792)), ((92, .iadd, 1, 0, 0, 0, 0), (0, 0, 0))] (by decide +kernel) rfl ⟨⟨trivial, (by rw [e4, e5]; omega)⟩, (by rw [e7, e8]; exact (k1 c1 c2))⟩ ?_
      rw [e4, e5, e7, e8]
      exact gx_reti (by decide +kernel) (h2 c1 c2)
    · have c2 : (m 87 (240 + (m 112 (x1).toNat)).toNat) = x2 := by have h : ¬ ((m 87 (240 + (m 112 (x1).toNat)).toNat) ≠ x2) := c2; omega
      refine gx_blk (C := True) (npc := 93) (L' := [(0, .inr 86), (1, .inl x1), (2, .inl x2), (3, .inl x3)]) (st' := [.inl (-1)]) (m' := m) [((59, .iconst (-1), 1, 0, 0, 0, 0), (0, 0, 0)), ((60, .goto 33, 3, 0, 0, 0, 0), (0, 0, 0))] (by decide +kernel) rfl trivial ?_
      exact gx_reti (by decide +kernel) (h3 c1 c2)

/-- laysSold from 0 on -/
theorem gt245_0 {xs : List Int32} {w0 : sx_W} {d : Nat} {Q : gx_Q} {m : gx_M} {x1 : Int} (g0 : 1 ≤ (m 86 37) ∧ (m 86 37) ≤ 6)
    (h1 : gx_to xs w0 d yp_m245 7 [(0, .inr 86), (2, .inl 0)] [] (gx_u m 86 38 x1) Q) : gx_to xs w0 d yp_m245 0 [(0, .inr 86), (1, .inl x1)] [] m Q := by
  refine gx_blk (C := True) (npc := 7) (L' := [(0, .inr 86), (1, .inl x1), (2, .inl 0)]) (st' := []) (m' := (gx_u m 86 38 x1)) [((0, .aload_n 0, 1, 0, 0, 0, 0), (0, 0, 0)), ((1, .iload_n 1, 1, 0, 0, 0, 0), (0, 0, 0)), ((2, .putfield 349, 3, 10, 38, 5151, 0), (0, 86, 0)), ((5, .iconst 0, 1, 0, 0, 0, 0), (0, 0, 0)), ((6, .istore_n 2, 1, 0, 0, 0, 0), (0, 0, 0))] (by decide +kernel) rfl trivial ?_
  exact gx_to_pick [0, 2] h1

/-- laysSold from 7 on -/
theorem gt245_7 {xs : List Int32} {w0 : sx_W} {d : Nat} {Q : gx_Q} {m : gx_M} {x2 : Int} (hI : gx_I m) (r_x2 : 0 ≤ x2 ∧ x2 ≤ 256) (g1 : 1 ≤ (m 86 37) ∧ (m 86 37) ≤ 6)
    (h1 : (256 ≤ x2) → gx_to xs w0 d yp_m245 43 [(0, .inr 86), (2, .inl ((m 86 37) - 1))] [] m Q)
    (h2 : (x2 < 256) → gx_to xs w0 d yp_m245 7 [(0, .inr 86), (2, .inl (x2 + 1))] [] (gx_u m 114 ((256 * (m 86 37)) + x2).toNat 0) Q) : gx_to xs w0 d yp_m245 7 [(0, .inr 86), (2, .inl x2)] [] m Q := by
  refine gx_blk (C := True) (npc := 11) (L' := [(0, .inr 86), (2, .inl x2)]) (st' := [.inl 256, .inl x2]) (m' := m) [((7, .iload_n 2, 1, 0, 0, 0, 0), (0, 0, 0)), ((8, .sipush 256, 3, 0, 0, 0, 0), (0, 0, 0))] (by decide +kernel) rfl trivial ?_
  refine gx_cmp .ge 36 (by decide +kernel) (fun c1 => ?_) (fun c1 => ?_)
  · have c1 : 256 ≤ x2 := c1
    have f1 := gx_I_n hI 86 37 0 8 (by decide +kernel)
    have e2 : gx_w ((m 86 37) - 1) = (m 86 37) - 1 := gx_w_id (by omega) (by omega)
    refine gx_blk (C := True) (npc := 43) (L' := [(0, .inr 86), (2, .inl (gx_w ((m 86 37) - 1)))]) (st' := []) (m' := m) [((36, .aload_n 0, 1, 0, 0, 0, 0), (0, 0, 0)), ((37, .getfield 346, 3, 10, 37, 5150, 0), (0, 86, 0)), ((40, .iconst 1, 1, 0, 0, 0, 0), (0, 0, 0)), ((41, .isub, 1, 0, 0, 0, 0), (0, 0, 0)), ((42, .istore_n 2, 1, 0, 0, 0, 0), (0, 0, 0))] (by decide +kernel) rfl trivial ?_
    rw [e2]
    exact gx_to_pick [0, 2] (h1 c1)
  · have c1 : x2 < 256 := by have h : ¬ (256 ≤ x2) := c1; omega
    have f3 := gx_I_n hI 86 37 0 8 (by decide +kernel)
    have e4 : gx_w (256 * (m 86 37)) = 256 * (m 86 37) := gx_w_id (by omega) (by omega)
    have e5 : gx_w ((256 * (m 86 37)) + x2) = (256 * (m 86 37)) + x2 := gx_w_id (by omega) (by omega)
    have e6 : gx_w (x2 + 1) = x2 + 1 := gx_w_id (by omega) (by omega)
    refine gx_blk (C := (True ∧ (0 ≤ (gx_w ((gx_w (256 * (m 86 37))) + x2)) ∧ (gx_w ((gx_w (256 * (m 86 37))) + x2)) < 1792))) (npc := 7) (L' := [(0, .inr 86), (2, .inl (gx_w (x2 + 1)))]) (st' := []) (m' := (gx_u m 114 (gx_w ((gx_w (256 * (m 86 37))) + x2)).toNat 0)) [((14, .aload_n 0, 1, 0, 0, 0, 0), (0, 0, 0)), ((15, .getfield 92, 3, 10, 41, 5154, 0), (1, 86, 114)), ((18, .sipush 256, 3, 0, 0, 0, 0), (0, 0, 0)), ((21, .aload_n 0, 1, 0, 0, 0, 0), (0, 0, 0)), ((22, .getfield 346, 3, 10, 37, 5150, 0), (0, 86, 0)), ((25, .imul, 1, 0, 0, 0, 0), (0, 0, 0)), ((26, .iload_n 2, 1, 0, 0, 0, 0), (0, 0, 0)), ((27, .iadd, 1, 0, 0, 0, 0), (0, 0, 0)), ((28, .iconst 0, 1, 0, 0, 0, 0), (0, 0, 0)), ((29, .iastore, 1, 0, 0, 0, 0), (0, 114, 1792)), ((30, .iinc 2 1, 3, 0, 0, 0, 0), (0, 0, 0)), ((33, .goto (-26), 3, 0, 0, 0, 0), (0, 0, 0))] (by decide +kernel) rfl ⟨trivial, (by rw [e4, e5]; omega)⟩ ?_
    rw [e4, e5, e6]
    exact gx_to_pick [0, 2] (h2 c1)

/-- laysSold from 43 on -/
theorem gt245_43 {xs : List Int32} {w0 : sx_W} {d : Nat} {Q : gx_Q} {m : gx_M} {x2 : Int} (r_x2 : (-1) ≤ x2 ∧ x2 ≤ 5) (g1 : 1 ≤ (m 86 37) ∧ (m 86 37) ≤ 6)
    (h1 : (x2 < 0) → Q (some (m 114 0)) m)
    (h2 : (0 ≤ x2) → gx_to xs w0 d yp_m245 49 [(0, .inr 86), (2, .inl x2), (3, .inl 0)] [] m Q) : gx_to xs w0 d yp_m245 43 [(0, .inr 86), (2, .inl x2)] [] m Q := by
  refine gx_blk (C := True) (npc := 44) (L' := [(0, .inr 86), (2, .inl x2)]) (st' := [.inl x2]) (m' := m) [((43, .iload_n 2, 1, 0, 0, 0, 0), (0, 0, 0))] (by decide +kernel) rfl trivial ?_
  refine gx_if .lt 129 (by decide +kernel) (fun c1 => ?_) (fun c1 => ?_)
  · have c1 : x2 < 0 := c1
    refine gx_blk (C := (True ∧ (0 ≤ 0 ∧ 0 < 1792))) (npc := 135) (L' := [(0, .inr 86), (2, .inl x2)]) (st' := [.inl (m 114 0)]) (m' := m) [((129, .aload_n 0, 1, 0, 0, 0, 0), (0, 0, 0)), ((130, .getfield 92, 3, 10, 41, 5154, 0), (1, 86, 114)), ((133, .iconst 0, 1, 0, 0, 0, 0), (0, 0, 0)), ((134, .iaload, 1, 0, 0, 0, 0), (0, 114, 1792))] (by decide +kernel) rfl ⟨trivial, (by omega)⟩ ?_
    exact gx_reti (by decide +kernel) (h1 c1)
  · have c1 : 0 ≤ x2 := by have h : ¬ (x2 < 0) := c1; omega
    refine gx_blk (C := True) (npc := 49) (L' := [(0, .inr 86), (2, .inl x2), (3, .inl 0)]) (st' := []) (m' := m) [((47, .iconst 0, 1, 0, 0, 0, 0), (0, 0, 0)), ((48, .istore_n 3, 1, 0, 0, 0, 0), (0, 0, 0))] (by decide +kernel) rfl trivial ?_
    exact gx_to_pick [0, 2, 3] (h2 c1)

/-- laysSold from 49 on -/
theorem gt245_49 {xs : List Int32} {w0 : sx_W} {d : Nat} {Q : gx_Q} {m : gx_M} {x2 x3 : Int} (r_x2 : 0 ≤ x2 ∧ x2 ≤ 5) (r_x3 : 0 ≤ x3 ∧ x3 ≤ 256) (g2 : 1 ≤ (m 86 37) ∧ (m 86 37) ≤ 6)
    (h1 : (256 ≤ x3) → gx_to xs w0 d yp_m245 43 [(0, .inr 86), (2, .inl (x2 + (-1)))] [] m Q)
    (h2 : (x3 < 256) → gx_to xs w0 d yp_m245 62 [(0, .inr 86), (2, .inl x2), (3, .inl x3), (4, .inl 0), (5, .inl 0)] [] m Q) : gx_to xs w0 d yp_m245 49 [(0, .inr 86), (2, .inl x2), (3, .inl x3)] [] m Q := by
  refine gx_blk (C := True) (npc := 53) (L' := [(0, .inr 86), (2, .inl x2), (3, .inl x3)]) (st' := [.inl 256, .inl x3]) (m' := m) [((49, .iload_n 3, 1, 0, 0, 0, 0), (0, 0, 0)), ((50, .sipush 256, 3, 0, 0, 0, 0), (0, 0, 0))] (by decide +kernel) rfl trivial ?_
  refine gx_cmp .ge 123 (by decide +kernel) (fun c1 => ?_) (fun c1 => ?_)
  · have c1 : 256 ≤ x3 := c1
    have e1 : gx_w (x2 + (-1)) = x2 + (-1) := gx_w_id (by omega) (by omega)
    refine gx_blk (C := True) (npc := 43) (L' := [(0, .inr 86), (2, .inl (gx_w (x2 + (-1)))), (3, .inl x3)]) (st' := []) (m' := m) [((123, .iinc 2 (-1), 3, 0, 0, 0, 0), (0, 0, 0)), ((126, .goto (-83), 3, 0, 0, 0, 0), (0, 0, 0))] (by decide +kernel) rfl trivial ?_
    rw [e1]
    exact gx_to_pick [0, 2] (h1 c1)
  · have c1 : x3 < 256 := by have h : ¬ (256 ≤ x3) := c1; omega
    refine gx_blk (C := True) (npc := 62) (L' := [(0, .inr 86), (2, .inl x2), (3, .inl x3), (4, .inl 0), (5, .inl 0)]) (st' := []) (m' := m) [((56, .iconst 0, 1, 0, 0, 0, 0), (0, 0, 0)), ((57, .istore 4, 2, 0, 0, 0, 0), (0, 0, 0)), ((59, .iconst 0, 1, 0, 0, 0, 0), (0, 0, 0)), ((60, .istore 5, 2, 0, 0, 0, 0), (0, 0, 0))] (by decide +kernel) rfl trivial ?_
    exact gx_to_pick [0, 2, 3, 4, 5] (h2 c1)

/-- laysSold from 62 on -/
theorem gt245_62 {xs : List Int32} {w0 : sx_W} {d : Nat} {Q : gx_Q} {m : gx_M} {x2 x3 x4 x5 : Int} (r_x2 : 0 ≤ x2 ∧ x2 ≤ 5) (r_x3 : 0 ≤ x3 ∧ x3 ≤ 255) (r_x5 : 0 ≤ x5 ∧ x5 ≤ 9) (g3 : 1 ≤ (m 86 37) ∧ (m 86 37) ≤ 6)
    (h1 : (8 < x5) → gx_to xs w0 (d + 1) yp_m245 49 [(0, .inr 86), (2, .inl x2), (3, .inl (x3 + 1))] [] (gx_u m 114 ((256 * x2) + x3).toNat x4) Q)
    (h2 : (x5 ≤ 8) → gx_to xs w0 d yp_m246 0 [(0, .inr 86), (1, .inl x2), (2, .inl x5), (3, .inl x3)] [] m (fun r m' => gx_to xs w0 (d + 1) yp_m245 77 [(0, .inr 86), (2, .inl x2), (3, .inl x3), (4, .inl x4), (5, .inl x5)] (gx_rs r ++ []) m' Q)) : gx_to xs w0 (d + 1) yp_m245 62 [(0, .inr 86), (2, .inl x2), (3, .inl x3), (4, .inl x4), (5, .inl x5)] [] m Q := by
  refine gx_blk (C := True) (npc := 66) (L' := [(0, .inr 86), (2, .inl x2), (3, .inl x3), (4, .inl x4), (5, .inl x5)]) (st' := [.inl 8, .inl x5]) (m' := m) [((62, .iload 5, 2, 0, 0, 0, 0), (0, 0, 0)), ((64, .bipush 8, 2, 0, 0, 0, 0), (0, 0, 0))] (by decide +kernel) rfl trivial ?_
  refine gx_cmp .gt 103 (by decide +kernel) (fun c1 => ?_) (fun c1 => ?_)
  · have c1 : 8 < x5 := c1
    have e1 : gx_w (256 * x2) = 256 * x2 := gx_w_id (by omega) (by omega)
    have e2 : gx_w ((256 * x2) + x3) = (256 * x2) + x3 := gx_w_id (by omega) (by omega)
    have e3 : gx_w (x3 + 1) = x3 + 1 := gx_w_id (by omega) (by omega)
    refine gx_blk (C := (True ∧ (0 ≤ (gx_w ((gx_w (256 * x2)) + x3)) ∧ (gx_w ((gx_w (256 * x2)) + x3)) < 1792))) (npc := 49) (L' := [(0, .inr 86), (2, .inl x2), (3, .inl (gx_w (x3 + 1))), (4, .inl x4), (5, .inl x5)]) (st' := []) (m' := (gx_u m 114 (gx_w ((gx_w (256 * x2)) + x3)).toNat x4)) [((103, .aload_n 0, 1, 0, 0, 0, 0), (0, 0, 0)), ((104, .getfield 92, 3, 10, 41, 5154, 0), (1, 86, 114)), ((107, .sipush 256, 3, 0, 0, 0, 0), (0, 0, 0)), ((110, .iload_n 2, 1, 0, 0, 0, 0), (0, 0, 0)), ((111, .imul, 1, 0, 0, 0, 0), (0, 0, 0)), ((112, .iload_n 3, 1, 0, 0, 0, 0), (0, 0, 0)), ((113, .iadd, 1, 0, 0, 0, 0), (0, 0, 0)), ((114, .iload 4, 2, 0, 0, 0, 0), (0, 0, 0)), ((116, .iastore, 1, 0, 0, 0, 0), (0, 114, 1792)), ((117, .iinc 3 1, 3, 0, 0, 0, 0), (0, 0, 0)), ((120, .goto (-71), 3, 0, 0, 0, 0), (0, 0, 0))] (by decide +kernel) rfl ⟨trivial, (by rw [e1, e2]; omega)⟩ ?_
    rw [e1, e2, e3]
    exact gx_to_pick [0, 2, 3] (h1 c1)
  · have c1 : x5 ≤ 8 := by have h : ¬ (8 < x5) := c1; omega
    refine gx_blk (C := True) (npc := 74) (L' := [(0, .inr 86), (2, .inl x2), (3, .inl x3), (4, .inl x4), (5, .inl x5)]) (st' := [.inl x3, .inl x5, .inl x2, .inr 86]) (m' := m) [((69, .aload_n 0, 1, 0, 0, 0, 0), (0, 0, 0)), ((70, .iload_n 2, 1, 0, 0, 0, 0), (0, 0, 0)), ((71, .iload 5, 2, 0, 0, 0, 0), (0, 0, 0)), ((73, .iload_n 3, 1, 0, 0, 0, 0), (0, 0, 0))] (by decide +kernel) rfl trivial ?_
    exact gx_callv (E := (74, .invokevirtual 352, 3, 246, 0, 7111, 0)) (M' := yp_m246) (c := 86) [.inl x2, .inl x5, .inl x3] [] rfl (by decide +kernel) rfl ⟨rfl, rfl⟩ rfl rfl (Nat.le_of_ble_eq_true rfl) (Nat.le_of_ble_eq_true rfl) (by decide +kernel) (gx_to_mono (h2 c1) (fun r m' h' => gx_to_pick [0, 2, 3, 4, 5] h'))

/-- laysSold from 77 on -/
theorem gt245_77 {xs : List Int32} {w0 : sx_W} {d : Nat} {Q : gx_Q} {m : gx_M} {x2 x3 x4 x5 s0 : Int} (r_x2 : 0 ≤ x2 ∧ x2 ≤ 5) (r_x3 : 0 ≤ x3 ∧ x3 ≤ 255) (r_x5 : 0 ≤ x5 ∧ x5 ≤ 8) (g3 : 1 ≤ (m 86 37) ∧ (m 86 37) ≤ 6)
    (h1 : (s0 ≤ x4) → gx_to xs w0 (d + 1) yp_m245 62 [(0, .inr 86), (2, .inl x2), (3, .inl x3), (4, .inl x4), (5, .inl (x5 + 1))] [] m Q)
    (h2 : (x4 < s0) → gx_to xs w0 d yp_m246 0 [(0, .inr 86), (1, .inl x2), (2, .inl x5), (3, .inl x3)] [] m (fun r m' => gx_to xs w0 (d + 1) yp_m245 90 [(0, .inr 86), (2, .inl x2), (3, .inl x3), (5, .inl x5)] (gx_rs r ++ []) m' Q)) : gx_to xs w0 (d + 1) yp_m245 77 [(0, .inr 86), (2, .inl x2), (3, .inl x3), (4, .inl x4), (5, .inl x5)] [.inl s0] m Q := by
  refine gx_blk (C := True) (npc := 79) (L' := [(0, .inr 86), (2, .inl x2), (3, .inl x3), (4, .inl x4), (5, .inl x5)]) (st' := [.inl x4, .inl s0]) (m' := m) [((77, .iload 4, 2, 0, 0, 0, 0), (0, 0, 0))] (by decide +kernel) rfl trivial ?_
  refine gx_cmp .le 93 (by decide +kernel) (fun c1 => ?_) (fun c1 => ?_)
  · have c1 : s0 ≤ x4 := c1
    have e1 : gx_w (x5 + 1) = x5 + 1 := gx_w_id (by omega) (by omega)
    refine gx_blk (C := True) (npc := 62) (L' := [(0, .inr 86), (2, .inl x2), (3, .inl x3), (4, .inl x4), (5, .inl (gx_w (x5 + 1)))]) (st' := []) (m' := m) [((93, .iload 4, 2, 0, 0, 0, 0), (0, 0, 0)), ((95, .istore 4, 2, 0, 0, 0, 0), (0, 0, 0)), ((97, .iinc 5 1, 3, 0, 0, 0, 0), (0, 0, 0)), ((100, .goto (-38), 3, 0, 0, 0, 0), (0, 0, 0))] (by decide +kernel) rfl trivial ?_
    rw [e1]
    exact gx_to_pick [0, 2, 3, 4, 5] (h1 c1)
  · have c1 : x4 < s0 := by have h : ¬ (s0 ≤ x4) := c1; omega
    refine gx_blk (C := True) (npc := 87) (L' := [(0, .inr 86), (2, .inl x2), (3, .inl x3), (4, .inl x4), (5, .inl x5)]) (st' := [.inl x3, .inl x5, .inl x2, .inr 86]) (m' := m) [((82, .aload_n 0, 1, 0, 0, 0, 0), (0, 0, 0)), ((83, .iload_n 2, 1, 0, 0, 0, 0), (0, 0, 0)), ((84, .iload 5, 2, 0, 0, 0, 0), (0, 0, 0)), ((86, .iload_n 3, 1, 0, 0, 0, 0), (0, 0, 0))] (by decide +kernel) rfl trivial ?_
    exact gx_callv (E := (87, .invokevirtual 352, 3, 246, 0, 7111, 0)) (M' := yp_m246) (c := 86) [.inl x2, .inl x5, .inl x3] [] rfl (by decide +kernel) rfl ⟨rfl, rfl⟩ rfl rfl (Nat.le_of_ble_eq_true rfl) (Nat.le_of_ble_eq_true rfl) (by decide +kernel) (gx_to_mono (h2 c1) (fun r m' h' => gx_to_pick [0, 2, 3, 5] h'))

/-- laysSold from 90 on -/
theorem gt245_90 {xs : List Int32} {w0 : sx_W} {d : Nat} {Q : gx_Q} {m : gx_M} {x2 x3 x5 s0 : Int} (r_x2 : 0 ≤ x2 ∧ x2 ≤ 5) (r_x3 : 0 ≤ x3 ∧ x3 ≤ 255) (r_x5 : 0 ≤ x5 ∧ x5 ≤ 8) (g3 : 1 ≤ (m 86 37) ∧ (m 86 37) ≤ 6)
    (h1 : gx_to xs w0 d yp_m245 62 [(0, .inr 86), (2, .inl x2), (3, .inl x3), (4, .inl s0), (5, .inl (x5 + 1))] [] m Q) : gx_to xs w0 d yp_m245 90 [(0, .inr 86), (2, .inl x2), (3, .inl x3), (5, .inl x5)] [.inl s0] m Q := by
  have e1 : gx_w (x5 + 1) = x5 + 1 := gx_w_id (by omega) (by omega)
  refine gx_blk (C := True) (npc := 62) (L' := [(0, .inr 86), (2, .inl x2), (3, .inl x3), (5, .inl (gx_w (x5 + 1))), (4, .inl s0)]) (st' := []) (m' := m) [((90, .goto 5, 3, 0, 0, 0, 0), (0, 0, 0)), ((95, .istore 4, 2, 0, 0, 0, 0), (0, 0, 0)), ((97, .iinc 5 1, 3, 0, 0, 0, 0), (0, 0, 0)), ((100, .goto (-38), 3, 0, 0, 0, 0), (0, 0, 0))] (by decide +kernel) rfl trivial ?_
  rw [e1]
  exact gx_to_pick [0, 2, 3, 4, 5] h1

/-- getsYear from 0 on -/
theorem gt247_0 {xs : List Int32} {w0 : sx_W} {d : Nat} {Q : gx_Q} {m : gx_M} {x1 : Int}
    (h1 : gx_to xs w0 d yp_m247 8 [(0, .inr 86), (1, .inl x1), (2, .inl 0), (3, .inl 8), (4, .inl 0)] [] m Q) : gx_to xs w0 d yp_m247 0 [(0, .inr 86), (1, .inl x1)] [] m Q := by
  refine gx_blk (C := True) (npc := 8) (L' := [(0, .inr 86), (1, .inl x1), (2, .inl 0), (3, .inl 8), (4, .inl 0)]) (st' := []) (m' := m) [((0, .iconst 0, 1, 0, 0, 0, 0), (0, 0, 0)), ((1, .istore_n 2, 1, 0, 0, 0, 0), (0, 0, 0)), ((2, .bipush 8, 2, 0, 0, 0, 0), (0, 0, 0)), ((4, .istore_n 3, 1, 0, 0, 0, 0), (0, 0, 0)), ((5, .iconst 0, 1, 0, 0, 0, 0), (0, 0, 0)), ((6, .istore 4, 2, 0, 0, 0, 0), (0, 0, 0))] (by decide +kernel) rfl trivial ?_
  exact gx_to_pick [0, 1, 2, 3, 4] h1

/-- getsYear from 8 on -/
theorem gt247_8 {xs : List Int32} {w0 : sx_W} {d : Nat} {Q : gx_Q} {m : gx_M} {x1 x2 x3 x4 : Int} (r_x1 : 0 ≤ x1 ∧ x1 ≤ 5) (r_x2 : 0 ≤ x2 ∧ x2 ≤ 255) (r_x4 : 0 ≤ x4 ∧ x4 ≤ 6)
    (h1 : (x1 < x4) → Q (some x3) m)
    (h2 : (x4 ≤ x1) → gx_to xs w0 d yp_m247 16 [(0, .inr 86), (1, .inl x1), (2, .inl x2), (3, .inl 0), (4, .inl x4)] [] m Q) : gx_to xs w0 d yp_m247 8 [(0, .inr 86), (1, .inl x1), (2, .inl x2), (3, .inl x3), (4, .inl x4)] [] m Q := by
  refine gx_blk (C := True) (npc := 11) (L' := [(0, .inr 86), (1, .inl x1), (2, .inl x2), (3, .inl x3), (4, .inl x4)]) (st' := [.inl x1, .inl x4]) (m' := m) [((8, .iload 4, 2, 0, 0, 0, 0), (0, 0, 0)), ((10, .iload_n 1, 1, 0, 0, 0, 0), (0, 0, 0))] (by decide +kernel) rfl trivial ?_
  refine gx_cmp .gt 69 (by decide +kernel) (fun c1 => ?_) (fun c1 => ?_)
  · have c1 : x1 < x4 := c1
    refine gx_blk (C := True) (npc := 70) (L' := [(0, .inr 86), (1, .inl x1), (2, .inl x2), (3, .inl x3), (4, .inl x4)]) (st' := [.inl x3]) (m' := m) [((69, .iload_n 3, 1, 0, 0, 0, 0), (0, 0, 0))] (by decide +kernel) rfl trivial ?_
    exact gx_reti (by decide +kernel) (h1 c1)
  · have c1 : x4 ≤ x1 := by have h : ¬ (x1 < x4) := c1; omega
    refine gx_blk (C := True) (npc := 16) (L' := [(0, .inr 86), (1, .inl x1), (2, .inl x2), (3, .inl 0), (4, .inl x4)]) (st' := []) (m' := m) [((14, .iconst 0, 1, 0, 0, 0, 0), (0, 0, 0)), ((15, .istore_n 3, 1, 0, 0, 0, 0), (0, 0, 0))] (by decide +kernel) rfl trivial ?_
    exact gx_to_pick [0, 1, 2, 3, 4] (h2 c1)

/-- getsYear from 16 on -/
theorem gt247_16 {xs : List Int32} {w0 : sx_W} {d : Nat} {Q : gx_Q} {m : gx_M} {x1 x2 x3 x4 : Int} (r_x1 : 0 ≤ x1 ∧ x1 ≤ 5) (r_x2 : 0 ≤ x2 ∧ x2 ≤ 255) (r_x3 : 0 ≤ x3 ∧ x3 ≤ 8) (r_x4 : 0 ≤ x4 ∧ x4 ≤ 5)
    (h1 : gx_to xs w0 d yp_m246 0 [(0, .inr 86), (1, .inl x4), (2, .inl x3), (3, .inl x2)] [] m (fun r m' => gx_to xs w0 (d + 1) yp_m247 24 [(0, .inr 86), (1, .inl x1), (2, .inl x2), (3, .inl x3), (4, .inl x4)] (gx_rs r ++ []) m' Q)) : gx_to xs w0 (d + 1) yp_m247 16 [(0, .inr 86), (1, .inl x1), (2, .inl x2), (3, .inl x3), (4, .inl x4)] [] m Q := by
  refine gx_blk (C := True) (npc := 21) (L' := [(0, .inr 86), (1, .inl x1), (2, .inl x2), (3, .inl x3), (4, .inl x4)]) (st' := [.inl x2, .inl x3, .inl x4, .inr 86]) (m' := m) [((16, .aload_n 0, 1, 0, 0, 0, 0), (0, 0, 0)), ((17, .iload 4, 2, 0, 0, 0, 0), (0, 0, 0)), ((19, .iload_n 3, 1, 0, 0, 0, 0), (0, 0, 0)), ((20, .iload_n 2, 1, 0, 0, 0, 0), (0, 0, 0))] (by decide +kernel) rfl trivial ?_
  exact gx_callv (E := (21, .invokevirtual 352, 3, 246, 0, 7111, 0)) (M' := yp_m246) (c := 86) [.inl x4, .inl x3, .inl x2] [] rfl (by decide +kernel) rfl ⟨rfl, rfl⟩ rfl rfl (Nat.le_of_ble_eq_true rfl) (Nat.le_of_ble_eq_true rfl) (by decide +kernel) (gx_to_mono h1 (fun r m' h' => gx_to_pick [0, 1, 2, 3, 4] h'))

/-- getsYear from 24 on -/
theorem gt247_24 {xs : List Int32} {w0 : sx_W} {d : Nat} {Q : gx_Q} {m : gx_M} {x1 x2 x3 x4 s0 : Int} (r_x1 : 0 ≤ x1 ∧ x1 ≤ 5) (r_x2 : 0 ≤ x2 ∧ x2 ≤ 255) (r_x3 : 0 ≤ x3 ∧ x3 ≤ 8) (r_x4 : 0 ≤ x4 ∧ x4 ≤ 5)
    (h1 : (s0 = (m 114 ((256 * x4) + x2).toNat)) → (x3 ≠ 8) → gx_to xs w0 d yp_m247 8 [(0, .inr 86), (1, .inl x1), (2, .inl (gx_or x2 (gx_shl 1 x3))), (3, .inl x3), (4, .inl (x4 + 1))] [] m Q)
    (h2 : (s0 = (m 114 ((256 * x4) + x2).toNat)) → (x3 = 8) → gx_to xs w0 d yp_m247 8 [(0, .inr 86), (1, .inl x1), (2, .inl x2), (3, .inl x3), (4, .inl (x4 + 1))] [] m Q)
    (h3 : (s0 ≠ (m 114 ((256 * x4) + x2).toNat)) → gx_to xs w0 d yp_m247 16 [(0, .inr 86), (1, .inl x1), (2, .inl x2), (3, .inl (x3 + 1)), (4, .inl x4)] [] m Q) : gx_to xs w0 d yp_m247 24 [(0, .inr 86), (1, .inl x1), (2, .inl x2), (3, .inl x3), (4, .inl x4)] [.inl s0] m Q := by
  have e1 : gx_w (256 * x4) = 256 * x4 := gx_w_id (by omega) (by omega)
  have e2 : gx_w ((256 * x4) + x2) = (256 * x4) + x2 := gx_w_id (by omega) (by omega)
  refine gx_blk (C := (True ∧ (0 ≤ (gx_w ((gx_w (256 * x4)) + x2)) ∧ (gx_w ((gx_w (256 * x4)) + x2)) < 1792))) (npc := 37) (L' := [(0, .inr 86), (1, .inl x1), (2, .inl x2), (3, .inl x3), (4, .inl x4)]) (st' := [.inl (m 114 (gx_w ((gx_w (256 * x4)) + x2)).toNat), .inl s0]) (m' := m) [((24, .aload_n 0, 1, 0, 0, 0, 0), (0, 0, 0)), ((25, .getfield 92, 3, 10, 41, 5154, 0), (1, 86, 114)), ((28, .sipush 256, 3, 0, 0, 0, 0), (0, 0, 0)), ((31, .iload 4, 2, 0, 0, 0, 0), (0, 0, 0)), ((33, .imul, 1, 0, 0, 0, 0), (0, 0, 0)), ((34, .iload_n 2, 1, 0, 0, 0, 0), (0, 0, 0)), ((35, .iadd, 1, 0, 0, 0, 0), (0, 0, 0)), ((36, .iaload, 1, 0, 0, 0, 0), (0, 114, 1792))] (by decide +kernel) rfl ⟨trivial, (by rw [e1, e2]; omega)⟩ ?_
  rw [e1, e2]
  refine gx_cmp .eq 47 (by decide +kernel) (fun c1 => ?_) (fun c1 => ?_)
  · have c1 : s0 = (m 114 ((256 * x4) + x2).toNat) := c1
    refine gx_blk (C := True) (npc := 50) (L' := [(0, .inr 86), (1, .inl x1), (2, .inl x2), (3, .inl x3), (4, .inl x4)]) (st' := [.inl 8, .inl x3]) (m' := m) [((47, .iload_n 3, 1, 0, 0, 0, 0), (0, 0, 0)), ((48, .bipush 8, 2, 0, 0, 0, 0), (0, 0, 0))] (by decide +kernel) rfl trivial ?_
    refine gx_cmp .ne 57 (by decide +kernel) (fun c2 => ?_) (fun c2 => ?_)
    · have c2 : x3 ≠ 8 := c2
      have e3 : gx_w (x4 + 1) = x4 + 1 := gx_w_id (by omega) (by omega)
      refine gx_blk (C := True) (npc := 8) (L' := [(0, .inr 86), (1, .inl x1), (2, .inl (gx_or x2 (gx_shl 1 x3))), (3, .inl x3), (4, .inl (gx_w (x4 + 1)))]) (st' := []) (m' := m) [((57, .iload_n 2, 1, 0, 0, 0, 0), (0, 0, 0)), ((58, .iconst 1, 1, 0, 0, 0, 0), (0, 0, 0)), ((59, .iload_n 3, 1, 0, 0, 0, 0), (0, 0, 0)), ((60, .ishl, 1, 0, 0, 0, 0), (0, 0, 0)), ((61, .ior, 1, 0, 0, 0, 0), (0, 0, 0)), ((62, .istore_n 2, 1, 0, 0, 0, 0), (0, 0, 0)), ((63, .iinc 4 1, 3, 0, 0, 0, 0), (0, 0, 0)), ((66, .goto (-58), 3, 0, 0, 0, 0), (0, 0, 0))] (by decide +kernel) rfl trivial ?_
      rw [e3]
      exact gx_to_pick [0, 1, 2, 3, 4] (h1 c1 c2)
    · have c2 : x3 = 8 := by have h : ¬ (x3 ≠ 8) := c2; omega
      have e4 : gx_w (x4 + 1) = x4 + 1 := gx_w_id (by omega) (by omega)
      refine gx_blk (C := True) (npc := 8) (L' := [(0, .inr 86), (1, .inl x1), (2, .inl x2), (3, .inl x3), (4, .inl (gx_w (x4 + 1)))]) (st' := []) (m' := m) [((53, .iload_n 2, 1, 0, 0, 0, 0), (0, 0, 0)), ((54, .goto 8, 3, 0, 0, 0, 0), (0, 0, 0)), ((62, .istore_n 2, 1, 0, 0, 0, 0), (0, 0, 0)), ((63, .iinc 4 1, 3, 0, 0, 0, 0), (0, 0, 0)), ((66, .goto (-58), 3, 0, 0, 0, 0), (0, 0, 0))] (by decide +kernel) rfl trivial ?_
      rw [e4]
      exact gx_to_pick [0, 1, 2, 3, 4] (h2 c1 c2)
  · have c1 : s0 ≠ (m 114 ((256 * x4) + x2).toNat) := c1
    have e5 : gx_w (x3 + 1) = x3 + 1 := gx_w_id (by omega) (by omega)
    refine gx_blk (C := True) (npc := 16) (L' := [(0, .inr 86), (1, .inl x1), (2, .inl x2), (3, .inl (gx_w (x3 + 1))), (4, .inl x4)]) (st' := []) (m' := m) [((40, .iload_n 3, 1, 0, 0, 0, 0), (0, 0, 0)), ((41, .iconst 1, 1, 0, 0, 0, 0), (0, 0, 0)), ((42, .iadd, 1, 0, 0, 0, 0), (0, 0, 0)), ((43, .istore_n 3, 1, 0, 0, 0, 0), (0, 0, 0)), ((44, .goto (-28), 3, 0, 0, 0, 0), (0, 0, 0))] (by decide +kernel) rfl trivial ?_
    rw [e5]
    exact gx_to_pick [0, 1, 2, 3, 4] (h3 c1)

/-- pays from 0 on -/
theorem gt244_0 {xs : List Int32} {w0 : sx_W} {d : Nat} {Q : gx_Q} {m : gx_M} {x1 x2 : Int} (r_x2 : 0 ≤ x2 ∧ x2 ≤ 7)
    (h1 : gx_to xs w0 d yp_m245 0 [(0, .inr 86), (1, .inl x1)] [] m (fun r m' => gx_to xs w0 (d + 1) yp_m244 5 [(0, .inr 86), (1, .inl x1), (2, .inl x2)] (gx_rs r ++ []) m' Q)) : gx_to xs w0 (d + 1) yp_m244 0 [(0, .inr 86), (1, .inl x1), (2, .inl x2)] [] m Q := by
  refine gx_blk (C := True) (npc := 2) (L' := [(0, .inr 86), (1, .inl x1), (2, .inl x2)]) (st' := [.inl x1, .inr 86]) (m' := m) [((0, .aload_n 0, 1, 0, 0, 0, 0), (0, 0, 0)), ((1, .iload_n 1, 1, 0, 0, 0, 0), (0, 0, 0))] (by decide +kernel) rfl trivial ?_
  exact gx_callv (E := (2, .invokevirtual 355, 3, 245, 0, 7107, 0)) (M' := yp_m245) (c := 86) [.inl x1] [] rfl (by decide +kernel) rfl ⟨rfl, rfl⟩ rfl rfl (Nat.le_of_ble_eq_true rfl) (Nat.le_of_ble_eq_true rfl) (by decide +kernel) (gx_to_mono h1 (fun r m' h' => gx_to_pick [0, 1, 2] h'))

/-- pays from 5 on -/
theorem gt244_5 {xs : List Int32} {w0 : sx_W} {d : Nat} {Q : gx_Q} {m : gx_M} {x1 x2 s0 : Int} (r_x2 : 0 ≤ x2 ∧ x2 ≤ 7)
    (h1 : gx_to xs w0 d yp_m244 12 [(0, .inr 86), (1, .inl x1), (2, .inl x2), (3, .inl s0), (4, .inl 0), (5, .inl 0)] [] m Q) : gx_to xs w0 d yp_m244 5 [(0, .inr 86), (1, .inl x1), (2, .inl x2)] [.inl s0] m Q := by
  refine gx_blk (C := True) (npc := 12) (L' := [(0, .inr 86), (1, .inl x1), (2, .inl x2), (3, .inl s0), (4, .inl 0), (5, .inl 0)]) (st' := []) (m' := m) [((5, .istore_n 3, 1, 0, 0, 0, 0), (0, 0, 0)), ((6, .iconst 0, 1, 0, 0, 0, 0), (0, 0, 0)), ((7, .istore 4, 2, 0, 0, 0, 0), (0, 0, 0)), ((9, .iconst 0, 1, 0, 0, 0, 0), (0, 0, 0)), ((10, .istore 5, 2, 0, 0, 0, 0), (0, 0, 0))] (by decide +kernel) rfl trivial ?_
  exact gx_to_pick [0, 1, 2, 3, 4, 5] h1

/-- pays from 12 on -/
theorem gt244_12 {xs : List Int32} {w0 : sx_W} {d : Nat} {Q : gx_Q} {m : gx_M} {x1 x2 x3 x4 x5 : Int} (hI : gx_I m) (r_x2 : 0 ≤ x2 ∧ x2 ≤ 7) (r_x5 : 0 ≤ x5 ∧ x5 ≤ 6)
    (h1 : ((m 86 37) ≤ x5) → gx_to xs w0 d yp_m245 0 [(0, .inr 86), (1, .inl (gx_and x1 (gx_xor (gx_shl 1 x2) (-1))))] [] m (fun r m' => gx_to xs w0 (d + 1) yp_m244 69 [(3, .inl x3), (4, .inl x4)] (gx_rs r ++ []) m' Q))
    (h2 : (x5 < (m 86 37)) → gx_to xs w0 d yp_m247 0 [(0, .inr 86), (1, .inl x5)] [] m (fun r m' => gx_to xs w0 (d + 1) yp_m244 29 [(0, .inr 86), (1, .inl x1), (2, .inl x2), (3, .inl x3), (5, .inl x5)] (gx_rs r ++ [.inl x4]) m' Q)) : gx_to xs w0 (d + 1) yp_m244 12 [(0, .inr 86), (1, .inl x1), (2, .inl x2), (3, .inl x3), (4, .inl x4), (5, .inl x5)] [] m Q := by
  have f1 := gx_I_n hI 86 37 0 8 (by decide +kernel)
  refine gx_blk (C := True) (npc := 18) (L' := [(0, .inr 86), (1, .inl x1), (2, .inl x2), (3, .inl x3), (4, .inl x4), (5, .inl x5)]) (st' := [.inl (m 86 37), .inl x5]) (m' := m) [((12, .iload 5, 2, 0, 0, 0, 0), (0, 0, 0)), ((14, .aload_n 0, 1, 0, 0, 0, 0), (0, 0, 0)), ((15, .getfield 346, 3, 10, 37, 5150, 0), (0, 86, 0))] (by decide +kernel) rfl trivial ?_
  refine gx_cmp .ge 58 (by decide +kernel) (fun c1 => ?_) (fun c1 => ?_)
  · have c1 : (m 86 37) ≤ x5 := c1
    refine gx_blk (C := True) (npc := 66) (L' := [(0, .inr 86), (1, .inl x1), (2, .inl x2), (3, .inl x3), (4, .inl x4), (5, .inl x5)]) (st' := [.inl (gx_and x1 (gx_xor (gx_shl 1 x2) (-1))), .inr 86]) (m' := m) [((58, .aload_n 0, 1, 0, 0, 0, 0), (0, 0, 0)), ((59, .iload_n 1, 1, 0, 0, 0, 0), (0, 0, 0)), ((60, .iconst 1, 1, 0, 0, 0, 0), (0, 0, 0)), ((61, .iload_n 2, 1, 0, 0, 0, 0), (0, 0, 0)), ((62, .ishl, 1, 0, 0, 0, 0), (0, 0, 0)), ((63, .iconst (-1), 1, 0, 0, 0, 0), (0, 0, 0)), ((64, .ixor, 1, 0, 0, 0, 0), (0, 0, 0)), ((65, .iand, 1, 0, 0, 0, 0), (0, 0, 0))] (by decide +kernel) rfl trivial ?_
    exact gx_callv (E := (66, .invokevirtual 355, 3, 245, 0, 7107, 0)) (M' := yp_m245) (c := 86) [.inl (gx_and x1 (gx_xor (gx_shl 1 x2) (-1)))] [] rfl (by decide +kernel) rfl ⟨rfl, rfl⟩ rfl rfl (Nat.le_of_ble_eq_true rfl) (Nat.le_of_ble_eq_true rfl) (by decide +kernel) (gx_to_mono (h1 c1) (fun r m' h' => gx_to_pick [3, 4] h'))
  · have c1 : x5 < (m 86 37) := by have h : ¬ ((m 86 37) ≤ x5) := c1; omega
    refine gx_blk (C := True) (npc := 26) (L' := [(0, .inr 86), (1, .inl x1), (2, .inl x2), (3, .inl x3), (4, .inl x4), (5, .inl x5)]) (st' := [.inl x5, .inr 86, .inl x4]) (m' := m) [((21, .iload 4, 2, 0, 0, 0, 0), (0, 0, 0)), ((23, .aload_n 0, 1, 0, 0, 0, 0), (0, 0, 0)), ((24, .iload 5, 2, 0, 0, 0, 0), (0, 0, 0))] (by decide +kernel) rfl trivial ?_
    exact gx_callv (E := (26, .invokevirtual 358, 3, 247, 0, 7115, 0)) (M' := yp_m247) (c := 86) [.inl x5] [.inl x4] rfl (by decide +kernel) rfl ⟨rfl, rfl⟩ rfl rfl (Nat.le_of_ble_eq_true rfl) (Nat.le_of_ble_eq_true rfl) (by decide +kernel) (gx_to_mono (h2 c1) (fun r m' h' => gx_to_pick [0, 1, 2, 3, 5] h'))

/-- pays from 29 on -/
theorem gt244_29 {xs : List Int32} {w0 : sx_W} {d : Nat} {Q : gx_Q} {m : gx_M} {x1 x2 x3 x5 s0 s1 : Int} (hI : gx_I m) (r_x2 : 0 ≤ x2 ∧ x2 ≤ 7) (r_x5 : 0 ≤ x5 ∧ x5 ≤ 5)
    (h1 : (s1 ≠ x2) → gx_to xs w0 d yp_m244 12 [(0, .inr 86), (1, .inl x1), (2, .inl x2), (3, .inl x3), (4, .inl (gx_w (s0 + 0))), (5, .inl (x5 + 1))] [] m Q)
    (h2 : (s1 = x2) → gx_to xs w0 d yp_m244 12 [(0, .inr 86), (1, .inl x1), (2, .inl x2), (3, .inl x3), (4, .inl (gx_w (s0 + (m 113 ((8 * x5) + x2).toNat)))), (5, .inl (x5 + 1))] [] m Q) : gx_to xs w0 d yp_m244 29 [(0, .inr 86), (1, .inl x1), (2, .inl x2), (3, .inl x3), (5, .inl x5)] [.inl s1, .inl s0] m Q := by
  refine gx_blk (C := True) (npc := 30) (L' := [(0, .inr 86), (1, .inl x1), (2, .inl x2), (3, .inl x3), (5, .inl x5)]) (st' := [.inl x2, .inl s1, .inl s0]) (m' := m) [((29, .iload_n 2, 1, 0, 0, 0, 0), (0, 0, 0))] (by decide +kernel) rfl trivial ?_
  refine gx_cmp .ne 48 (by decide +kernel) (fun c1 => ?_) (fun c1 => ?_)
  · have c1 : s1 ≠ x2 := c1
    have e1 : gx_w (x5 + 1) = x5 + 1 := gx_w_id (by omega) (by omega)
    refine gx_blk (C := True) (npc := 12) (L' := [(0, .inr 86), (1, .inl x1), (2, .inl x2), (3, .inl x3), (5, .inl (gx_w (x5 + 1))), (4, .inl (gx_w (s0 + 0)))]) (st' := []) (m' := m) [((48, .iconst 0, 1, 0, 0, 0, 0), (0, 0, 0)), ((49, .iadd, 1, 0, 0, 0, 0), (0, 0, 0)), ((50, .istore 4, 2, 0, 0, 0, 0), (0, 0, 0)), ((52, .iinc 5 1, 3, 0, 0, 0, 0), (0, 0, 0)), ((55, .goto (-43), 3, 0, 0, 0, 0), (0, 0, 0))] (by decide +kernel) rfl trivial ?_
    rw [e1]
    exact gx_to_pick [0, 1, 2, 3, 4, 5] (h1 c1)
  · have c1 : s1 = x2 := by have h : ¬ (s1 ≠ x2) := c1; omega
    have e2 : gx_w (8 * x5) = 8 * x5 := gx_w_id (by omega) (by omega)
    have e3 : gx_w ((8 * x5) + x2) = (8 * x5) + x2 := gx_w_id (by omega) (by omega)
    have f4 := gx_I_at hI 113 (z := (8 * x5) + x2) 0 47 0 999 (by decide +kernel) (by omega) (by omega)
    have e5 : gx_w (x5 + 1) = x5 + 1 := gx_w_id (by omega) (by omega)
    refine gx_blk (C := (True ∧ (0 ≤ (gx_w ((gx_w (8 * x5)) + x2)) ∧ (gx_w ((gx_w (8 * x5)) + x2)) < 64))) (npc := 12) (L' := [(0, .inr 86), (1, .inl x1), (2, .inl x2), (3, .inl x3), (5, .inl (gx_w (x5 + 1))), (4, .inl (gx_w (s0 + (m 113 (gx_w ((gx_w (8 * x5)) + x2)).toNat))))]) (st' := []) (m' := m) [((33, .aload_n 0, 1, 0, 0, 0, 0), (0, 0, 0)), ((34, .getfield 89, 3, 10, 40, 5153, 0), (1, 86, 113)), ((37, .bipush 8, 2, 0, 0, 0, 0), (0, 0, 0)), ((39, .iload 5, 2, 0, 0, 0, 0), (0, 0, 0)), ((41, .imul, 1, 0, 0, 0, 0), (0, 0, 0)), ((42, .iload_n 2, 1, 0, 0, 0, 0), (0, 0, 0)), ((43, .iadd, 1, 0, 0, 0, 0), (0, 0, 0)), ((44, .iaload, 1, 0, 0, 0, 0), (0, 113, 64)), ((45, .goto 4, 3, 0, 0, 0, 0), (0, 0, 0)), ((49, .iadd, 1, 0, 0, 0, 0), (0, 0, 0)), ((50, .istore 4, 2, 0, 0, 0, 0), (0, 0, 0)), ((52, .iinc 5 1, 3, 0, 0, 0, 0), (0, 0, 0)), ((55, .goto (-43), 3, 0, 0, 0, 0), (0, 0, 0))] (by decide +kernel) rfl ⟨trivial, (by rw [e2, e3]; omega)⟩ ?_
    rw [e2, e3, e5]
    exact gx_to_pick [0, 1, 2, 3, 4, 5] (h2 c1)

/-- pays from 69 on -/
theorem gt244_69 {xs : List Int32} {w0 : sx_W} {d : Nat} {Q : gx_Q} {m : gx_M} {x3 x4 s0 : Int}
    (h1 : Q (some (gx_w (s0 - (gx_w (x3 - x4))))) m) : gx_to xs w0 d yp_m244 69 [(3, .inl x3), (4, .inl x4)] [.inl s0] m Q := by
  refine gx_blk (C := True) (npc := 74) (L' := [(3, .inl x3), (4, .inl x4)]) (st' := [.inl (gx_w (s0 - (gx_w (x3 - x4))))]) (m' := m) [((69, .iload_n 3, 1, 0, 0, 0, 0), (0, 0, 0)), ((70, .iload 4, 2, 0, 0, 0, 0), (0, 0, 0)), ((72, .isub, 1, 0, 0, 0, 0), (0, 0, 0)), ((73, .isub, 1, 0, 0, 0, 0), (0, 0, 0))] (by decide +kernel) rfl trivial ?_
  exact gx_reti (by decide +kernel) h1

/-- sold from 0 on -/
theorem gt242_0 {xs : List Int32} {w0 : sx_W} {d : Nat} {Q : gx_Q} {m : gx_M} {x1 x2 x3 : Int}
    (h1 : gx_to xs w0 d yp_m162 0 [(0, .inl x1), (1, .inl 1), (2, .inl 6)] [] m (fun r m' => gx_to xs w0 (d + 1) yp_m242 7 [(0, .inr 86), (1, .inl x1), (2, .inl x2), (3, .inl x3)] (gx_rs r ++ []) m' Q)) : gx_to xs w0 (d + 1) yp_m242 0 [(0, .inr 86), (1, .inl x1), (2, .inl x2), (3, .inl x3)] [] m Q := by
  refine gx_blk (C := True) (npc := 4) (L' := [(0, .inr 86), (1, .inl x1), (2, .inl x2), (3, .inl x3)]) (st' := [.inl 6, .inl 1, .inl x1]) (m' := m) [((0, .iload_n 1, 1, 0, 0, 0, 0), (0, 0, 0)), ((1, .iconst 1, 1, 0, 0, 0, 0), (0, 0, 0)), ((2, .bipush 6, 2, 0, 0, 0, 0), (0, 0, 0))] (by decide +kernel) rfl trivial ?_
  exact gx_calls (E := (4, .invokestatic 108, 3, 162, 0, 6023, 0)) (M' := yp_m162) [.inl x1, .inl 1, .inl 6] [] rfl (by decide +kernel) rfl ⟨rfl, rfl⟩ rfl rfl (Nat.le_of_ble_eq_true rfl) (Nat.le_of_ble_eq_true rfl) rfl (gx_to_mono h1 (fun r m' h' => gx_to_pick [0, 1, 2, 3] h'))

/-- sold from 7 on -/
theorem gt242_7 {xs : List Int32} {w0 : sx_W} {d : Nat} {Q : gx_Q} {m : gx_M} {x1 x2 x3 s0 : Int} (hI : gx_I m)
    (h1 : (s0 = 0) → Q (some (-1)) m)
    (h2 : (s0 ≠ 0) → (x1 ≤ (m 86 4)) → gx_to xs w0 d yp_m243 0 [(0, .inr 86), (1, .inl x1)] [] (gx_u m 86 4 0) (fun r m' => gx_to xs w0 (d + 1) yp_m242 30 [(0, .inr 86), (1, .inl x1), (2, .inl x2), (3, .inl x3)] (gx_rs r ++ []) m' Q))
    (h3 : (s0 ≠ 0) → ((m 86 4) < x1) → Q (some (-1)) m) : gx_to xs w0 (d + 1) yp_m242 7 [(0, .inr 86), (1, .inl x1), (2, .inl x2), (3, .inl x3)] [.inl s0] m Q := by
  refine gx_if .eq 18 (by decide +kernel) (fun c1 => ?_) (fun c1 => ?_)
  · have c1 : s0 = 0 := c1
    refine gx_blk (C := True) (npc := 19) (L' := [(0, .inr 86), (1, .inl x1), (2, .inl x2), (3, .inl x3)]) (st' := [.inl (-1)]) (m' := m) [((18, .iconst (-1), 1, 0, 0, 0, 0), (0, 0, 0))] (by decide +kernel) rfl trivial ?_
    exact gx_reti (by decide +kernel) (h1 c1)
  · have c1 : s0 ≠ 0 := c1
    have f1 := gx_I_n hI 86 4 0 260 (by decide +kernel)
    refine gx_blk (C := True) (npc := 15) (L' := [(0, .inr 86), (1, .inl x1), (2, .inl x2), (3, .inl x3)]) (st' := [.inl (m 86 4), .inl x1]) (m' := m) [((10, .iload_n 1, 1, 0, 0, 0, 0), (0, 0, 0)), ((11, .aload_n 0, 1, 0, 0, 0, 0), (0, 0, 0)), ((12, .getfield 124, 3, 10, 4, 5117, 0), (0, 86, 0))] (by decide +kernel) rfl trivial ?_
    refine gx_cmp .le 20 (by decide +kernel) (fun c2 => ?_) (fun c2 => ?_)
    · have c2 : x1 ≤ (m 86 4) := c2
      refine gx_blk (C := True) (npc := 27) (L' := [(0, .inr 86), (1, .inl x1), (2, .inl x2), (3, .inl x3)]) (st' := [.inl x1, .inr 86]) (m' := (gx_u m 86 4 0)) [((20, .aload_n 0, 1, 0, 0, 0, 0), (0, 0, 0)), ((21, .iconst 0, 1, 0, 0, 0, 0), (0, 0, 0)), ((22, .putfield 124, 3, 10, 4, 5117, 0), (0, 86, 0)), ((25, .aload_n 0, 1, 0, 0, 0, 0), (0, 0, 0)), ((26, .iload_n 1, 1, 0, 0, 0, 0), (0, 0, 0))] (by decide +kernel) rfl trivial ?_
      exact gx_callv (E := (27, .invokevirtual 361, 3, 243, 0, 7099, 0)) (M' := yp_m243) (c := 86) [.inl x1] [] rfl (by decide +kernel) rfl ⟨rfl, rfl⟩ rfl rfl (Nat.le_of_ble_eq_true rfl) (Nat.le_of_ble_eq_true rfl) (by decide +kernel) (gx_to_mono (h2 c1 c2) (fun r m' h' => gx_to_pick [0, 1, 2, 3] h'))
    · have c2 : (m 86 4) < x1 := by have h : ¬ (x1 ≤ (m 86 4)) := c2; omega
      refine gx_blk (C := True) (npc := 19) (L' := [(0, .inr 86), (1, .inl x1), (2, .inl x2), (3, .inl x3)]) (st' := [.inl (-1)]) (m' := m) [((18, .iconst (-1), 1, 0, 0, 0, 0), (0, 0, 0))] (by decide +kernel) rfl trivial ?_
      exact gx_reti (by decide +kernel) (h3 c1 c2)

/-- sold from 30 on -/
theorem gt242_30 {xs : List Int32} {w0 : sx_W} {d : Nat} {Q : gx_Q} {m : gx_M} {x1 x2 x3 s0 : Int} (hI : gx_I m) (r_x1 : 1 ≤ x1 ∧ x1 ≤ 6)
    (h1 : (s0 ≠ 0) → (x3 = 10) → ((gx_and x2 (gx_xor (m 87 1128) (-1))) ≠ 0) → Q (some (-3)) m)
    (h2 : (s0 ≠ 0) → (x3 = 10) → ((gx_and x2 (gx_xor (m 87 1128) (-1))) = 0) → gx_to xs w0 (d + 1) yp_m242 108 [(0, .inr 86), (1, .inl x1), (2, .inl x2), (3, .inl x3), (5, .inl 0)] [] m Q)
    (h3 : (s0 ≠ 0) → (x3 ≠ 10) → gx_to xs w0 d yp_m162 0 [(0, .inl x3), (1, .inl 0), (2, .inl (x1 - 1))] [] m (fun r m' => gx_to xs w0 (d + 1) yp_m242 50 [(0, .inr 86), (1, .inl x1), (2, .inl x2), (3, .inl x3)] (gx_rs r ++ []) m' Q))
    (h4 : (s0 = 0) → Q (some (-2)) m) : gx_to xs w0 (d + 1) yp_m242 30 [(0, .inr 86), (1, .inl x1), (2, .inl x2), (3, .inl x3)] [.inl s0] m Q := by
  refine gx_if .ne 36 (by decide +kernel) (fun c1 => ?_) (fun c1 => ?_)
  · have c1 : s0 ≠ 0 := c1
    refine gx_blk (C := True) (npc := 39) (L' := [(0, .inr 86), (1, .inl x1), (2, .inl x2), (3, .inl x3)]) (st' := [.inl 10, .inl x3]) (m' := m) [((36, .iload_n 3, 1, 0, 0, 0, 0), (0, 0, 0)), ((37, .bipush 10, 2, 0, 0, 0, 0), (0, 0, 0))] (by decide +kernel) rfl trivial ?_
    refine gx_cmp .eq 75 (by decide +kernel) (fun c2 => ?_) (fun c2 => ?_)
    · have c2 : x3 = 10 := c2
      have f1 := gx_I_n hI 87 1128 0 255 (by decide +kernel)
      refine gx_blk (C := (True ∧ (0 ≤ 1128 ∧ 1128 < 1131))) (npc := 94) (L' := [(0, .inr 86), (1, .inl x1), (2, .inl x2), (3, .inl x3), (4, .inl 1)]) (st' := [.inl (gx_and x2 (gx_xor (m 87 1128) (-1)))]) (m' := m) [((75, .iconst 1, 1, 0, 0, 0, 0), (0, 0, 0)), ((76, .goto 4, 3, 0, 0, 0, 0), (0, 0, 0)), ((80, .istore 4, 2, 0, 0, 0, 0), (0, 0, 0)), ((82, .iload_n 2, 1, 0, 0, 0, 0), (0, 0, 0)), ((83, .aload_n 0, 1, 0, 0, 0, 0), (0, 0, 0)), ((84, .getfield 7, 3, 10, 0, 5113, 0), (1, 86, 87)), ((87, .sipush 1128, 3, 0, 0, 0, 0), (0, 0, 0)), ((90, .iaload, 1, 0, 0, 0, 0), (0, 87, 1131)), ((91, .iconst (-1), 1, 0, 0, 0, 0), (0, 0, 0)), ((92, .ixor, 1, 0, 0, 0, 0), (0, 0, 0)), ((93, .iand, 1, 0, 0, 0, 0), (0, 0, 0))] (by decide +kernel) rfl ⟨trivial, (by omega)⟩ ?_
      refine gx_if .ne 102 (by decide +kernel) (fun c3 => ?_) (fun c3 => ?_)
      · have c3 : (gx_and x2 (gx_xor (m 87 1128) (-1))) ≠ 0 := c3
        refine gx_blk (C := True) (npc := 104) (L' := [(0, .inr 86), (1, .inl x1), (2, .inl x2), (3, .inl x3), (4, .inl 1)]) (st' := [.inl (-3)]) (m' := m) [((102, .bipush (-3), 2, 0, 0, 0, 0), (0, 0, 0))] (by decide +kernel) rfl trivial ?_
        exact gx_reti (by decide +kernel) (h1 c1 c2 c3)
      · have c3 : (gx_and x2 (gx_xor (m 87 1128) (-1))) = 0 := by have h : ¬ ((gx_and x2 (gx_xor (m 87 1128) (-1))) ≠ 0) := c3; omega
        refine gx_blk (C := True) (npc := 99) (L' := [(0, .inr 86), (1, .inl x1), (2, .inl x2), (3, .inl x3), (4, .inl 1)]) (st' := [.inl 1]) (m' := m) [((97, .iload 4, 2, 0, 0, 0, 0), (0, 0, 0))] (by decide +kernel) rfl trivial ?_
        refine gx_if .ne 105 (by decide +kernel) (fun c4 => ?_) (fun c4 => ?_)
        · have c4 : (1 : Int) ≠ 0 := c4
          refine gx_blk (C := True) (npc := 108) (L' := [(0, .inr 86), (1, .inl x1), (2, .inl x2), (3, .inl x3), (4, .inl 1), (5, .inl 0)]) (st' := []) (m' := m) [((105, .iconst 0, 1, 0, 0, 0, 0), (0, 0, 0)), ((106, .istore 5, 2, 0, 0, 0, 0), (0, 0, 0))] (by decide +kernel) rfl trivial ?_
          exact gx_to_pick [0, 1, 2, 3, 5] (h2 c1 c2 c3)
        · have c4 : (1 : Int) = 0 := by have h : ¬ ((1 : Int) ≠ 0) := c4; omega
          exfalso; omega
    · have c2 : x3 ≠ 10 := c2
      have e2 : gx_w (x1 - 1) = x1 - 1 := gx_w_id (by omega) (by omega)
      refine gx_blk (C := True) (npc := 47) (L' := [(0, .inr 86), (1, .inl x1), (2, .inl x2), (3, .inl x3)]) (st' := [.inl (gx_w (x1 - 1)), .inl 0, .inl x3]) (m' := m) [((42, .iload_n 3, 1, 0, 0, 0, 0), (0, 0, 0)), ((43, .iconst 0, 1, 0, 0, 0, 0), (0, 0, 0)), ((44, .iload_n 1, 1, 0, 0, 0, 0), (0, 0, 0)), ((45, .iconst 1, 1, 0, 0, 0, 0), (0, 0, 0)), ((46, .isub, 1, 0, 0, 0, 0), (0, 0, 0))] (by decide +kernel) rfl trivial ?_
      rw [e2]
      exact gx_calls (E := (47, .invokestatic 108, 3, 162, 0, 6023, 0)) (M' := yp_m162) [.inl x3, .inl 0, .inl (x1 - 1)] [] rfl (by decide +kernel) rfl ⟨rfl, rfl⟩ rfl rfl (Nat.le_of_ble_eq_true rfl) (Nat.le_of_ble_eq_true rfl) rfl (gx_to_mono (h3 c1 c2) (fun r m' h' => gx_to_pick [0, 1, 2, 3] h'))
  · have c1 : s0 = 0 := by have h : ¬ (s0 ≠ 0) := c1; omega
    refine gx_blk (C := True) (npc := 35) (L' := [(0, .inr 86), (1, .inl x1), (2, .inl x2), (3, .inl x3)]) (st' := [.inl (-2)]) (m' := m) [((33, .bipush (-2), 2, 0, 0, 0, 0), (0, 0, 0))] (by decide +kernel) rfl trivial ?_
    exact gx_reti (by decide +kernel) (h4 c1)

/-- sold from 50 on -/
theorem gt242_50 {xs : List Int32} {w0 : sx_W} {d : Nat} {Q : gx_Q} {m : gx_M} {x1 x2 x3 s0 : Int} (hI : gx_I m) (r_x1 : 1 ≤ x1 ∧ x1 ≤ 6)
    (h1 : (s0 ≠ 0) → ((gx_and x2 (gx_xor (m 87 1128) (-1))) ≠ 0) → Q (some (-3)) m)
    (h2 : (s0 ≠ 0) → ((gx_and x2 (gx_xor (m 87 1128) (-1))) = 0) → gx_to xs w0 (d + 1) yp_m242 108 [(0, .inr 86), (1, .inl x1), (2, .inl x2), (3, .inl x3), (5, .inl 0)] [] m Q)
    (h3 : (s0 = 0) → gx_to xs w0 d yp_m162 0 [(0, .inl x3), (1, .inl 20), (2, .inl 27)] [] m (fun r m' => gx_to xs w0 (d + 1) yp_m242 61 [(0, .inr 86), (1, .inl x1), (2, .inl x2), (3, .inl x3)] (gx_rs r ++ []) m' Q)) : gx_to xs w0 (d + 1) yp_m242 50 [(0, .inr 86), (1, .inl x1), (2, .inl x2), (3, .inl x3)] [.inl s0] m Q := by
  refine gx_if .ne 75 (by decide +kernel) (fun c1 => ?_) (fun c1 => ?_)
  · have c1 : s0 ≠ 0 := c1
    have f1 := gx_I_n hI 87 1128 0 255 (by decide +kernel)
    refine gx_blk (C := (True ∧ (0 ≤ 1128 ∧ 1128 < 1131))) (npc := 94) (L' := [(0, .inr 86), (1, .inl x1), (2, .inl x2), (3, .inl x3), (4, .inl 1)]) (st' := [.inl (gx_and x2 (gx_xor (m 87 1128) (-1)))]) (m' := m) [((75, .iconst 1, 1, 0, 0, 0, 0), (0, 0, 0)), ((76, .goto 4, 3, 0, 0, 0, 0), (0, 0, 0)), ((80, .istore 4, 2, 0, 0, 0, 0), (0, 0, 0)), ((82, .iload_n 2, 1, 0, 0, 0, 0), (0, 0, 0)), ((83, .aload_n 0, 1, 0, 0, 0, 0), (0, 0, 0)), ((84, .getfield 7, 3, 10, 0, 5113, 0), (1, 86, 87)), ((87, .sipush 1128, 3, 0, 0, 0, 0), (0, 0, 0)), ((90, .iaload, 1, 0, 0, 0, 0), (0, 87, 1131)), ((91, .iconst (-1), 1, 0, 0, 0, 0), (0, 0, 0)), ((92, .ixor, 1, 0, 0, 0, 0), (0, 0, 0)), ((93, .iand, 1, 0, 0, 0, 0), (0, 0, 0))] (by decide +kernel) rfl ⟨trivial, (by omega)⟩ ?_
    refine gx_if .ne 102 (by decide +kernel) (fun c2 => ?_) (fun c2 => ?_)
    · have c2 : (gx_and x2 (gx_xor (m 87 1128) (-1))) ≠ 0 := c2
      refine gx_blk (C := True) (npc := 104) (L' := [(0, .inr 86), (1, .inl x1), (2, .inl x2), (3, .inl x3), (4, .inl 1)]) (st' := [.inl (-3)]) (m' := m) [((102, .bipush (-3), 2, 0, 0, 0, 0), (0, 0, 0))] (by decide +kernel) rfl trivial ?_
      exact gx_reti (by decide +kernel) (h1 c1 c2)
    · have c2 : (gx_and x2 (gx_xor (m 87 1128) (-1))) = 0 := by have h : ¬ ((gx_and x2 (gx_xor (m 87 1128) (-1))) ≠ 0) := c2; omega
      refine gx_blk (C := True) (npc := 99) (L' := [(0, .inr 86), (1, .inl x1), (2, .inl x2), (3, .inl x3), (4, .inl 1)]) (st' := [.inl 1]) (m' := m) [((97, .iload 4, 2, 0, 0, 0, 0), (0, 0, 0))] (by decide +kernel) rfl trivial ?_
      refine gx_if .ne 105 (by decide +kernel) (fun c3 => ?_) (fun c3 => ?_)
      · have c3 : (1 : Int) ≠ 0 := c3
        refine gx_blk (C := True) (npc := 108) (L' := [(0, .inr 86), (1, .inl x1), (2, .inl x2), (3, .inl x3), (4, .inl 1), (5, .inl 0)]) (st' := []) (m' := m) [((105, .iconst 0, 1, 0, 0, 0, 0), (0, 0, 0)), ((106, .istore 5, 2, 0, 0, 0, 0), (0, 0, 0))] (by decide +kernel) rfl trivial ?_
        exact gx_to_pick [0, 1, 2, 3, 5] (h2 c1 c2)
      · have c3 : (1 : Int) = 0 := by have h : ¬ ((1 : Int) ≠ 0) := c3; omega
        exfalso; omega
  · have c1 : s0 = 0 := by have h : ¬ (s0 ≠ 0) := c1; omega
    refine gx_blk (C := True) (npc := 58) (L' := [(0, .inr 86), (1, .inl x1), (2, .inl x2), (3, .inl x3)]) (st' := [.inl 27, .inl 20, .inl x3]) (m' := m) [((53, .iload_n 3, 1, 0, 0, 0, 0), (0, 0, 0)), ((54, .bipush 20, 2, 0, 0, 0, 0), (0, 0, 0)), ((56, .bipush 27, 2, 0, 0, 0, 0), (0, 0, 0))] (by decide +kernel) rfl trivial ?_
    exact gx_calls (E := (58, .invokestatic 108, 3, 162, 0, 6023, 0)) (M' := yp_m162) [.inl x3, .inl 20, .inl 27] [] rfl (by decide +kernel) rfl ⟨rfl, rfl⟩ rfl rfl (Nat.le_of_ble_eq_true rfl) (Nat.le_of_ble_eq_true rfl) rfl (gx_to_mono (h3 c1) (fun r m' h' => gx_to_pick [0, 1, 2, 3] h'))

/-- sold from 61 on -/
theorem gt242_61 {xs : List Int32} {w0 : sx_W} {d : Nat} {Q : gx_Q} {m : gx_M} {x1 x2 x3 s0 : Int} (hI : gx_I m)
    (h1 : (s0 = 0) → ((gx_and x2 (gx_xor (m 87 1128) (-1))) ≠ 0) → Q (some (-3)) m)
    (h2 : (s0 = 0) → ((gx_and x2 (gx_xor (m 87 1128) (-1))) = 0) → Q (some (-3)) m)
    (h3 : (s0 ≠ 0) → gx_to xs w0 d yp_m165 0 [(0, .inl x2), (1, .inl (gx_w (x3 - 20)))] [] m (fun r m' => gx_to xs w0 (d + 1) yp_m242 72 [(0, .inr 86), (1, .inl x1), (2, .inl x2), (3, .inl x3)] (gx_rs r ++ []) m' Q)) : gx_to xs w0 (d + 1) yp_m242 61 [(0, .inr 86), (1, .inl x1), (2, .inl x2), (3, .inl x3)] [.inl s0] m Q := by
  refine gx_if .eq 79 (by decide +kernel) (fun c1 => ?_) (fun c1 => ?_)
  · have c1 : s0 = 0 := c1
    have f1 := gx_I_n hI 87 1128 0 255 (by decide +kernel)
    refine gx_blk (C := (True ∧ (0 ≤ 1128 ∧ 1128 < 1131))) (npc := 94) (L' := [(0, .inr 86), (1, .inl x1), (2, .inl x2), (3, .inl x3), (4, .inl 0)]) (st' := [.inl (gx_and x2 (gx_xor (m 87 1128) (-1)))]) (m' := m) [((79, .iconst 0, 1, 0, 0, 0, 0), (0, 0, 0)), ((80, .istore 4, 2, 0, 0, 0, 0), (0, 0, 0)), ((82, .iload_n 2, 1, 0, 0, 0, 0), (0, 0, 0)), ((83, .aload_n 0, 1, 0, 0, 0, 0), (0, 0, 0)), ((84, .getfield 7, 3, 10, 0, 5113, 0), (1, 86, 87)), ((87, .sipush 1128, 3, 0, 0, 0, 0), (0, 0, 0)), ((90, .iaload, 1, 0, 0, 0, 0), (0, 87, 1131)), ((91, .iconst (-1), 1, 0, 0, 0, 0), (0, 0, 0)), ((92, .ixor, 1, 0, 0, 0, 0), (0, 0, 0)), ((93, .iand, 1, 0, 0, 0, 0), (0, 0, 0))] (by decide +kernel) rfl ⟨trivial, (by omega)⟩ ?_
    refine gx_if .ne 102 (by decide +kernel) (fun c2 => ?_) (fun c2 => ?_)
    · have c2 : (gx_and x2 (gx_xor (m 87 1128) (-1))) ≠ 0 := c2
      refine gx_blk (C := True) (npc := 104) (L' := [(0, .inr 86), (1, .inl x1), (2, .inl x2), (3, .inl x3), (4, .inl 0)]) (st' := [.inl (-3)]) (m' := m) [((102, .bipush (-3), 2, 0, 0, 0, 0), (0, 0, 0))] (by decide +kernel) rfl trivial ?_
      exact gx_reti (by decide +kernel) (h1 c1 c2)
    · have c2 : (gx_and x2 (gx_xor (m 87 1128) (-1))) = 0 := by have h : ¬ ((gx_and x2 (gx_xor (m 87 1128) (-1))) ≠ 0) := c2; omega
      refine gx_blk (C := True) (npc := 99) (L' := [(0, .inr 86), (1, .inl x1), (2, .inl x2), (3, .inl x3), (4, .inl 0)]) (st' := [.inl 0]) (m' := m) [((97, .iload 4, 2, 0, 0, 0, 0), (0, 0, 0))] (by decide +kernel) rfl trivial ?_
      refine gx_if .ne 105 (by decide +kernel) (fun c3 => ?_) (fun c3 => ?_)
      · have c3 : (0 : Int) ≠ 0 := c3
        exfalso; omega
      · have c3 : (0 : Int) = 0 := by have h : ¬ ((0 : Int) ≠ 0) := c3; omega
        refine gx_blk (C := True) (npc := 104) (L' := [(0, .inr 86), (1, .inl x1), (2, .inl x2), (3, .inl x3), (4, .inl 0)]) (st' := [.inl (-3)]) (m' := m) [((102, .bipush (-3), 2, 0, 0, 0, 0), (0, 0, 0))] (by decide +kernel) rfl trivial ?_
        exact gx_reti (by decide +kernel) (h2 c1 c2)
  · have c1 : s0 ≠ 0 := c1
    refine gx_blk (C := True) (npc := 69) (L' := [(0, .inr 86), (1, .inl x1), (2, .inl x2), (3, .inl x3)]) (st' := [.inl (gx_w (x3 - 20)), .inl x2]) (m' := m) [((64, .iload_n 2, 1, 0, 0, 0, 0), (0, 0, 0)), ((65, .iload_n 3, 1, 0, 0, 0, 0), (0, 0, 0)), ((66, .bipush 20, 2, 0, 0, 0, 0), (0, 0, 0)), ((68, .isub, 1, 0, 0, 0, 0), (0, 0, 0))] (by decide +kernel) rfl trivial ?_
    exact gx_calls (E := (69, .invokestatic 104, 3, 165, 0, 6035, 0)) (M' := yp_m165) [.inl x2, .inl (gx_w (x3 - 20))] [] rfl (by decide +kernel) rfl ⟨rfl, rfl⟩ rfl rfl (Nat.le_of_ble_eq_true rfl) (Nat.le_of_ble_eq_true rfl) rfl (gx_to_mono (h3 c1) (fun r m' h' => gx_to_pick [0, 1, 2, 3] h'))

/-- sold from 72 on -/
theorem gt242_72 {xs : List Int32} {w0 : sx_W} {d : Nat} {Q : gx_Q} {m : gx_M} {x1 x2 x3 s0 : Int} (hI : gx_I m)
    (h1 : (s0 = 0) → ((gx_and x2 (gx_xor (m 87 1128) (-1))) ≠ 0) → Q (some (-3)) m)
    (h2 : (s0 = 0) → ((gx_and x2 (gx_xor (m 87 1128) (-1))) = 0) → Q (some (-3)) m)
    (h3 : (s0 ≠ 0) → ((gx_and x2 (gx_xor (m 87 1128) (-1))) ≠ 0) → Q (some (-3)) m)
    (h4 : (s0 ≠ 0) → ((gx_and x2 (gx_xor (m 87 1128) (-1))) = 0) → gx_to xs w0 d yp_m242 108 [(0, .inr 86), (1, .inl x1), (2, .inl x2), (3, .inl x3), (5, .inl 0)] [] m Q) : gx_to xs w0 d yp_m242 72 [(0, .inr 86), (1, .inl x1), (2, .inl x2), (3, .inl x3)] [.inl s0] m Q := by
  refine gx_if .eq 79 (by decide +kernel) (fun c1 => ?_) (fun c1 => ?_)
  · have c1 : s0 = 0 := c1
    have f1 := gx_I_n hI 87 1128 0 255 (by decide +kernel)
    refine gx_blk (C := (True ∧ (0 ≤ 1128 ∧ 1128 < 1131))) (npc := 94) (L' := [(0, .inr 86), (1, .inl x1), (2, .inl x2), (3, .inl x3), (4, .inl 0)]) (st' := [.inl (gx_and x2 (gx_xor (m 87 1128) (-1)))]) (m' := m) [((79, .iconst 0, 1, 0, 0, 0, 0), (0, 0, 0)), ((80, .istore 4, 2, 0, 0, 0, 0), (0, 0, 0)), ((82, .iload_n 2, 1, 0, 0, 0, 0), (0, 0, 0)), ((83, .aload_n 0, 1, 0, 0, 0, 0), (0, 0, 0)), ((84, .getfield 7, 3, 10, 0, 5113, 0), (1, 86, 87)), ((87, .sipush 1128, 3, 0, 0, 0, 0), (0, 0, 0)), ((90, .iaload, 1, 0, 0, 0, 0), (0, 87, 1131)), ((91, .iconst (-1), 1, 0, 0, 0, 0), (0, 0, 0)), ((92, .ixor, 1, 0, 0, 0, 0), (0, 0, 0)), ((93, .iand, 1, 0, 0, 0, 0), (0, 0, 0))] (by decide +kernel) rfl ⟨trivial, (by omega)⟩ ?_
    refine gx_if .ne 102 (by decide +kernel) (fun c2 => ?_) (fun c2 => ?_)
    · have c2 : (gx_and x2 (gx_xor (m 87 1128) (-1))) ≠ 0 := c2
      refine gx_blk (C := True) (npc := 104) (L' := [(0, .inr 86), (1, .inl x1), (2, .inl x2), (3, .inl x3), (4, .inl 0)]) (st' := [.inl (-3)]) (m' := m) [((102, .bipush (-3), 2, 0, 0, 0, 0), (0, 0, 0))] (by decide +kernel) rfl trivial ?_
      exact gx_reti (by decide +kernel) (h1 c1 c2)
    · have c2 : (gx_and x2 (gx_xor (m 87 1128) (-1))) = 0 := by have h : ¬ ((gx_and x2 (gx_xor (m 87 1128) (-1))) ≠ 0) := c2; omega
      refine gx_blk (C := True) (npc := 99) (L' := [(0, .inr 86), (1, .inl x1), (2, .inl x2), (3, .inl x3), (4, .inl 0)]) (st' := [.inl 0]) (m' := m) [((97, .iload 4, 2, 0, 0, 0, 0), (0, 0, 0))] (by decide +kernel) rfl trivial ?_
      refine gx_if .ne 105 (by decide +kernel) (fun c3 => ?_) (fun c3 => ?_)
      · have c3 : (0 : Int) ≠ 0 := c3
        exfalso; omega
      · have c3 : (0 : Int) = 0 := by have h : ¬ ((0 : Int) ≠ 0) := c3; omega
        refine gx_blk (C := True) (npc := 104) (L' := [(0, .inr 86), (1, .inl x1), (2, .inl x2), (3, .inl x3), (4, .inl 0)]) (st' := [.inl (-3)]) (m' := m) [((102, .bipush (-3), 2, 0, 0, 0, 0), (0, 0, 0))] (by decide +kernel) rfl trivial ?_
        exact gx_reti (by decide +kernel) (h2 c1 c2)
  · have c1 : s0 ≠ 0 := c1
    have f2 := gx_I_n hI 87 1128 0 255 (by decide +kernel)
    refine gx_blk (C := (True ∧ (0 ≤ 1128 ∧ 1128 < 1131))) (npc := 94) (L' := [(0, .inr 86), (1, .inl x1), (2, .inl x2), (3, .inl x3), (4, .inl 1)]) (st' := [.inl (gx_and x2 (gx_xor (m 87 1128) (-1)))]) (m' := m) [((75, .iconst 1, 1, 0, 0, 0, 0), (0, 0, 0)), ((76, .goto 4, 3, 0, 0, 0, 0), (0, 0, 0)), ((80, .istore 4, 2, 0, 0, 0, 0), (0, 0, 0)), ((82, .iload_n 2, 1, 0, 0, 0, 0), (0, 0, 0)), ((83, .aload_n 0, 1, 0, 0, 0, 0), (0, 0, 0)), ((84, .getfield 7, 3, 10, 0, 5113, 0), (1, 86, 87)), ((87, .sipush 1128, 3, 0, 0, 0, 0), (0, 0, 0)), ((90, .iaload, 1, 0, 0, 0, 0), (0, 87, 1131)), ((91, .iconst (-1), 1, 0, 0, 0, 0), (0, 0, 0)), ((92, .ixor, 1, 0, 0, 0, 0), (0, 0, 0)), ((93, .iand, 1, 0, 0, 0, 0), (0, 0, 0))] (by decide +kernel) rfl ⟨trivial, (by omega)⟩ ?_
    refine gx_if .ne 102 (by decide +kernel) (fun c2 => ?_) (fun c2 => ?_)
    · have c2 : (gx_and x2 (gx_xor (m 87 1128) (-1))) ≠ 0 := c2
      refine gx_blk (C := True) (npc := 104) (L' := [(0, .inr 86), (1, .inl x1), (2, .inl x2), (3, .inl x3), (4, .inl 1)]) (st' := [.inl (-3)]) (m' := m) [((102, .bipush (-3), 2, 0, 0, 0, 0), (0, 0, 0))] (by decide +kernel) rfl trivial ?_
      exact gx_reti (by decide +kernel) (h3 c1 c2)
    · have c2 : (gx_and x2 (gx_xor (m 87 1128) (-1))) = 0 := by have h : ¬ ((gx_and x2 (gx_xor (m 87 1128) (-1))) ≠ 0) := c2; omega
      refine gx_blk (C := True) (npc := 99) (L' := [(0, .inr 86), (1, .inl x1), (2, .inl x2), (3, .inl x3), (4, .inl 1)]) (st' := [.inl 1]) (m' := m) [((97, .iload 4, 2, 0, 0, 0, 0), (0, 0, 0))] (by decide +kernel) rfl trivial ?_
      refine gx_if .ne 105 (by decide +kernel) (fun c3 => ?_) (fun c3 => ?_)
      · have c3 : (1 : Int) ≠ 0 := c3
        refine gx_blk (C := True) (npc := 108) (L' := [(0, .inr 86), (1, .inl x1), (2, .inl x2), (3, .inl x3), (4, .inl 1), (5, .inl 0)]) (st' := []) (m' := m) [((105, .iconst 0, 1, 0, 0, 0, 0), (0, 0, 0)), ((106, .istore 5, 2, 0, 0, 0, 0), (0, 0, 0))] (by decide +kernel) rfl trivial ?_
        exact gx_to_pick [0, 1, 2, 3, 5] (h4 c1 c2)
      · have c3 : (1 : Int) = 0 := by have h : ¬ ((1 : Int) ≠ 0) := c3; omega
        exfalso; omega

/-- sold from 108 on -/
theorem gt242_108 {xs : List Int32} {w0 : sx_W} {d : Nat} {Q : gx_Q} {m : gx_M} {x1 x2 x3 x5 : Int} (r_x1 : 1 ≤ x1 ∧ x1 ≤ 6) (r_x5 : 0 ≤ x5 ∧ x5 ≤ 6)
    (h1 : (x1 ≤ x5) → (x3 < 20) → gx_to xs w0 d yp_m245 0 [(0, .inr 86), (1, .inl x2)] [] m (fun r m' => gx_to xs w0 (d + 1) yp_m242 196 [(0, .inr 86), (3, .inl x3)] (gx_rs r ++ []) m' Q))
    (h2 : (x1 ≤ x5) → (20 ≤ x3) → gx_to xs w0 d yp_m244 0 [(0, .inr 86), (1, .inl x2), (2, .inl (gx_w (x3 - 20)))] [] m (fun r m' => gx_to xs w0 (d + 1) yp_m242 190 [] (gx_rs r ++ []) m' Q))
    (h3 : (x5 < x1) → gx_to xs w0 (d + 1) yp_m242 117 [(0, .inr 86), (1, .inl x1), (2, .inl x2), (3, .inl x3), (5, .inl x5), (6, .inl 0)] [] m Q) : gx_to xs w0 (d + 1) yp_m242 108 [(0, .inr 86), (1, .inl x1), (2, .inl x2), (3, .inl x3), (5, .inl x5)] [] m Q := by
  refine gx_blk (C := True) (npc := 111) (L' := [(0, .inr 86), (1, .inl x1), (2, .inl x2), (3, .inl x3), (5, .inl x5)]) (st' := [.inl x1, .inl x5]) (m' := m) [((108, .iload 5, 2, 0, 0, 0, 0), (0, 0, 0)), ((110, .iload_n 1, 1, 0, 0, 0, 0), (0, 0, 0))] (by decide +kernel) rfl trivial ?_
  refine gx_cmp .ge 175 (by decide +kernel) (fun c1 => ?_) (fun c1 => ?_)
  · have c1 : x1 ≤ x5 := c1
    refine gx_blk (C := True) (npc := 178) (L' := [(0, .inr 86), (1, .inl x1), (2, .inl x2), (3, .inl x3), (5, .inl x5)]) (st' := [.inl 20, .inl x3]) (m' := m) [((175, .iload_n 3, 1, 0, 0, 0, 0), (0, 0, 0)), ((176, .bipush 20, 2, 0, 0, 0, 0), (0, 0, 0))] (by decide +kernel) rfl trivial ?_
    refine gx_cmp .lt 191 (by decide +kernel) (fun c2 => ?_) (fun c2 => ?_)
    · have c2 : x3 < 20 := c2
      refine gx_blk (C := True) (npc := 193) (L' := [(0, .inr 86), (1, .inl x1), (2, .inl x2), (3, .inl x3), (5, .inl x5)]) (st' := [.inl x2, .inr 86]) (m' := m) [((191, .aload_n 0, 1, 0, 0, 0, 0), (0, 0, 0)), ((192, .iload_n 2, 1, 0, 0, 0, 0), (0, 0, 0))] (by decide +kernel) rfl trivial ?_
      exact gx_callv (E := (193, .invokevirtual 355, 3, 245, 0, 7107, 0)) (M' := yp_m245) (c := 86) [.inl x2] [] rfl (by decide +kernel) rfl ⟨rfl, rfl⟩ rfl rfl (Nat.le_of_ble_eq_true rfl) (Nat.le_of_ble_eq_true rfl) (by decide +kernel) (gx_to_mono (h1 c1 c2) (fun r m' h' => gx_to_pick [0, 3] h'))
    · have c2 : 20 ≤ x3 := by have h : ¬ (x3 < 20) := c2; omega
      refine gx_blk (C := True) (npc := 187) (L' := [(0, .inr 86), (1, .inl x1), (2, .inl x2), (3, .inl x3), (5, .inl x5)]) (st' := [.inl (gx_w (x3 - 20)), .inl x2, .inr 86]) (m' := m) [((181, .aload_n 0, 1, 0, 0, 0, 0), (0, 0, 0)), ((182, .iload_n 2, 1, 0, 0, 0, 0), (0, 0, 0)), ((183, .iload_n 3, 1, 0, 0, 0, 0), (0, 0, 0)), ((184, .bipush 20, 2, 0, 0, 0, 0), (0, 0, 0)), ((186, .isub, 1, 0, 0, 0, 0), (0, 0, 0))] (by decide +kernel) rfl trivial ?_
      exact gx_callv (E := (187, .invokevirtual 364, 3, 244, 0, 7103, 0)) (M' := yp_m244) (c := 86) [.inl x2, .inl (gx_w (x3 - 20))] [] rfl (by decide +kernel) rfl ⟨rfl, rfl⟩ rfl rfl (Nat.le_of_ble_eq_true rfl) (Nat.le_of_ble_eq_true rfl) (by decide +kernel) (gx_to_mono (h2 c1 c2) (fun r m' h' => gx_to_pick [] h'))
  · have c1 : x5 < x1 := by have h : ¬ (x1 ≤ x5) := c1; omega
    refine gx_blk (C := True) (npc := 117) (L' := [(0, .inr 86), (1, .inl x1), (2, .inl x2), (3, .inl x3), (5, .inl x5), (6, .inl 0)]) (st' := []) (m' := m) [((114, .iconst 0, 1, 0, 0, 0, 0), (0, 0, 0)), ((115, .istore 6, 2, 0, 0, 0, 0), (0, 0, 0))] (by decide +kernel) rfl trivial ?_
    exact gx_to_pick [0, 1, 2, 3, 5, 6] (h3 c1)

/-- sold from 117 on -/
theorem gt242_117 {xs : List Int32} {w0 : sx_W} {d : Nat} {Q : gx_Q} {m : gx_M} {x1 x2 x3 x5 x6 : Int} (r_x1 : 1 ≤ x1 ∧ x1 ≤ 6) (r_x5 : 0 ≤ x5 ∧ x5 ≤ 5) (r_x6 : 0 ≤ x6 ∧ x6 ≤ 8)
    (h1 : (8 ≤ x6) → gx_to xs w0 (d + 1) yp_m242 108 [(0, .inr 86), (1, .inl x1), (2, .inl x2), (3, .inl x3), (5, .inl (x5 + 1))] [] m Q)
    (h2 : (x6 < 8) → gx_to xs w0 d yp_m165 0 [(0, .inl x2), (1, .inl x6)] [] m (fun r m' => gx_to xs w0 (d + 1) yp_m242 142 [(0, .inr 86), (1, .inl x1), (2, .inl x2), (3, .inl x3), (5, .inl x5), (6, .inl x6)] (gx_rs r ++ [.inl ((8 * x5) + x6), .inr 113]) m' Q)) : gx_to xs w0 (d + 1) yp_m242 117 [(0, .inr 86), (1, .inl x1), (2, .inl x2), (3, .inl x3), (5, .inl x5), (6, .inl x6)] [] m Q := by
  refine gx_blk (C := True) (npc := 121) (L' := [(0, .inr 86), (1, .inl x1), (2, .inl x2), (3, .inl x3), (5, .inl x5), (6, .inl x6)]) (st' := [.inl 8, .inl x6]) (m' := m) [((117, .iload 6, 2, 0, 0, 0, 0), (0, 0, 0)), ((119, .bipush 8, 2, 0, 0, 0, 0), (0, 0, 0))] (by decide +kernel) rfl trivial ?_
  refine gx_cmp .ge 169 (by decide +kernel) (fun c1 => ?_) (fun c1 => ?_)
  · have c1 : 8 ≤ x6 := c1
    have e1 : gx_w (x5 + 1) = x5 + 1 := gx_w_id (by omega) (by omega)
    refine gx_blk (C := True) (npc := 108) (L' := [(0, .inr 86), (1, .inl x1), (2, .inl x2), (3, .inl x3), (5, .inl (gx_w (x5 + 1))), (6, .inl x6)]) (st' := []) (m' := m) [((169, .iinc 5 1, 3, 0, 0, 0, 0), (0, 0, 0)), ((172, .goto (-64), 3, 0, 0, 0, 0), (0, 0, 0))] (by decide +kernel) rfl trivial ?_
    rw [e1]
    exact gx_to_pick [0, 1, 2, 3, 5] (h1 c1)
  · have c1 : x6 < 8 := by have h : ¬ (8 ≤ x6) := c1; omega
    have e2 : gx_w (8 * x5) = 8 * x5 := gx_w_id (by omega) (by omega)
    have e3 : gx_w ((8 * x5) + x6) = (8 * x5) + x6 := gx_w_id (by omega) (by omega)
    refine gx_blk (C := True) (npc := 139) (L' := [(0, .inr 86), (1, .inl x1), (2, .inl x2), (3, .inl x3), (5, .inl x5), (6, .inl x6)]) (st' := [.inl x6, .inl x2, .inl (gx_w ((gx_w (8 * x5)) + x6)), .inr 113]) (m' := m) [((124, .aload_n 0, 1, 0, 0, 0, 0), (0, 0, 0)), ((125, .getfield 89, 3, 10, 40, 5153, 0), (1, 86, 113)), ((128, .bipush 8, 2, 0, 0, 0, 0), (0, 0, 0)), ((130, .iload 5, 2, 0, 0, 0, 0), (0, 0, 0)), ((132, .imul, 1, 0, 0, 0, 0), (0, 0, 0)), ((133, .iload 6, 2, 0, 0, 0, 0), (0, 0, 0)), ((135, .iadd, 1, 0, 0, 0, 0), (0, 0, 0)), ((136, .iload_n 2, 1, 0, 0, 0, 0), (0, 0, 0)), ((137, .iload 6, 2, 0, 0, 0, 0), (0, 0, 0))] (by decide +kernel) rfl trivial ?_
    rw [e2, e3]
    exact gx_calls (E := (139, .invokestatic 104, 3, 165, 0, 6035, 0)) (M' := yp_m165) [.inl x2, .inl x6] [.inl ((8 * x5) + x6), .inr 113] rfl (by decide +kernel) rfl ⟨rfl, rfl⟩ rfl rfl (Nat.le_of_ble_eq_true rfl) (Nat.le_of_ble_eq_true rfl) rfl (gx_to_mono (h2 c1) (fun r m' h' => gx_to_pick [0, 1, 2, 3, 5, 6] h'))

/-- sold from 142 on -/
theorem gt242_142 {xs : List Int32} {w0 : sx_W} {d : Nat} {Q : gx_Q} {m : gx_M} {x1 x2 x3 x5 x6 s1 s2 : Int} (hI : gx_I m) (r_x1 : 1 ≤ x1 ∧ x1 ≤ 6) (r_x5 : 0 ≤ x5 ∧ x5 ≤ 5) (r_x6 : 0 ≤ x6 ∧ x6 ≤ 7) (r_s1 : 0 ≤ s1 ∧ s1 ≤ 63)
    (h1 : (s2 = 0) → gx_to xs w0 (d + 1) yp_m242 117 [(0, .inr 86), (1, .inl x1), (2, .inl x2), (3, .inl x3), (5, .inl x5), (6, .inl (x6 + 1))] [] (gx_u m 113 (s1).toNat 0) Q)
    (h2 : (s2 ≠ 0) → gx_to xs w0 d yp_m224 0 [(0, .inr 86), (1, .inl (m 112 (x5).toNat)), (2, .inl x6)] [] m (fun r m' => gx_to xs w0 (d + 1) yp_m242 158 [(0, .inr 86), (1, .inl x1), (2, .inl x2), (3, .inl x3), (5, .inl x5), (6, .inl x6)] (gx_rs r ++ [.inl s1, .inr 113]) m' Q)) : gx_to xs w0 (d + 1) yp_m242 142 [(0, .inr 86), (1, .inl x1), (2, .inl x2), (3, .inl x3), (5, .inl x5), (6, .inl x6)] [.inl s2, .inl s1, .inr 113] m Q := by
  refine gx_if .eq 161 (by decide +kernel) (fun c1 => ?_) (fun c1 => ?_)
  · have c1 : s2 = 0 := c1
    have e1 : gx_w (x6 + 1) = x6 + 1 := gx_w_id (by omega) (by omega)
    refine gx_blk (C := (True ∧ (0 ≤ s1 ∧ s1 < 64))) (npc := 117) (L' := [(0, .inr 86), (1, .inl x1), (2, .inl x2), (3, .inl x3), (5, .inl x5), (6, .inl (gx_w (x6 + 1)))]) (st' := []) (m' := (gx_u m 113 (s1).toNat 0)) [((161, .iconst 0, 1, 0, 0, 0, 0), (0, 0, 0)), ((162, .iastore, 1, 0, 0, 0, 0), (0, 113, 64)), ((163, .iinc 6 1, 3, 0, 0, 0, 0), (0, 0, 0)), ((166, .goto (-49), 3, 0, 0, 0, 0), (0, 0, 0))] (by decide +kernel) rfl ⟨trivial, (by omega)⟩ ?_
    rw [e1]
    exact gx_to_pick [0, 1, 2, 3, 5, 6] (h1 c1)
  · have c1 : s2 ≠ 0 := c1
    have f2 := gx_I_at hI 112 (z := x5) 0 5 0 39 (by decide +kernel) (by omega) (by omega)
    refine gx_blk (C := (True ∧ (0 ≤ x5 ∧ x5 < 8))) (npc := 155) (L' := [(0, .inr 86), (1, .inl x1), (2, .inl x2), (3, .inl x3), (5, .inl x5), (6, .inl x6)]) (st' := [.inl x6, .inl (m 112 (x5).toNat), .inr 86, .inl s1, .inr 113]) (m' := m) [((145, .aload_n 0, 1, 0, 0, 0, 0), (0, 0, 0)), ((146, .aload_n 0, 1, 0, 0, 0, 0), (0, 0, 0)), ((147, .getfield 86, 3, 10, 39, 5152, 0), (1, 86, 112)), ((150, .iload 5, 2, 0, 0, 0, 0), (0, 0, 0)), ((152, .iaload, 1, 0, 0, 0, 0), (0, 112, 8)), ((153, .iload 6, 2, 0, 0, 0, 0), (0, 0, 0))] (by decide +kernel) rfl ⟨trivial, (by omega)⟩ ?_
    exact gx_callv (E := (155, .invokevirtual 312, 3, 224, 0, 7024, 0)) (M' := yp_m224) (c := 86) [.inl (m 112 (x5).toNat), .inl x6] [.inl s1, .inr 113] rfl (by decide +kernel) rfl ⟨rfl, rfl⟩ rfl rfl (Nat.le_of_ble_eq_true rfl) (Nat.le_of_ble_eq_true rfl) (by decide +kernel) (gx_to_mono (h2 c1) (fun r m' h' => gx_to_pick [0, 1, 2, 3, 5, 6] h'))

/-- sold from 158 on -/
theorem gt242_158 {xs : List Int32} {w0 : sx_W} {d : Nat} {Q : gx_Q} {m : gx_M} {x1 x2 x3 x5 x6 s1 s2 : Int} (r_x1 : 1 ≤ x1 ∧ x1 ≤ 6) (r_x5 : 0 ≤ x5 ∧ x5 ≤ 5) (r_x6 : 0 ≤ x6 ∧ x6 ≤ 7) (r_s1 : 0 ≤ s1 ∧ s1 ≤ 63)
    (h1 : gx_to xs w0 d yp_m242 117 [(0, .inr 86), (1, .inl x1), (2, .inl x2), (3, .inl x3), (5, .inl x5), (6, .inl (x6 + 1))] [] (gx_u m 113 (s1).toNat s2) Q) : gx_to xs w0 d yp_m242 158 [(0, .inr 86), (1, .inl x1), (2, .inl x2), (3, .inl x3), (5, .inl x5), (6, .inl x6)] [.inl s2, .inl s1, .inr 113] m Q := by
  have e1 : gx_w (x6 + 1) = x6 + 1 := gx_w_id (by omega) (by omega)
  refine gx_blk (C := (True ∧ (0 ≤ s1 ∧ s1 < 64))) (npc := 117) (L' := [(0, .inr 86), (1, .inl x1), (2, .inl x2), (3, .inl x3), (5, .inl x5), (6, .inl (gx_w (x6 + 1)))]) (st' := []) (m' := (gx_u m 113 (s1).toNat s2)) [((158, .goto 4, 3, 0, 0, 0, 0), (0, 0, 0)), ((162, .iastore, 1, 0, 0, 0, 0), (0, 113, 64)), ((163, .iinc 6 1, 3, 0, 0, 0, 0), (0, 0, 0)), ((166, .goto (-49), 3, 0, 0, 0, 0), (0, 0, 0))] (by decide +kernel) rfl ⟨trivial, (by omega)⟩ ?_
  rw [e1]
  exact gx_to_pick [0, 1, 2, 3, 5, 6] h1

/-- sold from 190 on -/
theorem gt242_190 {xs : List Int32} {w0 : sx_W} {d : Nat} {Q : gx_Q} {m : gx_M} {s0 : Int}
    (h1 : Q (some s0) m) : gx_to xs w0 d yp_m242 190 [] [.inl s0] m Q := by
  exact gx_reti (by decide +kernel) h1

/-- sold from 196 on -/
theorem gt242_196 {xs : List Int32} {w0 : sx_W} {d : Nat} {Q : gx_Q} {m : gx_M} {x3 s0 : Int}
    (h1 : (x3 ≠ 10) → gx_to xs w0 d yp_m247 0 [(0, .inr 86), (1, .inl x3)] [] m (fun r m' => gx_to xs w0 (d + 1) yp_m242 214 [] (gx_rs r ++ []) m' Q))
    (h2 : (x3 = 10) → gx_to xs w0 (d + 1) yp_m242 214 [] [.inl s0] m Q) : gx_to xs w0 (d + 1) yp_m242 196 [(0, .inr 86), (3, .inl x3)] [.inl s0] m Q := by
  refine gx_blk (C := True) (npc := 201) (L' := [(0, .inr 86), (3, .inl x3), (5, .inl s0)]) (st' := [.inl 10, .inl x3]) (m' := m) [((196, .istore 5, 2, 0, 0, 0, 0), (0, 0, 0)), ((198, .iload_n 3, 1, 0, 0, 0, 0), (0, 0, 0)), ((199, .bipush 10, 2, 0, 0, 0, 0), (0, 0, 0))] (by decide +kernel) rfl trivial ?_
  refine gx_cmp .ne 209 (by decide +kernel) (fun c1 => ?_) (fun c1 => ?_)
  · have c1 : x3 ≠ 10 := c1
    refine gx_blk (C := True) (npc := 211) (L' := [(0, .inr 86), (3, .inl x3), (5, .inl s0)]) (st' := [.inl x3, .inr 86]) (m' := m) [((209, .aload_n 0, 1, 0, 0, 0, 0), (0, 0, 0)), ((210, .iload_n 3, 1, 0, 0, 0, 0), (0, 0, 0))] (by decide +kernel) rfl trivial ?_
    exact gx_callv (E := (211, .invokevirtual 358, 3, 247, 0, 7115, 0)) (M' := yp_m247) (c := 86) [.inl x3] [] rfl (by decide +kernel) rfl ⟨rfl, rfl⟩ rfl rfl (Nat.le_of_ble_eq_true rfl) (Nat.le_of_ble_eq_true rfl) (by decide +kernel) (gx_to_mono (h1 c1) (fun r m' h' => gx_to_pick [] h'))
  · have c1 : x3 = 10 := by have h : ¬ (x3 ≠ 10) := c1; omega
    refine gx_blk (C := True) (npc := 214) (L' := [(0, .inr 86), (3, .inl x3), (5, .inl s0)]) (st' := [.inl s0]) (m' := m) [((204, .iload 5, 2, 0, 0, 0, 0), (0, 0, 0)), ((206, .goto 8, 3, 0, 0, 0, 0), (0, 0, 0))] (by decide +kernel) rfl trivial ?_
    exact gx_to_pick [] (h2 c1)

/-- sold from 214 on -/
theorem gt242_214 {xs : List Int32} {w0 : sx_W} {d : Nat} {Q : gx_Q} {m : gx_M} {s0 : Int}
    (h1 : Q (some s0) m) : gx_to xs w0 d yp_m242 214 [] [.inl s0] m Q := by
  exact gx_reti (by decide +kernel) h1
end
section
/-! sold -/
theorem gx_or_bd : ∀ s : Nat, s < 256 → ∀ p : Nat, p < 8 → 0 ≤ gx_or (s : Int) (gx_shl 1 (p : Int)) ∧ gx_or (s : Int) (gx_shl 1 (p : Int)) ≤ 255 := by decide +kernel
theorem gx_or_bdI {s p : Int} (h1 : 0 ≤ s) (h2 : s ≤ 255) (h3 : 0 ≤ p) (h4 : p ≤ 7) : 0 ≤ gx_or s (gx_shl 1 p) ∧ gx_or s (gx_shl 1 p) ≤ 255 := by
  have := gx_or_bd s.toNat (by omega) p.toNat (by omega)
  rwa [show ((s.toNat : Nat) : Int) = s by omega, show ((p.toNat : Nat) : Int) = p by omega] at this
def gs_by (m : gx_M) (k p s : Int) : Int := if p = 8 then m 114 (256 * (k + 1) + s).toNat else if gx_and (gx_shr (m 86 38) p) 1 = 1 then (if gx_and (gx_shr s p) 1 = 1 then -1 else if m 87 (240 + m 112 k.toNat).toNat = p then -1 else gx_w (m 113 (8 * k + p).toNat + m 114 (256 * (k + 1) + gx_or s (gx_shl 1 p)).toNat)) else -1
theorem gs_by_up {m : gx_M} {k p s v : Int} {i : Nat} (h1 : 0 ≤ k) (h2 : 0 ≤ s) (h2' : s ≤ 255) (hp : 0 ≤ p) (hp' : p ≤ 8) (hi : (i : Int) < 256 * (k + 1)) : gs_by (gx_u m 114 i v) k p s = gs_by m k p s := by
  unfold gs_by
  by_cases h8 : p = 8
  · rw [if_pos h8, if_pos h8, gx_u_ne (fun e => by omega)]
  · have hb := gx_or_bdI h2 h2' hp (by omega)
    rw [if_neg h8, if_neg h8, gx_u_off (by decide : (86 : Nat) ≠ 114), gx_u_off (by decide : (87 : Nat) ≠ 114), gx_u_off (by decide : (112 : Nat) ≠ 114), gx_u_off (by decide : (113 : Nat) ≠ 114), gx_u_ne (c' := 114) (k' := (256 * (k + 1) + gx_or s (gx_shl 1 p)).toNat) (fun e => by omega)]
/-- the best of a year and a set is what somebody comes to, and isn't below 0 -/
def gs_at (m : gx_M) (k s : Int) : Prop := 0 ≤ m 114 (256 * k + s).toNat ∧ ∃ p : Int, 0 ≤ p ∧ p ≤ 8 ∧ gs_by m k p s = m 114 (256 * k + s).toNat
section GSD
variable {xs : List Int32} {w0 : sx_W} {d : Nat} {Q : gx_Q} {m : gx_M}
theorem gc_soldBy (hI : gx_I m) {k p s : Int} (hk : 0 ≤ k ∧ k ≤ 5) (hp : 0 ≤ p ∧ p ≤ 8) (hs : 0 ≤ s ∧ s ≤ 255) (hQ : Q (some (gs_by m k p s)) m) : gx_to xs w0 (d + 1) yp_m246 0 [(0, .inr 86), (1, .inl k), (2, .inl p), (3, .inl s)] [] m Q := by
  unfold gs_by at hQ
  refine gt246_0 hk hp hs (fun c => ?_) (fun c => by rw [if_pos c] at hQ; exact hQ)
  rw [if_neg c] at hQ
  have hb := gx_or_bdI hs.1 hs.2 hp.1 (by omega)
  refine gc_has (fun h1 => ?_) (fun h1 => ?_)
  · unfold gx_has at h1
    rw [if_pos h1] at hQ
    refine gt246_29 hk (by omega) hs (fun e => by omega) (fun _ => gc_has (fun h2 => ?_) (fun h2 => ?_))
    · unfold gx_has at h2
      rw [if_pos h2] at hQ
      exact gt246_37 hI hk (by omega) hs (fun _ => hQ) (fun e => by omega) (fun e => by omega) (fun e => by omega)
    · unfold gx_has at h2
      rw [if_neg h2] at hQ
      have hw : gx_w (256 * (k + 1) + gx_or s (gx_shl 1 p)) = 256 * (k + 1) + gx_or s (gx_shl 1 p) := gx_w_id (by omega) (by omega)
      refine gt246_37 hI hk (by omega) hs (fun e => absurd rfl e) (fun _ _ => by rw [hw]; omega) (fun _ e => ?_) (fun _ e => by rw [if_pos e] at hQ; exact hQ)
      rw [if_neg e] at hQ
      rw [hw]
      exact hQ
  · unfold gx_has at h1
    rw [if_neg h1] at hQ
    exact gt246_29 hk (by omega) hs (fun _ => hQ) (fun e => absurd rfl e)
def gx_lay : bx_M := [(86, 38, 39), (114, 0, 1792)]
/-- all the bests of the years behind k stand -/
def gs_ok (n : Nat) (k : Int) (m : gx_M) : Prop := (∀ s : Int, 0 ≤ s → s ≤ 255 → 0 ≤ m 114 (256 * (n : Int) + s).toNat) ∧ ∀ k' : Int, k < k' → k' < n → ∀ s : Int, 0 ≤ s → s ≤ 255 → gs_at m k' s
def gs_st (m0 : gx_M) (n : Nat) (m : gx_M) : Prop := gx_I m ∧ gx_fw gx_lay m0 m ∧ m 86 37 = n
theorem gs_ok.nn {n : Nat} {k : Int} {m : gx_M} (h : gs_ok n k m) (h0 : 0 ≤ k) (hk : k < n) {s : Int} (h1 : 0 ≤ s) (h2 : s ≤ 255) : 0 ≤ m 114 (256 * (k + 1) + s).toNat := by
  by_cases e : k + 1 = n
  · rw [e]; exact h.1 s h1 h2
  · exact (h.2 (k + 1) (by omega) (by omega) s h1 h2).1
theorem gs_rg {m : gx_M} (hI : gx_I m) (i : Nat) (hi : i < 1792) : -2147483648 ≤ m 114 i ∧ m 114 i ≤ 2147483647 := by
  have := gx_I_at hI 114 (z := (i : Int)) 0 1791 (-2147483648) 2147483647 (by decide +kernel) (by omega) (by omega)
  rwa [Int.toNat_natCast] at this
theorem gs_by_rg {m : gx_M} (hI : gx_I m) {k p s : Int} (hk : 0 ≤ k ∧ k ≤ 5) (hs : 0 ≤ s ∧ s ≤ 255) : -2147483648 ≤ gs_by m k p s ∧ gs_by m k p s ≤ 2147483647 := by
  unfold gs_by
  split
  · exact gs_rg hI _ (by omega)
  · split
    · split
      · omega
      · split
        · omega
        · exact gx_w_bd _
    · omega
theorem gs_w {m0 m : gx_M} {n : Nat} (hs : gs_st m0 n m) {z v : Int} (h1 : 0 ≤ z) (h2 : z < 1792) (h3 : -2147483648 ≤ v ∧ v ≤ 2147483647) : gs_st m0 n (gx_u m 114 z.toNat v) :=
  ⟨gx_I_w hs.1 114 (z := z) 0 1791 (-2147483648) 2147483647 (by decide +kernel) h1 (by omega) h3.1 h3.2, hs.2.1.w ⟨(114, 0, 1792), by simp [gx_lay], rfl, Nat.zero_le _, by show z.toNat < 1792; omega⟩, by rw [gx_u_off (by decide : (86 : Nat) ≠ 114)]; exact hs.2.2⟩
theorem gl_lay62 {m0 : gx_M} {n : Nat} (hn : 1 ≤ n ∧ n ≤ 6) {k s : Int} (hk : 0 ≤ k ∧ k < n) (hss : 0 ≤ s ∧ s ≤ 255) (hs : gs_st m0 n m) (hok : gs_ok n k m) (hrow : ∀ s' : Int, 0 ≤ s' → s' < s → gs_at m k s') (hQ : ∀ m', gs_st m0 n m' → gs_ok n k m' → (∀ s' : Int, 0 ≤ s' → s' < s + 1 → gs_at m' k s') → gx_to xs w0 (d + 2) yp_m245 49 [(0, .inr 86), (2, .inl k), (3, .inl (s + 1))] [] m' Q) : ∀ (j : Nat) (b p : Int), 9 - p = j → 0 ≤ p → 0 ≤ b → b ≤ 2147483647 → (b = 0 ∨ ∃ p' : Int, 0 ≤ p' ∧ p' < p ∧ gs_by m k p' s = b) → (∀ p' : Int, 0 ≤ p' → p' < p → gs_by m k p' s ≤ b) → gx_to xs w0 (d + 2) yp_m245 62 [(0, .inr 86), (2, .inl k), (3, .inl s), (4, .inl b), (5, .inl p)] [] m Q := by
  have hg : 1 ≤ m 86 37 ∧ m 86 37 ≤ 6 := by rw [hs.2.2]; omega
  intro j
  induction j with
  | zero =>
    intro b p hj hp hb hb' hin hle
    have e9 : p = 9 := by omega
    subst e9
    refine gt245_62 (by omega) hss (by omega) hg (fun _ => hQ _ (gs_w hs (by omega) (by omega) (by omega)) ⟨fun s' h1 h2 => ?_, fun k' h1 h2 s' h3 h4 => ?_⟩ (fun s' h1 h2 => ?_)) (fun c => by omega)
    · rw [gx_u_ne (fun e => by omega)]
      exact hok.1 s' h1 h2
    · obtain ⟨g1, p', g2, g3, g4⟩ := hok.2 k' h1 h2 s' h3 h4
      have e : gx_u m 114 (256 * k + s).toNat b 114 (256 * k' + s').toNat = m 114 (256 * k' + s').toNat := gx_u_ne (fun e => by omega)
      unfold gs_at
      rw [e]
      exact ⟨g1, p', g2, g3, by rw [gs_by_up (by omega) h3 h4 g2 g3 (by omega)]; exact g4⟩
    · by_cases es : s' = s
      · subst es
        unfold gs_at
        rw [gx_u_self]
        refine ⟨hb, ?_⟩
        have hex : ∃ p' : Int, 0 ≤ p' ∧ p' ≤ 8 ∧ gs_by m k p' s' = b := by
          rcases hin with e0 | ⟨p', g1, g2, g3⟩
          · have h8 := hle 8 (by omega) (by omega)
            have hnn := hok.nn hk.1 hk.2 h1 (by omega : s' ≤ 255)
            have e8 : gs_by m k 8 s' = m 114 (256 * (k + 1) + s').toNat := if_pos rfl
            exact ⟨8, by omega, by omega, by omega⟩
          · exact ⟨p', g1, by omega, g3⟩
        obtain ⟨p', g1, g2, g3⟩ := hex
        exact ⟨p', g1, g2, by rw [gs_by_up hk.1 h1 (by omega) g1 g2 (by omega)]; exact g3⟩
      · obtain ⟨g1, p', g2, g3, g4⟩ := hrow s' h1 (by omega)
        have e : gx_u m 114 (256 * k + s).toNat b 114 (256 * k + s').toNat = m 114 (256 * k + s').toNat := gx_u_ne (fun e => by omega)
        unfold gs_at
        rw [e]
        exact ⟨g1, p', g2, g3, by rw [gs_by_up hk.1 h1 (by omega) g2 g3 (by omega)]; exact g4⟩
  | succ j ih =>
    intro b p hj hp hb hb' hin hle
    have hr := gs_by_rg hs.1 (k := k) (p := p) (s := s) (by omega) hss
    refine gt245_62 (by omega) hss (by omega) hg (fun c => by omega) (fun c => gc_soldBy hs.1 (by omega) (by omega) hss (gt245_77 (by omega) hss (by omega) hg (fun c1 => ?_) (fun c1 => gc_soldBy hs.1 (by omega) (by omega) hss (gt245_90 (by omega) hss (by omega) hg ?_))))
    · refine ih b (p + 1) (by omega) (by omega) hb hb' ?_ (fun p' h1 h2 => ?_)
      · rcases hin with e0 | ⟨p', g1, g2, g3⟩
        · exact .inl e0
        · exact .inr ⟨p', g1, by omega, g3⟩
      · by_cases e : p' = p
        · rw [e]; exact c1
        · exact hle p' h1 (by omega)
    · refine ih _ (p + 1) (by omega) (by omega) (by omega) hr.2 (.inr ⟨p, hp, by omega, rfl⟩) (fun p' h1 h2 => ?_)
      by_cases e : p' = p
      · rw [e]; exact Int.le_refl _
      · have := hle p' h1 (by omega)
        omega
theorem gl_lay49 {m0 : gx_M} {n : Nat} (hn : 1 ≤ n ∧ n ≤ 6) {k : Int} (hk : 0 ≤ k ∧ k < n) (hQ : ∀ m', gs_st m0 n m' → gs_ok n (k + (-1)) m' → gx_to xs w0 (d + 2) yp_m245 43 [(0, .inr 86), (2, .inl (k + (-1)))] [] m' Q) : ∀ (j : Nat) (s : Int) (m : gx_M), 256 - s = j → 0 ≤ s → gs_st m0 n m → gs_ok n k m → (∀ s' : Int, 0 ≤ s' → s' < s → gs_at m k s') → gx_to xs w0 (d + 2) yp_m245 49 [(0, .inr 86), (2, .inl k), (3, .inl s)] [] m Q := by
  intro j
  induction j with
  | zero =>
    intro s m hj h0 hs hok hrow
    have hg : 1 ≤ m 86 37 ∧ m 86 37 ≤ 6 := by rw [hs.2.2]; omega
    refine gt245_49 (by omega) (by omega) hg (fun _ => hQ m hs ⟨hok.1, fun k' h1 h2 s' h3 h4 => ?_⟩) (fun c => by omega)
    by_cases e : k' = k
    · rw [e]; exact hrow s' h3 (by omega)
    · exact hok.2 k' (by omega) h2 s' h3 h4
  | succ j ih =>
    intro s m hj h0 hs hok hrow
    have hg : 1 ≤ m 86 37 ∧ m 86 37 ≤ 6 := by rw [hs.2.2]; omega
    exact gt245_49 (by omega) (by omega) hg (fun c => by omega) (fun c => gl_lay62 hn hk (by omega) hs hok hrow (fun m' g1 g2 g3 => ih (s + 1) m' (by omega) (by omega) g1 g2 g3) 9 0 0 (by omega) (by omega) (by omega) (by omega) (.inl rfl) (fun p' h1 h2 => by omega))
theorem gl_lay43 {m0 : gx_M} {n : Nat} (hn : 1 ≤ n ∧ n ≤ 6) (hQ : ∀ v m', gs_st m0 n m' → gs_ok n (-1) m' → Q (some v) m') : ∀ (j : Nat) (k : Int) (m : gx_M), k + 1 = j → k < n → gs_st m0 n m → gs_ok n k m → gx_to xs w0 (d + 2) yp_m245 43 [(0, .inr 86), (2, .inl k)] [] m Q := by
  intro j
  induction j with
  | zero =>
    intro k m hj hk hs hok
    have e : k = -1 := by omega
    subst e
    have hg : 1 ≤ m 86 37 ∧ m 86 37 ≤ 6 := by rw [hs.2.2]; omega
    exact gt245_43 (by omega) hg (fun _ => hQ _ m hs hok) (fun c => by omega)
  | succ j ih =>
    intro k m hj hk hs hok
    have hg : 1 ≤ m 86 37 ∧ m 86 37 ≤ 6 := by rw [hs.2.2]; omega
    exact gt245_43 (by omega) hg (fun c => by omega) (fun c => gl_lay49 hn (by omega) (fun m' g1 g2 => ih _ m' (by omega) (by omega) g1 g2) 256 0 m (by omega) (by omega) hs hok (fun s' h1 h2 => by omega))
theorem gl_lay7 {m0 : gx_M} {n : Nat} (hn : 1 ≤ n ∧ n ≤ 6) (hQ : ∀ v m', gs_st m0 n m' → gs_ok n (-1) m' → Q (some v) m') : ∀ (j : Nat) (s : Int) (m : gx_M), 256 - s = j → 0 ≤ s → gs_st m0 n m → (∀ s' : Int, 0 ≤ s' → s' < s → 0 ≤ m 114 (256 * (n : Int) + s').toNat) → gx_to xs w0 (d + 2) yp_m245 7 [(0, .inr 86), (2, .inl s)] [] m Q := by
  intro j
  induction j with
  | zero =>
    intro s m hj h0 hs hz
    have hg : 1 ≤ m 86 37 ∧ m 86 37 ≤ 6 := by rw [hs.2.2]; omega
    refine gt245_7 hs.1 (by omega) hg (fun _ => ?_) (fun c => by omega)
    rw [hs.2.2]
    exact gl_lay43 hn hQ n _ m (by omega) (by omega) hs ⟨fun s' h1 h2 => hz s' h1 (by omega), fun k' h1 h2 => by omega⟩
  | succ j ih =>
    intro s m hj h0 hs hz
    have hg : 1 ≤ m 86 37 ∧ m 86 37 ≤ 6 := by rw [hs.2.2]; omega
    refine gt245_7 hs.1 (by omega) hg (fun c => by omega) (fun c => ih (s + 1) _ (by omega) (by omega) (gs_w hs (by omega) (by omega) (by omega)) (fun s' h1 h2 => ?_))
    rw [hs.2.2]
    by_cases e : s' = s
    · rw [e, gx_u_self]; exact Int.le_refl _
    · rw [gx_u_ne (fun e => by omega)]
      exact hz s' h1 (by omega)
theorem gc_laysSold {n : Nat} (hn : 1 ≤ n ∧ n ≤ 6) (hI : gx_I m) (h37 : m 86 37 = n) {people : Int} (hp : -2147483648 ≤ people ∧ people ≤ 2147483647) (hQ : ∀ v m', gs_st m n m' → gs_ok n (-1) m' → Q (some v) m') : gx_to xs w0 (d + 2) yp_m245 0 [(0, .inr 86), (1, .inl people)] [] m Q :=
  gt245_0 (by omega) (gl_lay7 hn hQ 256 0 _ (by omega) (by omega) ⟨gx_I_w hI 86 (z := 38) 38 38 (-2147483648) 2147483647 (by decide +kernel) (by omega) (by omega) hp.1 hp.2, gx_fw.rf.w ⟨(86, 38, 39), by simp [gx_lay], rfl, Nat.le_refl _, by decide⟩, by rw [gx_u_ne (by decide)]; exact h37⟩ (fun s' h1 h2 => by omega))
theorem gl_gets16 {n : Nat} (hn : 1 ≤ n ∧ n ≤ 6) (hI : gx_I m) {pl k s t : Int} (hpl : 0 ≤ pl ∧ pl ≤ 5) (hk : 0 ≤ k ∧ k ≤ 5) (hs : 0 ≤ s ∧ s ≤ 255) (ht : 0 ≤ t ∧ t ≤ 8) (hat : gs_by m k t s = m 114 (256 * k + s).toNat) (hQ : ∀ p s' : Int, 0 ≤ p → p ≤ 8 → 0 ≤ s' → s' ≤ 255 → gx_to xs w0 (d + 2) yp_m247 8 [(0, .inr 86), (1, .inl pl), (2, .inl s'), (3, .inl p), (4, .inl (k + 1))] [] m Q) : ∀ (j : Nat) (p : Int), t - p = j → 0 ≤ p → p ≤ t → gx_to xs w0 (d + 2) yp_m247 16 [(0, .inr 86), (1, .inl pl), (2, .inl s), (3, .inl p), (4, .inl k)] [] m Q := by
  intro j
  induction j with
  | zero =>
    intro p hj h0 hle
    have e : p = t := by omega
    subst e
    refine gt247_16 hpl hs ht hk (gc_soldBy hI hk ht hs (gt247_24 hpl hs ht hk (fun _ c => ?_) (fun _ c => hQ _ _ ht.1 ht.2 hs.1 hs.2) (fun c => absurd hat c)))
    have hb := gx_or_bdI hs.1 hs.2 ht.1 (by omega)
    exact hQ _ _ ht.1 ht.2 hb.1 hb.2
  | succ j ih =>
    intro p hj h0 hle
    refine gt247_16 hpl hs (by omega) hk (gc_soldBy hI hk (by omega) hs (gt247_24 hpl hs (by omega) hk (fun _ c => ?_) (fun _ c => hQ _ _ h0 (by omega) hs.1 hs.2) (fun _ => ih (p + 1) (by omega) (by omega) (by omega))))
    have hb := gx_or_bdI hs.1 hs.2 h0 (by omega)
    exact hQ _ _ h0 (by omega) hb.1 hb.2
theorem gl_gets8 {n : Nat} (hn : 1 ≤ n ∧ n ≤ 6) (hI : gx_I m) (hok : gs_ok n (-1) m) {pl : Int} (hpl : 0 ≤ pl ∧ pl < n) (hQ : ∀ p : Int, Q (some p) m) : ∀ (j : Nat) (k s p : Int), pl + 1 - k = j → 0 ≤ k → 0 ≤ s → s ≤ 255 → gx_to xs w0 (d + 2) yp_m247 8 [(0, .inr 86), (1, .inl pl), (2, .inl s), (3, .inl p), (4, .inl k)] [] m Q := by
  intro j
  induction j with
  | zero => exact fun k s p hj h0 h1 h2 => gt247_8 (by omega) (by omega) (by omega) (fun _ => hQ p) (fun c => by omega)
  | succ j ih =>
    intro k s p hj h0 h1 h2
    refine gt247_8 (by omega) (by omega) (by omega) (fun c => by omega) (fun c => ?_)
    obtain ⟨-, t, g1, g2, g3⟩ := hok.2 k (by omega) (by omega) s h1 h2
    exact gl_gets16 hn hI (by omega) (by omega) (by omega) (by omega) g3 (fun p' s' _ _ h3 h4 => ih (k + 1) s' p' (by omega) (by omega) h3 h4) t.toNat 0 (by omega) (by omega) g1
theorem gc_gets {n : Nat} (hn : 1 ≤ n ∧ n ≤ 6) (hI : gx_I m) (hok : gs_ok n (-1) m) {pl : Int} (hpl : 0 ≤ pl ∧ pl < n) (hQ : ∀ p : Int, Q (some p) m) : gx_to xs w0 (d + 2) yp_m247 0 [(0, .inr 86), (1, .inl pl)] [] m Q :=
  gt247_0 (gl_gets8 hn hI hok hpl hQ (pl + 1).toNat 0 0 8 (by omega) (by omega) (by omega) (by omega))
theorem gl_pays {m0 : gx_M} {n : Nat} (hn : 1 ≤ n ∧ n ≤ 6) (hs : gs_st m0 n m) (hok : gs_ok n (-1) m) {people p all : Int} (hp : 0 ≤ p ∧ p ≤ 7) (hQ : ∀ v m', gs_st m0 n m' → Q (some v) m') : ∀ (j : Nat) (own k : Int), n - k = j → 0 ≤ k → gx_to xs w0 (d + 3) yp_m244 12 [(0, .inr 86), (1, .inl people), (2, .inl p), (3, .inl all), (4, .inl own), (5, .inl k)] [] m Q := by
  have h37 := hs.2.2
  have hlast : gx_to xs w0 (d + 2) yp_m245 0 [(0, .inr 86), (1, .inl (gx_and people (gx_xor (gx_shl 1 p) (-1))))] [] m (fun r m' => ∃ v, r = some v ∧ gs_st m0 n m') := gc_laysSold hn hs.1 h37 ⟨ax_lo _, ax_hi _⟩ (fun v m' g1 _ => ⟨v, rfl, g1.1, hs.2.1.tr g1.2.1, g1.2.2⟩)
  intro j
  induction j with
  | zero =>
    intro own k hj h0
    exact gt244_12 hs.1 hp (by omega) (fun _ => gx_to_mono hlast (fun r m' ⟨v, e, g⟩ => by subst e; exact gt244_69 (hQ _ m' g))) (fun c => by omega)
  | succ j ih =>
    intro own k hj h0
    exact gt244_12 hs.1 hp (by omega) (fun c => by omega) (fun c => gc_gets hn hs.1 hok (by omega) (fun q => gt244_29 hs.1 hp (by omega) (fun _ => ih _ (k + 1) (by omega) (by omega)) (fun _ => ih _ (k + 1) (by omega) (by omega))))
theorem gc_pays {n : Nat} (hn : 1 ≤ n ∧ n ≤ 6) (hI : gx_I m) (h37 : m 86 37 = n) {people p : Int} (hpp : -2147483648 ≤ people ∧ people ≤ 2147483647) (hp : 0 ≤ p ∧ p ≤ 7) (hQ : ∀ v m', gs_st m n m' → Q (some v) m') : gx_to xs w0 (d + 3) yp_m244 0 [(0, .inr 86), (1, .inl people), (2, .inl p)] [] m Q :=
  gt244_0 hp (gc_laysSold hn hI h37 hpp (fun v m' g1 g2 => gt244_5 hp (gl_pays hn g1 g2 hp (fun v m'' g3 => hQ v m'' g3) n 0 0 (by omega) (by omega))))
end GSD
end
section
/-! sold, 2 -/
section GSE
variable {xs : List Int32} {w0 : sx_W} {d : Nat} {Q : gx_Q} {m : gx_M}
def gx_tk : bx_M := [(86, 37, 38), (112, 0, 8)]
def gs_tk (m0 : gx_M) (n : Int) (m : gx_M) : Prop := gx_I m ∧ gx_fw gx_tk m0 m ∧ m 86 37 = n
theorem gl_tk44 {m0 : gx_M} {n k y : Int} (hn : 1 ≤ n ∧ n ≤ 8) (hk : 0 ≤ k ∧ k ≤ 7) (hy : 0 ≤ y ∧ y ≤ 39) (hs : gs_tk m0 n m) (hQ0 : Q (some 0) m) (hQ : ∀ m', gs_tk m0 n m' → gx_to xs w0 (d + 1) yp_m243 7 [(0, .inr 86), (1, .inl n), (2, .inl (k + 1))] [] m' Q) : ∀ (j : Nat) (q : Int), k - q = j → 0 ≤ q → gx_to xs w0 (d + 1) yp_m243 44 [(0, .inr 86), (1, .inl n), (2, .inl k), (3, .inl y), (4, .inl q)] [] m Q := by
  have hw : gs_tk m0 n (gx_u m 112 k.toNat y) := ⟨gx_I_w hs.1 112 (z := k) 0 7 0 39 (by decide +kernel) hk.1 hk.2 hy.1 hy.2, hs.2.1.w ⟨(112, 0, 8), by simp [gx_tk], rfl, Nat.zero_le _, by show k.toNat < 8; omega⟩, by rw [gx_u_off (by decide : (86 : Nat) ≠ 112)]; exact hs.2.2⟩
  intro j
  induction j with
  | zero => exact fun q hj h0 => gt243_44 hs.1 hn hk hy (by omega) (fun _ => hQ _ hw) (fun c => by omega) (fun c => by omega)
  | succ j ih => exact fun q hj h0 => gt243_44 hs.1 hn hk hy (by omega) (fun c => by omega) (fun _ _ => ih (q + 1) (by omega) (by omega)) (fun _ _ => hQ0)
theorem gl_tk7 {m0 : gx_M} {n : Int} (hn : 1 ≤ n ∧ n ≤ 8) (hQ : ∀ v m', v = 0 ∨ v = 1 → gs_tk m0 n m' → Q (some v) m') : ∀ (j : Nat) (k : Int) (m : gx_M), n - k = j → 0 ≤ k → gs_tk m0 n m → gx_to xs w0 (d + 1) yp_m243 7 [(0, .inr 86), (1, .inl n), (2, .inl k)] [] m Q := by
  intro j
  induction j with
  | zero => exact fun k m hj h0 hs => gt243_7 hs.1 hn (by omega) (fun _ => hQ 1 m (.inr rfl) hs) (fun c => by omega)
  | succ j ih =>
    intro k m hj h0 hs
    have hno : ∀ {y : Int}, gx_to xs w0 (d + 1) yp_m243 28 [(0, .inr 86), (1, .inl n), (2, .inl k), (3, .inl y)] [.inl 0] m Q := fun {y} => gt243_28 hn (by omega) (fun _ => hQ 0 m (.inl rfl) hs) (fun e => absurd rfl e)
    refine gt243_7 hs.1 hn (by omega) (fun _ => hQ 1 m (.inr rfl) hs) (fun c => gt196_0 hs.1 (fun _ => hno) (fun _ _ => hno) (fun _ _ _ => hno) (fun y1 y2 _ => gt243_28 hn (by omega) (fun e => by omega) (fun _ => gt200_0 hs.1 (by omega) (fun _ => ?_) (fun _ => ?_))))
    · exact gt243_36 hn (by omega) (by omega) (fun _ => gl_tk44 hn (by omega) (by omega) hs (hQ 0 m (.inl rfl) hs) (fun m' g => ih (k + 1) m' (by omega) (by omega) g) k.toNat 0 (by omega) (by omega)) (fun e => absurd rfl e)
    · exact gt243_36 hn (by omega) (by omega) (fun e => by omega) (fun _ => hQ 0 m (.inl rfl) hs)
theorem gc_tk {n : Int} (hn : 1 ≤ n ∧ n ≤ 8) (hI : gx_I m) (hQ : ∀ v m', v = 0 ∨ v = 1 → gs_tk m n m' → Q (some v) m') : gx_to xs w0 (d + 1) yp_m243 0 [(0, .inr 86), (1, .inl n)] [] m Q :=
  gt243_0 hn (gl_tk7 hn hQ n.toNat 0 _ (by omega) (by omega) ⟨gx_I_w hI 86 (z := 37) 37 37 0 8 (by decide +kernel) (by omega) (by omega) (by omega) (by omega), gx_fw.rf.w ⟨(86, 37, 38), by simp [gx_tk], rfl, Nat.le_refl _, by decide⟩, gx_u_self⟩)
def gx_sd : bx_M := [(86, 4, 5), (86, 37, 38), (86, 38, 39), (102, 0, 260), (103, 0, 14), (112, 0, 8), (113, 0, 64), (114, 0, 1792)]
def gs_sd (m0 : gx_M) (n : Nat) (m : gx_M) : Prop := gx_I m ∧ gx_X m ∧ gx_fw gx_sd m0 m ∧ m 86 37 = n
theorem gs_lay_sd {m0 m m' : gx_M} {n : Nat} (hs : gs_sd m0 n m) (h : gs_st m n m') : gs_sd m0 n m' :=
  ⟨h.1, gx_X_c.fw h.2.1 (by decide) hs.2.1, hs.2.2.1.tr (h.2.1.sub (fun q hq => ⟨q, by
    rw [gx_lay, List.mem_cons, List.mem_singleton] at hq
    rcases hq with rfl | rfl <;> simp [gx_sd], rfl, Nat.le_refl _, Nat.le_refl _⟩)), h.2.2⟩
theorem gs_feel_sd {m0 m m' : gx_M} {n : Nat} (hs : gs_sd m0 n m) (hI : gx_I m') (hX : gx_X m') (h : gx_fw gx_feel m m') : gs_sd m0 n m' :=
  ⟨hI, hX, hs.2.2.1.tr (h.sub (fun q hq => ⟨q, by
    rw [gx_feel, List.mem_cons, List.mem_singleton] at hq
    rcases hq with rfl | rfl <;> simp [gx_sd], rfl, Nat.le_refl _, Nat.le_refl _⟩)), by rw [gx_feel_row h (by decide : (86 : Nat) ≠ 102) (by decide)]; exact hs.2.2.2⟩
theorem gs_113_sd {m0 m : gx_M} {n : Nat} (hs : gs_sd m0 n m) {z v : Int} (h1 : 0 ≤ z) (h2 : z ≤ 63) (h3 : 0 ≤ v) (h4 : v ≤ 999) : gs_sd m0 n (gx_u m 113 z.toNat v) :=
  ⟨gx_I_w hs.1 113 (z := z) 0 63 0 999 (by decide +kernel) h1 h2 h3 h4, gx_X_c.fw (mods := [(113, 0, 64)]) (gx_fw.rf.w ⟨_, List.mem_singleton.mpr rfl, rfl, Nat.zero_le _, by show z.toNat < 64; omega⟩) (by decide) hs.2.1, hs.2.2.1.w ⟨(113, 0, 64), by simp [gx_sd], rfl, Nat.zero_le _, by show z.toNat < 64; omega⟩, by rw [gx_u_off (by decide : (86 : Nat) ≠ 113)]; exact hs.2.2.2⟩
theorem gl_s117 (h : bw_H1 xs (gx_XW gx_X)) {m0 : gx_M} {n : Nat} (hn : 1 ≤ n ∧ n ≤ 6) {people what k : Int} (hk : 0 ≤ k ∧ k ≤ 5) (hQ : ∀ m', gs_sd m0 n m' → gx_to xs w0 (d + 5) yp_m242 108 [(0, .inr 86), (1, .inl (n : Int)), (2, .inl people), (3, .inl what), (5, .inl (k + 1))] [] m' Q) : ∀ (j : Nat) (p : Int) (m : gx_M), 8 - p = j → 0 ≤ p → gs_sd m0 n m → gx_to xs w0 (d + 5) yp_m242 117 [(0, .inr 86), (1, .inl (n : Int)), (2, .inl people), (3, .inl what), (5, .inl k), (6, .inl p)] [] m Q := by
  intro j
  induction j with
  | zero => exact fun p m hj h0 hs => gt242_117 (by omega) hk (by omega) (fun _ => hQ m hs) (fun c => by omega)
  | succ j ih =>
    intro p m hj h0 hs
    refine gt242_117 (by omega) hk (by omega) (fun c => by omega) (fun c => gc_has
      (fun _ => gt242_142 hs.1 (by omega) hk (by omega) (by omega) (fun e => by omega) (fun _ => gc_worthOf h hs.1 hs.2.1 ?_ (by omega) (fun v m' v1 v2 g1 g2 g3 => gt242_158 (by omega) hk (by omega) (by omega) (ih (p + 1) _ (by omega) (by omega) (gs_113_sd (gs_feel_sd hs g1 g2 g3) (by omega) (by omega) v1 v2)))))
      (fun _ => gt242_142 hs.1 (by omega) hk (by omega) (by omega) (fun _ => ih (p + 1) _ (by omega) (by omega) (gs_113_sd hs (by omega) (by omega) (by omega) (by omega))) (fun e => absurd rfl e)))
    exact gx_I_at hs.1 112 (z := k) 0 7 0 39 (by decide +kernel) (by omega) (by omega)
theorem gl_s108 (h : bw_H1 xs (gx_XW gx_X)) {m0 : gx_M} {n : Nat} (hn : 1 ≤ n ∧ n ≤ 6) {people what : Int} (hp : -2147483648 ≤ people ∧ people ≤ 2147483647) (hw : what = 10 ∨ (0 ≤ what ∧ what ≤ (n : Int) - 1) ∨ (20 ≤ what ∧ what ≤ 27)) (hQ : ∀ v m', gs_sd m0 n m' → Q (some v) m') : ∀ (j : Nat) (k : Int) (m : gx_M), n - k = j → 0 ≤ k → gs_sd m0 n m → gx_to xs w0 (d + 5) yp_m242 108 [(0, .inr 86), (1, .inl (n : Int)), (2, .inl people), (3, .inl what), (5, .inl k)] [] m Q := by
  intro j
  induction j with
  | zero =>
    intro k m hj h0 hs
    refine gt242_108 (by omega) (by omega) (fun _ c => gc_laysSold hn hs.1 hs.2.2.2 hp (fun v m' g1 g2 => gt242_196 (fun c' => ?_) (fun _ => gt242_214 (hQ _ m' (gs_lay_sd hs g1))))) (fun _ c => ?_) (fun c => by omega)
    · exact gc_gets (d := d + 2) hn g1.1 g2 (by omega) (fun q => gt242_214 (hQ _ m' (gs_lay_sd hs g1)))
    · rw [gx_w_id (by omega) (by omega)]
      exact gc_pays (d := d + 1) hn hs.1 hs.2.2.2 hp (by omega) (fun v m' g => gt242_190 (hQ _ m' (gs_lay_sd hs g)))
  | succ j ih =>
    intro k m hj h0 hs
    exact gt242_108 (by omega) (by omega) (fun c => by omega) (fun c => by omega) (fun c => gl_s117 h hn (by omega) (fun m' g => ih (k + 1) m' (by omega) (by omega) g) 8 0 m (by omega) (by omega) hs)
theorem gc_sold (h : bw_H1 xs (gx_XW gx_X)) (hI : gx_I m) (hX : gx_X m) {n people what : Int} (hp : -2147483648 ≤ people ∧ people ≤ 2147483647) (hQ : ∀ v m', gx_I m' → gx_X m' → gx_fw gx_sd m m' → Q (some v) m') : gx_to xs w0 (d + 5) yp_m242 0 [(0, .inr 86), (1, .inl n), (2, .inl people), (3, .inl what)] [] m Q := by
  have hno : ∀ v, Q (some v) m := fun v => hQ v m hI hX gx_fw.rf
  refine gt242_0 (gc_in (fun n1 n6 => gt242_7 hI (fun e => by omega) (fun _ _ => ?_) (fun _ _ => hno _)) (fun _ => gt242_7 hI (fun _ => hno _) (fun e => absurd rfl e) (fun e => absurd rfl e)))
  have hI1 : gx_I (gx_u m 86 4 0) := gx_I_w hI 86 (z := 4) 4 4 0 260 (by decide +kernel) (by omega) (by omega) (by omega) (by omega)
  refine gc_tk (d := d + 3) (by omega) hI1 (fun v m2 hv ht => ?_)
  obtain ⟨n0, rfl⟩ : ∃ k : Nat, n = (k : Int) := ⟨n.toNat, by omega⟩
  have hf2 : gx_fw gx_sd m m2 := (gx_fw.rf.w ⟨(86, 4, 5), by simp [gx_sd], rfl, Nat.le_refl _, by decide⟩ : gx_fw gx_sd m (gx_u m 86 4 0)).tr (ht.2.1.sub (fun q hq => ⟨q, by
    rw [gx_tk, List.mem_cons, List.mem_singleton] at hq
    rcases hq with rfl | rfl <;> simp [gx_sd], rfl, Nat.le_refl _, Nat.le_refl _⟩))
  have hs : gs_sd m n0 m2 := ⟨ht.1, gx_X_c.fw hf2 (by decide) hX, hf2, ht.2.2⟩
  have hno2 : ∀ v, Q (some v) m2 := fun v => hQ v m2 hs.1 hs.2.1 hs.2.2.1
  have hgo : what = 10 ∨ (0 ≤ what ∧ what ≤ (n0 : Int) - 1) ∨ (20 ≤ what ∧ what ≤ 27) → gx_to xs w0 (d + 5) yp_m242 108 [(0, .inr 86), (1, .inl (n0 : Int)), (2, .inl people), (3, .inl what), (5, .inl 0)] [] m2 Q := fun hw => gl_s108 h (by omega) hp hw (fun v m' g => hQ v m' g.1 g.2.1 g.2.2.1) n0 0 m2 (by omega) (by omega) hs
  refine gt242_30 ht.1 (by omega) (fun _ _ _ => hno2 _) (fun _ e _ => hgo (.inl e)) (fun _ _ => gc_in
    (fun a b => gt242_50 ht.1 (by omega) (fun _ _ => hno2 _) (fun _ _ => hgo (.inr (.inl ⟨a, b⟩))) (fun e => by omega))
    (fun _ => gt242_50 ht.1 (by omega) (fun e => absurd rfl e) (fun e => absurd rfl e) (fun _ => gc_in
      (fun a b => gt242_61 ht.1 (fun e => by omega) (fun e => by omega) (fun _ => gc_has
        (fun _ => gt242_72 ht.1 (fun e => by omega) (fun e => by omega) (fun _ _ => hno2 _) (fun _ _ => hgo (.inr (.inr ⟨a, b⟩))))
        (fun _ => gt242_72 ht.1 (fun _ _ => hno2 _) (fun _ _ => hno2 _) (fun e => absurd rfl e) (fun e => absurd rfl e))))
      (fun _ => gt242_61 ht.1 (fun _ _ => hno2 _) (fun _ _ => hno2 _) (fun e => absurd rfl e))))) (fun _ => hno2 _)
theorem gk_sold (h : bw_H1 xs (gx_XW gx_X)) : bx_Kok yp_P xs bw_INV (gx_XW gx_X) bk_112 := by
  refine gx_K_of (by decide) rfl (fun M w0 v m hM hv hI hX _ => ?_)
  cases (Option.some.inj (hM.symm.trans rfl) : M = yp_m242)
  match v, hv with
  | x1 :: x2 :: x3 :: r, hv =>
    exact gc_sold (d := 3) h hI hX hv.2.1.2 (fun v m' hI' hX' hf hb => ⟨⟨rfl, hb v rfl⟩, hI', hX', hf⟩)
end GSE
end
section
/-! roads of methods read by hand, from cut points to the next ones (printed by wip/gen/gxall.py) -/
/-- areDone from 0 on -/
theorem gt214_0 {xs : List Int32} {w0 : sx_W} {d : Nat} {Q : gx_Q} {m : gx_M} (g0 : 0 ≤ (m 86 32) ∧ (m 86 32) ≤ 6)
    (h1 : gx_to xs w0 d yp_m214 4 [(0, .inr 86), (1, .inl 1), (2, .inl 0)] [] m Q) : gx_to xs w0 d yp_m214 0 [(0, .inr 86)] [] m Q := by
  refine gx_blk (C := True) (npc := 4) (L' := [(0, .inr 86), (1, .inl 1), (2, .inl 0)]) (st' := []) (m' := m) [((0, .iconst 1, 1, 0, 0, 0, 0), (0, 0, 0)), ((1, .istore_n 1, 1, 0, 0, 0, 0), (0, 0, 0)), ((2, .iconst 0, 1, 0, 0, 0, 0), (0, 0, 0)), ((3, .istore_n 2, 1, 0, 0, 0, 0), (0, 0, 0))] (by decide +kernel) rfl trivial ?_
  exact gx_to_pick [0, 1, 2] h1

/-- areDone from 4 on -/
theorem gt214_4 {xs : List Int32} {w0 : sx_W} {d : Nat} {Q : gx_Q} {m : gx_M} {x1 x2 : Int} (hI : gx_I m) (r_x1 : 0 ≤ x1 ∧ x1 ≤ 1) (r_x2 : 0 ≤ x2 ∧ x2 ≤ 6) (g2 : 0 ≤ (m 86 32) ∧ (m 86 32) ≤ 6)
    (h1 : ((m 86 32) ≤ x2) → gx_to xs w0 d yp_m212 0 [(0, .inr 88), (1, .inr 87)] [] m (fun r m' => gx_to xs w0 (d + 1) yp_m214 44 [(1, .inl x1)] (gx_rs r ++ []) m' Q))
    (h2 : (x2 < (m 86 32)) → (x1 = 0) → gx_to xs w0 d yp_m212 0 [(0, .inr 88), (1, .inr 87)] [] m (fun r m' => gx_to xs w0 (d + 1) yp_m214 44 [(1, .inl x1)] (gx_rs r ++ []) m' Q))
    (h3 : (x2 < (m 86 32)) → (x1 ≠ 0) → gx_to xs w0 d yp_m195 0 [(0, .inr 86), (1, .inl (m 109 (x2).toNat))] [] m (fun r m' => gx_to xs w0 (d + 1) yp_m214 26 [(0, .inr 86), (2, .inl x2)] (gx_rs r ++ []) m' Q)) : gx_to xs w0 (d + 1) yp_m214 4 [(0, .inr 86), (1, .inl x1), (2, .inl x2)] [] m Q := by
  have f1 := gx_I_n hI 86 32 0 16 (by decide +kernel)
  refine gx_blk (C := True) (npc := 9) (L' := [(0, .inr 86), (1, .inl x1), (2, .inl x2)]) (st' := [.inl (m 86 32), .inl x2]) (m' := m) [((4, .iload_n 2, 1, 0, 0, 0, 0), (0, 0, 0)), ((5, .aload_n 0, 1, 0, 0, 0, 0), (0, 0, 0)), ((6, .getfield 254, 3, 10, 32, 5145, 0), (0, 86, 0))] (by decide +kernel) rfl trivial ?_
  refine gx_cmp .ge 33 (by decide +kernel) (fun c1 => ?_) (fun c1 => ?_)
  · have c1 : (m 86 32) ≤ x2 := c1
    refine gx_blk (C := True) (npc := 41) (L' := [(0, .inr 86), (1, .inl x1), (2, .inl x2)]) (st' := [.inr 87, .inr 88]) (m' := m) [((33, .aload_n 0, 1, 0, 0, 0, 0), (0, 0, 0)), ((34, .getfield 13, 3, 10, 1, 5114, 0), (1, 86, 88)), ((37, .aload_n 0, 1, 0, 0, 0, 0), (0, 0, 0)), ((38, .getfield 7, 3, 10, 0, 5113, 0), (1, 86, 87))] (by decide +kernel) rfl trivial ?_
    exact gx_calls (E := (41, .invokestatic 290, 3, 212, 0, 6217, 0)) (M' := yp_m212) [.inr 88, .inr 87] [] rfl (by decide +kernel) rfl ⟨rfl, rfl⟩ rfl rfl (Nat.le_of_ble_eq_true rfl) (Nat.le_of_ble_eq_true rfl) rfl (gx_to_mono (h1 c1) (fun r m' h' => gx_to_pick [1] h'))
  · have c1 : x2 < (m 86 32) := by have h : ¬ ((m 86 32) ≤ x2) := c1; omega
    refine gx_blk (C := True) (npc := 13) (L' := [(0, .inr 86), (1, .inl x1), (2, .inl x2)]) (st' := [.inl x1]) (m' := m) [((12, .iload_n 1, 1, 0, 0, 0, 0), (0, 0, 0))] (by decide +kernel) rfl trivial ?_
    refine gx_if .eq 33 (by decide +kernel) (fun c2 => ?_) (fun c2 => ?_)
    · have c2 : x1 = 0 := c2
      refine gx_blk (C := True) (npc := 41) (L' := [(0, .inr 86), (1, .inl x1), (2, .inl x2)]) (st' := [.inr 87, .inr 88]) (m' := m) [((33, .aload_n 0, 1, 0, 0, 0, 0), (0, 0, 0)), ((34, .getfield 13, 3, 10, 1, 5114, 0), (1, 86, 88)), ((37, .aload_n 0, 1, 0, 0, 0, 0), (0, 0, 0)), ((38, .getfield 7, 3, 10, 0, 5113, 0), (1, 86, 87))] (by decide +kernel) rfl trivial ?_
      exact gx_calls (E := (41, .invokestatic 290, 3, 212, 0, 6217, 0)) (M' := yp_m212) [.inr 88, .inr 87] [] rfl (by decide +kernel) rfl ⟨rfl, rfl⟩ rfl rfl (Nat.le_of_ble_eq_true rfl) (Nat.le_of_ble_eq_true rfl) rfl (gx_to_mono (h2 c1 c2) (fun r m' h' => gx_to_pick [1] h'))
    · have c2 : x1 ≠ 0 := c2
      have f2 := gx_I_at hI 109 (z := x2) 0 5 0 5 (by decide +kernel) (by omega) (by omega)
      refine gx_blk (C := (True ∧ (0 ≤ x2 ∧ x2 < 6))) (npc := 23) (L' := [(0, .inr 86), (1, .inl x1), (2, .inl x2)]) (st' := [.inl (m 109 (x2).toNat), .inr 86]) (m' := m) [((16, .aload_n 0, 1, 0, 0, 0, 0), (0, 0, 0)), ((17, .aload_n 0, 1, 0, 0, 0, 0), (0, 0, 0)), ((18, .getfield 77, 3, 10, 33, 5146, 0), (1, 86, 109)), ((21, .iload_n 2, 1, 0, 0, 0, 0), (0, 0, 0)), ((22, .iaload, 1, 0, 0, 0, 0), (0, 109, 6))] (by decide +kernel) rfl ⟨trivial, (by omega)⟩ ?_
      exact gx_callv (E := (23, .invokevirtual 287, 3, 195, 0, 6152, 0)) (M' := yp_m195) (c := 86) [.inl (m 109 (x2).toNat)] [] rfl (by decide +kernel) rfl ⟨rfl, rfl⟩ rfl rfl (Nat.le_of_ble_eq_true rfl) (Nat.le_of_ble_eq_true rfl) (by decide +kernel) (gx_to_mono (h3 c1 c2) (fun r m' h' => gx_to_pick [0, 2] h'))

/-- areDone from 26 on -/
theorem gt214_26 {xs : List Int32} {w0 : sx_W} {d : Nat} {Q : gx_Q} {m : gx_M} {x2 s0 : Int} (r_x2 : 0 ≤ x2 ∧ x2 ≤ 5) (g1 : 0 ≤ (m 86 32) ∧ (m 86 32) ≤ 6)
    (h1 : gx_to xs w0 d yp_m214 4 [(0, .inr 86), (1, .inl s0), (2, .inl (x2 + 1))] [] m Q) : gx_to xs w0 d yp_m214 26 [(0, .inr 86), (2, .inl x2)] [.inl s0] m Q := by
  have e1 : gx_w (x2 + 1) = x2 + 1 := gx_w_id (by omega) (by omega)
  refine gx_blk (C := True) (npc := 4) (L' := [(0, .inr 86), (2, .inl (gx_w (x2 + 1))), (1, .inl s0)]) (st' := []) (m' := m) [((26, .istore_n 1, 1, 0, 0, 0, 0), (0, 0, 0)), ((27, .iinc 2 1, 3, 0, 0, 0, 0), (0, 0, 0)), ((30, .goto (-26), 3, 0, 0, 0, 0), (0, 0, 0))] (by decide +kernel) rfl trivial ?_
  rw [e1]
  exact gx_to_pick [0, 1, 2] h1

/-- areDone from 44 on -/
theorem gt214_44 {xs : List Int32} {w0 : sx_W} {d : Nat} {Q : gx_Q} {m : gx_M} {x1 : Int} (r_x1 : 0 ≤ x1 ∧ x1 ≤ 1) (g1 : 0 ≤ (m 86 32) ∧ (m 86 32) ≤ 6)
    (h1 : Q (some x1) m) : gx_to xs w0 d yp_m214 44 [(1, .inl x1)] [] m Q := by
  refine gx_blk (C := True) (npc := 45) (L' := [(1, .inl x1)]) (st' := [.inl x1]) (m' := m) [((44, .iload_n 1, 1, 0, 0, 0, 0), (0, 0, 0))] (by decide +kernel) rfl trivial ?_
  exact gx_retb (by decide +kernel) (by omega) h1

/-- swaps from 0 on -/
theorem gt216_0 {xs : List Int32} {w0 : sx_W} {d : Nat} {Q : gx_Q} {m : gx_M} {x1 x2 : Int} (hI : gx_I m) (r_x1 : 0 ≤ x1 ∧ x1 ≤ 5) (r_x2 : 0 ≤ x2 ∧ x2 ≤ 5)
    (h1 : Q none (gx_u (gx_u m 109 (x1).toNat (m 109 (x2).toNat)) 109 (x2).toNat (m 109 (x1).toNat))) : gx_to xs w0 d yp_m216 0 [(0, .inr 86), (1, .inl x1), (2, .inl x2)] [] m Q := by
  have f1 := gx_I_at hI 109 (z := x1) 0 5 0 5 (by decide +kernel) (by omega) (by omega)
  have f2 := gx_I_at hI 109 (z := x2) 0 5 0 5 (by decide +kernel) (by omega) (by omega)
  refine gx_blk (C := (((((((True ∧ (0 ≤ x1 ∧ x1 < 6))) ∧ (0 ≤ x2 ∧ x2 < 6))) ∧ (0 ≤ x1 ∧ x1 < 6))) ∧ (0 ≤ x2 ∧ x2 < 6))) (npc := 26) (L' := [(0, .inr 86), (1, .inl x1), (2, .inl x2), (3, .inl (m 109 (x1).toNat))]) (st' := []) (m' := (gx_u (gx_u m 109 (x1).toNat (m 109 (x2).toNat)) 109 (x2).toNat (m 109 (x1).toNat))) [((0, .aload_n 0, 1, 0, 0, 0, 0), (0, 0, 0)), ((1, .getfield 77, 3, 10, 33, 5146, 0), (1, 86, 109)), ((4, .iload_n 1, 1, 0, 0, 0, 0), (0, 0, 0)), ((5, .iaload, 1, 0, 0, 0, 0), (0, 109, 6)), ((6, .istore_n 3, 1, 0, 0, 0, 0), (0, 0, 0)), ((7, .aload_n 0, 1, 0, 0, 0, 0), (0, 0, 0)), ((8, .getfield 77, 3, 10, 33, 5146, 0), (1, 86, 109)), ((11, .iload_n 1, 1, 0, 0, 0, 0), (0, 0, 0)), ((12, .aload_n 0, 1, 0, 0, 0, 0), (0, 0, 0)), ((13, .getfield 77, 3, 10, 33, 5146, 0), (1, 86, 109)), ((16, .iload_n 2, 1, 0, 0, 0, 0), (0, 0, 0)), ((17, .iaload, 1, 0, 0, 0, 0), (0, 109, 6)), ((18, .iastore, 1, 0, 0, 0, 0), (0, 109, 6)), ((19, .aload_n 0, 1, 0, 0, 0, 0), (0, 0, 0)), ((20, .getfield 77, 3, 10, 33, 5146, 0), (1, 86, 109)), ((23, .iload_n 2, 1, 0, 0, 0, 0), (0, 0, 0)), ((24, .iload_n 3, 1, 0, 0, 0, 0), (0, 0, 0)), ((25, .iastore, 1, 0, 0, 0, 0), (0, 109, 6))] (by decide +kernel) rfl ⟨⟨⟨⟨trivial, (by omega)⟩, (by omega)⟩, (by omega)⟩, (by omega)⟩ ?_
  exact gx_ret0 (by decide +kernel) h1

/-- goesToNext from 0 on -/
theorem gt215_0 {xs : List Int32} {w0 : sx_W} {d : Nat} {Q : gx_Q} {m : gx_M} (hI : gx_I m) (g0 : 0 ≤ (m 86 32) ∧ (m 86 32) ≤ 6)
    (h1 : gx_to xs w0 d yp_m215 7 [(0, .inr 86), (1, .inl ((m 86 32) - 2))] [] m Q) : gx_to xs w0 d yp_m215 0 [(0, .inr 86)] [] m Q := by
  have f1 := gx_I_n hI 86 32 0 16 (by decide +kernel)
  have e2 : gx_w ((m 86 32) - 2) = (m 86 32) - 2 := gx_w_id (by omega) (by omega)
  refine gx_blk (C := True) (npc := 7) (L' := [(0, .inr 86), (1, .inl (gx_w ((m 86 32) - 2)))]) (st' := []) (m' := m) [((0, .aload_n 0, 1, 0, 0, 0, 0), (0, 0, 0)), ((1, .getfield 254, 3, 10, 32, 5145, 0), (0, 86, 0)), ((4, .iconst 2, 1, 0, 0, 0, 0), (0, 0, 0)), ((5, .isub, 1, 0, 0, 0, 0), (0, 0, 0)), ((6, .istore_n 1, 1, 0, 0, 0, 0), (0, 0, 0))] (by decide +kernel) rfl trivial ?_
  rw [e2]
  exact gx_to_pick [0, 1] h1

/-- goesToNext from 7 on -/
theorem gt215_7 {xs : List Int32} {w0 : sx_W} {d : Nat} {Q : gx_Q} {m : gx_M} {x1 : Int} (hI : gx_I m) (r_x1 : (-2) ≤ x1 ∧ x1 ≤ 4) (g1 : 0 ≤ (m 86 32) ∧ (m 86 32) ≤ 6)
    (h1 : (x1 < 0) → (x1 < 0) → Q (some 0) m)
    (h2 : (0 ≤ x1) → ((m 109 (x1).toNat) ≤ (m 109 (x1 + 1).toNat)) → (0 ≤ x1) → gx_to xs w0 d yp_m215 48 [(0, .inr 86), (1, .inl x1), (2, .inl ((m 86 32) - 1))] [] m Q)
    (h3 : (0 ≤ x1) → ((m 109 (x1 + 1).toNat) < (m 109 (x1).toNat)) → gx_to xs w0 d yp_m215 7 [(0, .inr 86), (1, .inl (x1 - 1))] [] m Q) : gx_to xs w0 d yp_m215 7 [(0, .inr 86), (1, .inl x1)] [] m Q := by
  refine gx_blk (C := True) (npc := 8) (L' := [(0, .inr 86), (1, .inl x1)]) (st' := [.inl x1]) (m' := m) [((7, .iload_n 1, 1, 0, 0, 0, 0), (0, 0, 0))] (by decide +kernel) rfl trivial ?_
  refine gx_if .lt 35 (by decide +kernel) (fun c1 => ?_) (fun c1 => ?_)
  · have c1 : x1 < 0 := c1
    refine gx_blk (C := True) (npc := 36) (L' := [(0, .inr 86), (1, .inl x1)]) (st' := [.inl x1]) (m' := m) [((35, .iload_n 1, 1, 0, 0, 0, 0), (0, 0, 0))] (by decide +kernel) rfl trivial ?_
    refine gx_if .ge 41 (by decide +kernel) (fun c2 => ?_) (fun c2 => ?_)
    · have c2 : 0 ≤ x1 := c2
      exfalso; omega
    · have c2 : x1 < 0 := by have h : ¬ (0 ≤ x1) := c2; omega
      refine gx_blk (C := True) (npc := 40) (L' := [(0, .inr 86), (1, .inl x1)]) (st' := [.inl 0]) (m' := m) [((39, .iconst 0, 1, 0, 0, 0, 0), (0, 0, 0))] (by decide +kernel) rfl trivial ?_
      exact gx_retb (by decide +kernel) (by omega) (h1 c1 c2)
  · have c1 : 0 ≤ x1 := by have h : ¬ (x1 < 0) := c1; omega
    have f1 := gx_I_at hI 109 (z := x1) 0 4 0 5 (by decide +kernel) (by omega) (by omega)
    have e2 : gx_w (x1 + 1) = x1 + 1 := gx_w_id (by omega) (by omega)
    have f3 := gx_I_at hI 109 (z := x1 + 1) 1 5 0 5 (by decide +kernel) (by omega) (by omega)
    refine gx_blk (C := (((True ∧ (0 ≤ x1 ∧ x1 < 6))) ∧ (0 ≤ (gx_w (x1 + 1)) ∧ (gx_w (x1 + 1)) < 6))) (npc := 25) (L' := [(0, .inr 86), (1, .inl x1)]) (st' := [.inl (m 109 (gx_w (x1 + 1)).toNat), .inl (m 109 (x1).toNat)]) (m' := m) [((11, .aload_n 0, 1, 0, 0, 0, 0), (0, 0, 0)), ((12, .getfield 77, 3, 10, 33, 5146, 0), (1, 86, 109)), ((15, .iload_n 1, 1, 0, 0, 0, 0), (0, 0, 0)), ((16, .iaload, 1, 0, 0, 0, 0), (0, 109, 6)), ((17, .aload_n 0, 1, 0, 0, 0, 0), (0, 0, 0)), ((18, .getfield 77, 3, 10, 33, 5146, 0), (1, 86, 109)), ((21, .iload_n 1, 1, 0, 0, 0, 0), (0, 0, 0)), ((22, .iconst 1, 1, 0, 0, 0, 0), (0, 0, 0)), ((23, .iadd, 1, 0, 0, 0, 0), (0, 0, 0)), ((24, .iaload, 1, 0, 0, 0, 0), (0, 109, 6))] (by decide +kernel) rfl ⟨⟨trivial, (by omega)⟩, (by rw [e2]; omega)⟩ ?_
    rw [e2]
    refine gx_cmp .le 35 (by decide +kernel) (fun c2 => ?_) (fun c2 => ?_)
    · have c2 : (m 109 (x1).toNat) ≤ (m 109 (x1 + 1).toNat) := c2
      refine gx_blk (C := True) (npc := 36) (L' := [(0, .inr 86), (1, .inl x1)]) (st' := [.inl x1]) (m' := m) [((35, .iload_n 1, 1, 0, 0, 0, 0), (0, 0, 0))] (by decide +kernel) rfl trivial ?_
      refine gx_if .ge 41 (by decide +kernel) (fun c3 => ?_) (fun c3 => ?_)
      · have c3 : 0 ≤ x1 := c3
        have f4 := gx_I_n hI 86 32 0 16 (by decide +kernel)
        have e5 : gx_w ((m 86 32) - 1) = (m 86 32) - 1 := gx_w_id (by omega) (by omega)
        refine gx_blk (C := True) (npc := 48) (L' := [(0, .inr 86), (1, .inl x1), (2, .inl (gx_w ((m 86 32) - 1)))]) (st' := []) (m' := m) [((41, .aload_n 0, 1, 0, 0, 0, 0), (0, 0, 0)), ((42, .getfield 254, 3, 10, 32, 5145, 0), (0, 86, 0)), ((45, .iconst 1, 1, 0, 0, 0, 0), (0, 0, 0)), ((46, .isub, 1, 0, 0, 0, 0), (0, 0, 0)), ((47, .istore_n 2, 1, 0, 0, 0, 0), (0, 0, 0))] (by decide +kernel) rfl trivial ?_
        rw [e5]
        exact gx_to_pick [0, 1, 2] (h2 c1 c2 c3)
      · have c3 : x1 < 0 := by have h : ¬ (0 ≤ x1) := c3; omega
        exfalso; omega
    · have c2 : (m 109 (x1 + 1).toNat) < (m 109 (x1).toNat) := by have h : ¬ ((m 109 (x1).toNat) ≤ (m 109 (x1 + 1).toNat)) := c2; omega
      have e6 : gx_w (x1 - 1) = x1 - 1 := gx_w_id (by omega) (by omega)
      refine gx_blk (C := True) (npc := 7) (L' := [(0, .inr 86), (1, .inl (gx_w (x1 - 1)))]) (st' := []) (m' := m) [((28, .iload_n 1, 1, 0, 0, 0, 0), (0, 0, 0)), ((29, .iconst 1, 1, 0, 0, 0, 0), (0, 0, 0)), ((30, .isub, 1, 0, 0, 0, 0), (0, 0, 0)), ((31, .istore_n 1, 1, 0, 0, 0, 0), (0, 0, 0)), ((32, .goto (-25), 3, 0, 0, 0, 0), (0, 0, 0))] (by decide +kernel) rfl trivial ?_
      rw [e6]
      exact gx_to_pick [0, 1] (h3 c1 c2)

/-- goesToNext from 48 on -/
theorem gt215_48 {xs : List Int32} {w0 : sx_W} {d : Nat} {Q : gx_Q} {m : gx_M} {x1 x2 : Int} (hI : gx_I m) (r_x1 : 0 ≤ x1 ∧ x1 ≤ 4) (r_x2 : 1 ≤ x2 ∧ x2 ≤ 5) (g2 : 0 ≤ (m 86 32) ∧ (m 86 32) ≤ 6)
    (h1 : ((m 109 (x1).toNat) ≤ (m 109 (x2).toNat)) → gx_to xs w0 d yp_m216 0 [(0, .inr 86), (1, .inl x1), (2, .inl x2)] [] m (fun r m' => gx_to xs w0 (d + 1) yp_m215 76 [(0, .inr 86), (1, .inl x1)] (gx_rs r ++ []) m' Q))
    (h2 : ((m 109 (x2).toNat) < (m 109 (x1).toNat)) → gx_to xs w0 (d + 1) yp_m215 48 [(0, .inr 86), (1, .inl x1), (2, .inl (x2 - 1))] [] m Q) : gx_to xs w0 (d + 1) yp_m215 48 [(0, .inr 86), (1, .inl x1), (2, .inl x2)] [] m Q := by
  have f1 := gx_I_at hI 109 (z := x2) 1 5 0 5 (by decide +kernel) (by omega) (by omega)
  have f2 := gx_I_at hI 109 (z := x1) 0 4 0 5 (by decide +kernel) (by omega) (by omega)
  refine gx_blk (C := (((True ∧ (0 ≤ x2 ∧ x2 < 6))) ∧ (0 ≤ x1 ∧ x1 < 6))) (npc := 60) (L' := [(0, .inr 86), (1, .inl x1), (2, .inl x2)]) (st' := [.inl (m 109 (x1).toNat), .inl (m 109 (x2).toNat)]) (m' := m) [((48, .aload_n 0, 1, 0, 0, 0, 0), (0, 0, 0)), ((49, .getfield 77, 3, 10, 33, 5146, 0), (1, 86, 109)), ((52, .iload_n 2, 1, 0, 0, 0, 0), (0, 0, 0)), ((53, .iaload, 1, 0, 0, 0, 0), (0, 109, 6)), ((54, .aload_n 0, 1, 0, 0, 0, 0), (0, 0, 0)), ((55, .getfield 77, 3, 10, 33, 5146, 0), (1, 86, 109)), ((58, .iload_n 1, 1, 0, 0, 0, 0), (0, 0, 0)), ((59, .iaload, 1, 0, 0, 0, 0), (0, 109, 6))] (by decide +kernel) rfl ⟨⟨trivial, (by omega)⟩, (by omega)⟩ ?_
  refine gx_cmp .ge 70 (by decide +kernel) (fun c1 => ?_) (fun c1 => ?_)
  · have c1 : (m 109 (x1).toNat) ≤ (m 109 (x2).toNat) := c1
    refine gx_blk (C := True) (npc := 73) (L' := [(0, .inr 86), (1, .inl x1), (2, .inl x2)]) (st' := [.inl x2, .inl x1, .inr 86]) (m' := m) [((70, .aload_n 0, 1, 0, 0, 0, 0), (0, 0, 0)), ((71, .iload_n 1, 1, 0, 0, 0, 0), (0, 0, 0)), ((72, .iload_n 2, 1, 0, 0, 0, 0), (0, 0, 0))] (by decide +kernel) rfl trivial ?_
    exact gx_callv (E := (73, .invokevirtual 294, 3, 216, 0, 6232, 0)) (M' := yp_m216) (c := 86) [.inl x1, .inl x2] [] rfl (by decide +kernel) rfl ⟨rfl, rfl⟩ rfl rfl (Nat.le_of_ble_eq_true rfl) (Nat.le_of_ble_eq_true rfl) (by decide +kernel) (gx_to_mono (h1 c1) (fun r m' h' => gx_to_pick [0, 1] h'))
  · have c1 : (m 109 (x2).toNat) < (m 109 (x1).toNat) := by have h : ¬ ((m 109 (x1).toNat) ≤ (m 109 (x2).toNat)) := c1; omega
    have e3 : gx_w (x2 - 1) = x2 - 1 := gx_w_id (by omega) (by omega)
    refine gx_blk (C := True) (npc := 48) (L' := [(0, .inr 86), (1, .inl x1), (2, .inl (gx_w (x2 - 1)))]) (st' := []) (m' := m) [((63, .iload_n 2, 1, 0, 0, 0, 0), (0, 0, 0)), ((64, .iconst 1, 1, 0, 0, 0, 0), (0, 0, 0)), ((65, .isub, 1, 0, 0, 0, 0), (0, 0, 0)), ((66, .istore_n 2, 1, 0, 0, 0, 0), (0, 0, 0)), ((67, .goto (-19), 3, 0, 0, 0, 0), (0, 0, 0))] (by decide +kernel) rfl trivial ?_
    rw [e3]
    exact gx_to_pick [0, 1, 2] (h2 c1)

/-- goesToNext from 76 on -/
theorem gt215_76 {xs : List Int32} {w0 : sx_W} {d : Nat} {Q : gx_Q} {m : gx_M} {x1 : Int} (hI : gx_I m) (r_x1 : 0 ≤ x1 ∧ x1 ≤ 4) (g1 : 0 ≤ (m 86 32) ∧ (m 86 32) ≤ 6)
    (h1 : gx_to xs w0 d yp_m215 88 [(0, .inr 86), (3, .inl (x1 + 1)), (4, .inl ((m 86 32) - 1))] [] m Q) : gx_to xs w0 d yp_m215 76 [(0, .inr 86), (1, .inl x1)] [] m Q := by
  have e1 : gx_w (x1 + 1) = x1 + 1 := gx_w_id (by omega) (by omega)
  have f2 := gx_I_n hI 86 32 0 16 (by decide +kernel)
  have e3 : gx_w ((m 86 32) - 1) = (m 86 32) - 1 := gx_w_id (by omega) (by omega)
  refine gx_blk (C := True) (npc := 88) (L' := [(0, .inr 86), (1, .inl x1), (3, .inl (gx_w (x1 + 1))), (4, .inl (gx_w ((m 86 32) - 1)))]) (st' := []) (m' := m) [((76, .iload_n 1, 1, 0, 0, 0, 0), (0, 0, 0)), ((77, .iconst 1, 1, 0, 0, 0, 0), (0, 0, 0)), ((78, .iadd, 1, 0, 0, 0, 0), (0, 0, 0)), ((79, .istore_n 3, 1, 0, 0, 0, 0), (0, 0, 0)), ((80, .aload_n 0, 1, 0, 0, 0, 0), (0, 0, 0)), ((81, .getfield 254, 3, 10, 32, 5145, 0), (0, 86, 0)), ((84, .iconst 1, 1, 0, 0, 0, 0), (0, 0, 0)), ((85, .isub, 1, 0, 0, 0, 0), (0, 0, 0)), ((86, .istore 4, 2, 0, 0, 0, 0), (0, 0, 0))] (by decide +kernel) rfl trivial ?_
  rw [e1, e3]
  exact gx_to_pick [0, 3, 4] h1

/-- goesToNext from 88 on -/
theorem gt215_88 {xs : List Int32} {w0 : sx_W} {d : Nat} {Q : gx_Q} {m : gx_M} {x3 x4 : Int} (r_x3 : 1 ≤ x3 ∧ x3 ≤ 6) (r_x4 : (-1) ≤ x4 ∧ x4 ≤ 5) (g2 : 0 ≤ (m 86 32) ∧ (m 86 32) ≤ 6)
    (h1 : (x4 ≤ x3) → Q (some 1) m)
    (h2 : (x3 < x4) → gx_to xs w0 d yp_m216 0 [(0, .inr 86), (1, .inl x3), (2, .inl x4)] [] m (fun r m' => gx_to xs w0 (d + 1) yp_m215 101 [(0, .inr 86), (3, .inl x3), (4, .inl x4)] (gx_rs r ++ []) m' Q)) : gx_to xs w0 (d + 1) yp_m215 88 [(0, .inr 86), (3, .inl x3), (4, .inl x4)] [] m Q := by
  refine gx_blk (C := True) (npc := 91) (L' := [(0, .inr 86), (3, .inl x3), (4, .inl x4)]) (st' := [.inl x4, .inl x3]) (m' := m) [((88, .iload_n 3, 1, 0, 0, 0, 0), (0, 0, 0)), ((89, .iload 4, 2, 0, 0, 0, 0), (0, 0, 0))] (by decide +kernel) rfl trivial ?_
  refine gx_cmp .ge 114 (by decide +kernel) (fun c1 => ?_) (fun c1 => ?_)
  · have c1 : x4 ≤ x3 := c1
    refine gx_blk (C := True) (npc := 115) (L' := [(0, .inr 86), (3, .inl x3), (4, .inl x4)]) (st' := [.inl 1]) (m' := m) [((114, .iconst 1, 1, 0, 0, 0, 0), (0, 0, 0))] (by decide +kernel) rfl trivial ?_
    exact gx_retb (by decide +kernel) (by omega) (h1 c1)
  · have c1 : x3 < x4 := by have h : ¬ (x4 ≤ x3) := c1; omega
    refine gx_blk (C := True) (npc := 98) (L' := [(0, .inr 86), (3, .inl x3), (4, .inl x4)]) (st' := [.inl x4, .inl x3, .inr 86]) (m' := m) [((94, .aload_n 0, 1, 0, 0, 0, 0), (0, 0, 0)), ((95, .iload_n 3, 1, 0, 0, 0, 0), (0, 0, 0)), ((96, .iload 4, 2, 0, 0, 0, 0), (0, 0, 0))] (by decide +kernel) rfl trivial ?_
    exact gx_callv (E := (98, .invokevirtual 294, 3, 216, 0, 6232, 0)) (M' := yp_m216) (c := 86) [.inl x3, .inl x4] [] rfl (by decide +kernel) rfl ⟨rfl, rfl⟩ rfl rfl (Nat.le_of_ble_eq_true rfl) (Nat.le_of_ble_eq_true rfl) (by decide +kernel) (gx_to_mono (h2 c1) (fun r m' h' => gx_to_pick [0, 3, 4] h'))

/-- goesToNext from 101 on -/
theorem gt215_101 {xs : List Int32} {w0 : sx_W} {d : Nat} {Q : gx_Q} {m : gx_M} {x3 x4 : Int} (r_x3 : 1 ≤ x3 ∧ x3 ≤ 5) (r_x4 : 0 ≤ x4 ∧ x4 ≤ 5) (g2 : 0 ≤ (m 86 32) ∧ (m 86 32) ≤ 6)
    (h1 : gx_to xs w0 d yp_m215 88 [(0, .inr 86), (3, .inl (x3 + 1)), (4, .inl (x4 - 1))] [] m Q) : gx_to xs w0 d yp_m215 101 [(0, .inr 86), (3, .inl x3), (4, .inl x4)] [] m Q := by
  have e1 : gx_w (x3 + 1) = x3 + 1 := gx_w_id (by omega) (by omega)
  have e2 : gx_w (x4 - 1) = x4 - 1 := gx_w_id (by omega) (by omega)
  refine gx_blk (C := True) (npc := 88) (L' := [(0, .inr 86), (3, .inl (gx_w (x3 + 1))), (4, .inl (gx_w (x4 - 1)))]) (st' := []) (m' := m) [((101, .iload_n 3, 1, 0, 0, 0, 0), (0, 0, 0)), ((102, .iconst 1, 1, 0, 0, 0, 0), (0, 0, 0)), ((103, .iadd, 1, 0, 0, 0, 0), (0, 0, 0)), ((104, .istore_n 3, 1, 0, 0, 0, 0), (0, 0, 0)), ((105, .iload 4, 2, 0, 0, 0, 0), (0, 0, 0)), ((107, .iconst 1, 1, 0, 0, 0, 0), (0, 0, 0)), ((108, .isub, 1, 0, 0, 0, 0), (0, 0, 0)), ((109, .istore 4, 2, 0, 0, 0, 0), (0, 0, 0)), ((111, .goto (-23), 3, 0, 0, 0, 0), (0, 0, 0))] (by decide +kernel) rfl trivial ?_
  rw [e1, e2]
  exact gx_to_pick [0, 3, 4] h1

/-- inOrder from 0 on -/
theorem gt213_0 {xs : List Int32} {w0 : sx_W} {d : Nat} {Q : gx_Q} {m : gx_M} {x1 x2 : Int}
    (h1 : gx_to xs w0 d yp_m162 0 [(0, .inl x1), (1, .inl 1), (2, .inl 160)] [] m (fun r m' => gx_to xs w0 (d + 1) yp_m213 8 [(0, .inr 86), (1, .inl x1), (2, .inl x2)] (gx_rs r ++ []) m' Q)) : gx_to xs w0 (d + 1) yp_m213 0 [(0, .inr 86), (1, .inl x1), (2, .inl x2)] [] m Q := by
  refine gx_blk (C := True) (npc := 5) (L' := [(0, .inr 86), (1, .inl x1), (2, .inl x2)]) (st' := [.inl 160, .inl 1, .inl x1]) (m' := m) [((0, .iload_n 1, 1, 0, 0, 0, 0), (0, 0, 0)), ((1, .iconst 1, 1, 0, 0, 0, 0), (0, 0, 0)), ((2, .sipush 160, 3, 0, 0, 0, 0), (0, 0, 0))] (by decide +kernel) rfl trivial ?_
  exact gx_calls (E := (5, .invokestatic 108, 3, 162, 0, 6023, 0)) (M' := yp_m162) [.inl x1, .inl 1, .inl 160] [] rfl (by decide +kernel) rfl ⟨rfl, rfl⟩ rfl rfl (Nat.le_of_ble_eq_true rfl) (Nat.le_of_ble_eq_true rfl) rfl (gx_to_mono h1 (fun r m' h' => gx_to_pick [0, 1, 2] h'))

/-- inOrder from 8 on -/
theorem gt213_8 {xs : List Int32} {w0 : sx_W} {d : Nat} {Q : gx_Q} {m : gx_M} {x1 x2 s0 : Int} (hI : gx_I m)
    (h1 : (s0 = 0) → Q (some (-1)) m)
    (h2 : (s0 ≠ 0) → (x1 ≤ (m 86 4)) → gx_to xs w0 d yp_m191 0 [(0, .inr 86), (1, .inl x1)] [] m (fun r m' => gx_to xs w0 (d + 1) yp_m213 26 [(0, .inr 86), (2, .inl x2)] (gx_rs r ++ []) m' Q))
    (h3 : (s0 ≠ 0) → ((m 86 4) < x1) → Q (some (-1)) m) : gx_to xs w0 (d + 1) yp_m213 8 [(0, .inr 86), (1, .inl x1), (2, .inl x2)] [.inl s0] m Q := by
  refine gx_if .eq 19 (by decide +kernel) (fun c1 => ?_) (fun c1 => ?_)
  · have c1 : s0 = 0 := c1
    refine gx_blk (C := True) (npc := 20) (L' := [(0, .inr 86), (1, .inl x1), (2, .inl x2)]) (st' := [.inl (-1)]) (m' := m) [((19, .iconst (-1), 1, 0, 0, 0, 0), (0, 0, 0))] (by decide +kernel) rfl trivial ?_
    exact gx_reti (by decide +kernel) (h1 c1)
  · have c1 : s0 ≠ 0 := c1
    have f1 := gx_I_n hI 86 4 0 260 (by decide +kernel)
    refine gx_blk (C := True) (npc := 16) (L' := [(0, .inr 86), (1, .inl x1), (2, .inl x2)]) (st' := [.inl (m 86 4), .inl x1]) (m' := m) [((11, .iload_n 1, 1, 0, 0, 0, 0), (0, 0, 0)), ((12, .aload_n 0, 1, 0, 0, 0, 0), (0, 0, 0)), ((13, .getfield 124, 3, 10, 4, 5117, 0), (0, 86, 0))] (by decide +kernel) rfl trivial ?_
    refine gx_cmp .le 21 (by decide +kernel) (fun c2 => ?_) (fun c2 => ?_)
    · have c2 : x1 ≤ (m 86 4) := c2
      refine gx_blk (C := True) (npc := 23) (L' := [(0, .inr 86), (1, .inl x1), (2, .inl x2)]) (st' := [.inl x1, .inr 86]) (m' := m) [((21, .aload_n 0, 1, 0, 0, 0, 0), (0, 0, 0)), ((22, .iload_n 1, 1, 0, 0, 0, 0), (0, 0, 0))] (by decide +kernel) rfl trivial ?_
      exact gx_callv (E := (23, .invokevirtual 284, 3, 191, 0, 6136, 0)) (M' := yp_m191) (c := 86) [.inl x1] [] rfl (by decide +kernel) rfl ⟨rfl, rfl⟩ rfl rfl (Nat.le_of_ble_eq_true rfl) (Nat.le_of_ble_eq_true rfl) (by decide +kernel) (gx_to_mono (h2 c1 c2) (fun r m' h' => gx_to_pick [0, 2] h'))
    · have c2 : (m 86 4) < x1 := by have h : ¬ (x1 ≤ (m 86 4)) := c2; omega
      refine gx_blk (C := True) (npc := 20) (L' := [(0, .inr 86), (1, .inl x1), (2, .inl x2)]) (st' := [.inl (-1)]) (m' := m) [((19, .iconst (-1), 1, 0, 0, 0, 0), (0, 0, 0))] (by decide +kernel) rfl trivial ?_
      exact gx_reti (by decide +kernel) (h3 c1 c2)

/-- inOrder from 26 on -/
theorem gt213_26 {xs : List Int32} {w0 : sx_W} {d : Nat} {Q : gx_Q} {m : gx_M} {x2 s0 : Int} (hI : gx_I m)
    (h1 : (s0 ≠ 0) → (6 < (m 86 32)) → Q (some (-3)) m)
    (h2 : (s0 ≠ 0) → ((m 86 32) ≤ 6) → gx_to xs w0 d yp_m162 0 [(0, .inl x2), (1, .inl (-1)), (2, .inl ((m 86 32) - 1))] [] m (fun r m' => gx_to xs w0 (d + 1) yp_m213 54 [(0, .inr 86), (2, .inl x2)] (gx_rs r ++ []) m' Q))
    (h3 : (s0 = 0) → Q (some (m 86 7)) m) : gx_to xs w0 (d + 1) yp_m213 26 [(0, .inr 86), (2, .inl x2)] [.inl s0] m Q := by
  refine gx_if .ne 34 (by decide +kernel) (fun c1 => ?_) (fun c1 => ?_)
  · have c1 : s0 ≠ 0 := c1
    have f1 := gx_I_n hI 86 32 0 16 (by decide +kernel)
    refine gx_blk (C := True) (npc := 40) (L' := [(0, .inr 86), (2, .inl x2)]) (st' := [.inl 6, .inl (m 86 32)]) (m' := m) [((34, .aload_n 0, 1, 0, 0, 0, 0), (0, 0, 0)), ((35, .getfield 254, 3, 10, 32, 5145, 0), (0, 86, 0)), ((38, .bipush 6, 2, 0, 0, 0, 0), (0, 0, 0))] (by decide +kernel) rfl trivial ?_
    refine gx_cmp .gt 57 (by decide +kernel) (fun c2 => ?_) (fun c2 => ?_)
    · have c2 : 6 < (m 86 32) := c2
      refine gx_blk (C := True) (npc := 59) (L' := [(0, .inr 86), (2, .inl x2)]) (st' := [.inl (-3)]) (m' := m) [((57, .bipush (-3), 2, 0, 0, 0, 0), (0, 0, 0))] (by decide +kernel) rfl trivial ?_
      exact gx_reti (by decide +kernel) (h1 c1 c2)
    · have c2 : (m 86 32) ≤ 6 := by have h : ¬ (6 < (m 86 32)) := c2; omega
      have e2 : gx_w ((m 86 32) - 1) = (m 86 32) - 1 := gx_w_id (by omega) (by omega)
      refine gx_blk (C := True) (npc := 51) (L' := [(0, .inr 86), (2, .inl x2)]) (st' := [.inl (gx_w ((m 86 32) - 1)), .inl (-1), .inl x2]) (m' := m) [((43, .iload_n 2, 1, 0, 0, 0, 0), (0, 0, 0)), ((44, .iconst (-1), 1, 0, 0, 0, 0), (0, 0, 0)), ((45, .aload_n 0, 1, 0, 0, 0, 0), (0, 0, 0)), ((46, .getfield 254, 3, 10, 32, 5145, 0), (0, 86, 0)), ((49, .iconst 1, 1, 0, 0, 0, 0), (0, 0, 0)), ((50, .isub, 1, 0, 0, 0, 0), (0, 0, 0))] (by decide +kernel) rfl trivial ?_
      rw [e2]
      exact gx_calls (E := (51, .invokestatic 108, 3, 162, 0, 6023, 0)) (M' := yp_m162) [.inl x2, .inl (-1), .inl ((m 86 32) - 1)] [] rfl (by decide +kernel) rfl ⟨rfl, rfl⟩ rfl rfl (Nat.le_of_ble_eq_true rfl) (Nat.le_of_ble_eq_true rfl) rfl (gx_to_mono (h2 c1 c2) (fun r m' h' => gx_to_pick [0, 2] h'))
  · have c1 : s0 = 0 := by have h : ¬ (s0 ≠ 0) := c1; omega
    refine gx_blk (C := True) (npc := 33) (L' := [(0, .inr 86), (2, .inl x2)]) (st' := [.inl (m 86 7)]) (m' := m) [((29, .aload_n 0, 1, 0, 0, 0, 0), (0, 0, 0)), ((30, .getfield 142, 3, 10, 7, 5120, 0), (0, 86, 0))] (by decide +kernel) rfl trivial ?_
    exact gx_reti (by decide +kernel) (h3 c1)

/-- inOrder from 54 on -/
theorem gt213_54 {xs : List Int32} {w0 : sx_W} {d : Nat} {Q : gx_Q} {m : gx_M} {x2 s0 : Int}
    (h1 : (s0 ≠ 0) → gx_to xs w0 d yp_m212 0 [(0, .inr 87), (1, .inr 88)] [] m (fun r m' => gx_to xs w0 (d + 1) yp_m213 71 [(0, .inr 86), (2, .inl x2)] (gx_rs r ++ []) m' Q))
    (h2 : (s0 = 0) → Q (some (-3)) m) : gx_to xs w0 (d + 1) yp_m213 54 [(0, .inr 86), (2, .inl x2)] [.inl s0] m Q := by
  refine gx_if .ne 60 (by decide +kernel) (fun c1 => ?_) (fun c1 => ?_)
  · have c1 : s0 ≠ 0 := c1
    refine gx_blk (C := True) (npc := 68) (L' := [(0, .inr 86), (2, .inl x2)]) (st' := [.inr 88, .inr 87]) (m' := m) [((60, .aload_n 0, 1, 0, 0, 0, 0), (0, 0, 0)), ((61, .getfield 7, 3, 10, 0, 5113, 0), (1, 86, 87)), ((64, .aload_n 0, 1, 0, 0, 0, 0), (0, 0, 0)), ((65, .getfield 13, 3, 10, 1, 5114, 0), (1, 86, 88))] (by decide +kernel) rfl trivial ?_
    exact gx_calls (E := (68, .invokestatic 290, 3, 212, 0, 6217, 0)) (M' := yp_m212) [.inr 87, .inr 88] [] rfl (by decide +kernel) rfl ⟨rfl, rfl⟩ rfl rfl (Nat.le_of_ble_eq_true rfl) (Nat.le_of_ble_eq_true rfl) rfl (gx_to_mono (h1 c1) (fun r m' h' => gx_to_pick [0, 2] h'))
  · have c1 : s0 = 0 := by have h : ¬ (s0 ≠ 0) := c1; omega
    refine gx_blk (C := True) (npc := 59) (L' := [(0, .inr 86), (2, .inl x2)]) (st' := [.inl (-3)]) (m' := m) [((57, .bipush (-3), 2, 0, 0, 0, 0), (0, 0, 0))] (by decide +kernel) rfl trivial ?_
    exact gx_reti (by decide +kernel) (h2 c1)

/-- inOrder from 71 on -/
theorem gt213_71 {xs : List Int32} {w0 : sx_W} {d : Nat} {Q : gx_Q} {m : gx_M} {x2 : Int}
    (h1 : gx_to xs w0 d yp_m213 73 [(0, .inr 86), (2, .inl x2), (3, .inl 0)] [] m Q) : gx_to xs w0 d yp_m213 71 [(0, .inr 86), (2, .inl x2)] [] m Q := by
  refine gx_blk (C := True) (npc := 73) (L' := [(0, .inr 86), (2, .inl x2), (3, .inl 0)]) (st' := []) (m' := m) [((71, .iconst 0, 1, 0, 0, 0, 0), (0, 0, 0)), ((72, .istore_n 3, 1, 0, 0, 0, 0), (0, 0, 0))] (by decide +kernel) rfl trivial ?_
  exact gx_to_pick [0, 2, 3] h1

/-- inOrder from 73 on -/
theorem gt213_73 {xs : List Int32} {w0 : sx_W} {d : Nat} {Q : gx_Q} {m : gx_M} {x2 x3 : Int} (hI : gx_I m) (r_x3 : 0 ≤ x3 ∧ x3 ≤ 6)
    (h1 : ((m 86 32) ≤ x3) → gx_to xs w0 d yp_m214 0 [(0, .inr 86)] [] m (fun r m' => gx_to xs w0 (d + 1) yp_m213 98 [(0, .inr 86), (2, .inl x2)] (gx_rs r ++ []) m' Q))
    (k1 : (x3 < (m 86 32)) → 0 ≤ x3 ∧ x3 < 6)
    (h2 : (x3 < (m 86 32)) → gx_to xs w0 (d + 1) yp_m213 73 [(0, .inr 86), (2, .inl x2), (3, .inl (x3 + 1))] [] (gx_u m 109 (x3).toNat x3) Q) : gx_to xs w0 (d + 1) yp_m213 73 [(0, .inr 86), (2, .inl x2), (3, .inl x3)] [] m Q := by
  have f1 := gx_I_n hI 86 32 0 16 (by decide +kernel)
  refine gx_blk (C := True) (npc := 78) (L' := [(0, .inr 86), (2, .inl x2), (3, .inl x3)]) (st' := [.inl (m 86 32), .inl x3]) (m' := m) [((73, .iload_n 3, 1, 0, 0, 0, 0), (0, 0, 0)), ((74, .aload_n 0, 1, 0, 0, 0, 0), (0, 0, 0)), ((75, .getfield 254, 3, 10, 32, 5145, 0), (0, 86, 0))] (by decide +kernel) rfl trivial ?_
  refine gx_cmp .ge 94 (by decide +kernel) (fun c1 => ?_) (fun c1 => ?_)
  · have c1 : (m 86 32) ≤ x3 := c1
    refine gx_blk (C := True) (npc := 95) (L' := [(0, .inr 86), (2, .inl x2), (3, .inl x3)]) (st' := [.inr 86]) (m' := m) [((94, .aload_n 0, 1, 0, 0, 0, 0), (0, 0, 0))] (by decide +kernel) rfl trivial ?_
    exact gx_callv (E := (95, .invokevirtual 297, 3, 214, 0, 6224, 0)) (M' := yp_m214) (c := 86) [] [] rfl (by decide +kernel) rfl ⟨rfl, rfl⟩ rfl rfl (Nat.le_of_ble_eq_true rfl) (Nat.le_of_ble_eq_true rfl) (by decide +kernel) (gx_to_mono (h1 c1) (fun r m' h' => gx_to_pick [0, 2] h'))
  · have c1 : x3 < (m 86 32) := by have h : ¬ ((m 86 32) ≤ x3) := c1; omega
    have e2 : gx_w (x3 + 1) = x3 + 1 := gx_w_id (by omega) (by omega)
    refine gx_blk (C := (True ∧ (0 ≤ x3 ∧ x3 < 6))) (npc := 73) (L' := [(0, .inr 86), (2, .inl x2), (3, .inl (gx_w (x3 + 1)))]) (st' := []) (m' := (gx_u m 109 (x3).toNat x3)) [((81, .aload_n 0, 1, 0, 0, 0, 0), (0, 0, 0)), ((82, .getfield 77, 3, 10, 33, 5146, 0), (1, 86, 109)), ((85, .iload_n 3, 1, 0, 0, 0, 0), (0, 0, 0)), ((86, .iload_n 3, 1, 0, 0, 0, 0), (0, 0, 0)), ((87, .iastore, 1, 0, 0, 0, 0), (0, 109, 6)), ((88, .iinc 3 1, 3, 0, 0, 0, 0), (0, 0, 0)), ((91, .goto (-18), 3, 0, 0, 0, 0), (0, 0, 0))] (by decide +kernel) rfl ⟨trivial, (k1 c1)⟩ ?_
    rw [e2]
    exact gx_to_pick [0, 2, 3] (h2 c1)

/-- inOrder from 98 on -/
theorem gt213_98 {xs : List Int32} {w0 : sx_W} {d : Nat} {Q : gx_Q} {m : gx_M} {x2 s0 : Int}
    (h1 : gx_to xs w0 d yp_m213 99 [(0, .inr 86), (2, .inl x2), (3, .inl s0)] [] m Q) : gx_to xs w0 d yp_m213 98 [(0, .inr 86), (2, .inl x2)] [.inl s0] m Q := by
  refine gx_blk (C := True) (npc := 99) (L' := [(0, .inr 86), (2, .inl x2), (3, .inl s0)]) (st' := []) (m' := m) [((98, .istore_n 3, 1, 0, 0, 0, 0), (0, 0, 0))] (by decide +kernel) rfl trivial ?_
  exact gx_to_pick [0, 2, 3] h1

/-- inOrder from 99 on -/
theorem gt213_99 {xs : List Int32} {w0 : sx_W} {d : Nat} {Q : gx_Q} {m : gx_M} {x2 x3 : Int} (hI : gx_I m) (r_x2 : (-1) ≤ x2 ∧ x2 ≤ 5) (r_x3 : 0 ≤ x3 ∧ x3 ≤ 1)
    (h1 : (x3 ≠ 0) → (x2 ≠ (-1)) → (x3 ≠ 0) → Q (some (m 109 (x2).toNat)) m)
    (h2 : (x3 ≠ 0) → (x2 = (-1)) → (x3 ≠ 0) → Q (some 1) m)
    (h3 : (x3 = 0) → gx_to xs w0 d yp_m215 0 [(0, .inr 86)] [] m (fun r m' => gx_to xs w0 (d + 1) yp_m213 107 [(0, .inr 86), (2, .inl x2), (3, .inl x3)] (gx_rs r ++ []) m' Q)) : gx_to xs w0 (d + 1) yp_m213 99 [(0, .inr 86), (2, .inl x2), (3, .inl x3)] [] m Q := by
  refine gx_blk (C := True) (npc := 100) (L' := [(0, .inr 86), (2, .inl x2), (3, .inl x3)]) (st' := [.inl x3]) (m' := m) [((99, .iload_n 3, 1, 0, 0, 0, 0), (0, 0, 0))] (by decide +kernel) rfl trivial ?_
  refine gx_if .ne 118 (by decide +kernel) (fun c1 => ?_) (fun c1 => ?_)
  · have c1 : x3 ≠ 0 := c1
    refine gx_blk (C := True) (npc := 120) (L' := [(0, .inr 86), (2, .inl x2), (3, .inl x3)]) (st' := [.inl (-1), .inl x2]) (m' := m) [((118, .iload_n 2, 1, 0, 0, 0, 0), (0, 0, 0)), ((119, .iconst (-1), 1, 0, 0, 0, 0), (0, 0, 0))] (by decide +kernel) rfl trivial ?_
    refine gx_cmp .ne 133 (by decide +kernel) (fun c2 => ?_) (fun c2 => ?_)
    · have c2 : x2 ≠ (-1) := c2
      refine gx_blk (C := True) (npc := 134) (L' := [(0, .inr 86), (2, .inl x2), (3, .inl x3)]) (st' := [.inl x3]) (m' := m) [((133, .iload_n 3, 1, 0, 0, 0, 0), (0, 0, 0))] (by decide +kernel) rfl trivial ?_
      refine gx_if .eq 146 (by decide +kernel) (fun c3 => ?_) (fun c3 => ?_)
      · have c3 : x3 = 0 := c3
        exfalso; omega
      · have c3 : x3 ≠ 0 := c3
        have f1 := gx_I_at hI 109 (z := x2) 0 5 0 5 (by decide +kernel) (by omega) (by omega)
        refine gx_blk (C := (True ∧ (0 ≤ x2 ∧ x2 < 6))) (npc := 148) (L' := [(0, .inr 86), (2, .inl x2), (3, .inl x3)]) (st' := [.inl (m 109 (x2).toNat)]) (m' := m) [((137, .aload_n 0, 1, 0, 0, 0, 0), (0, 0, 0)), ((138, .getfield 77, 3, 10, 33, 5146, 0), (1, 86, 109)), ((141, .iload_n 2, 1, 0, 0, 0, 0), (0, 0, 0)), ((142, .iaload, 1, 0, 0, 0, 0), (0, 109, 6)), ((143, .goto 5, 3, 0, 0, 0, 0), (0, 0, 0))] (by decide +kernel) rfl ⟨trivial, (by omega)⟩ ?_
        exact gx_reti (by decide +kernel) (h1 c1 c2 c3)
    · have c2 : x2 = (-1) := by have h : ¬ (x2 ≠ (-1)) := c2; omega
      refine gx_blk (C := True) (npc := 124) (L' := [(0, .inr 86), (2, .inl x2), (3, .inl x3)]) (st' := [.inl x3]) (m' := m) [((123, .iload_n 3, 1, 0, 0, 0, 0), (0, 0, 0))] (by decide +kernel) rfl trivial ?_
      refine gx_if .eq 131 (by decide +kernel) (fun c3 => ?_) (fun c3 => ?_)
      · have c3 : x3 = 0 := c3
        exfalso; omega
      · have c3 : x3 ≠ 0 := c3
        refine gx_blk (C := True) (npc := 132) (L' := [(0, .inr 86), (2, .inl x2), (3, .inl x3)]) (st' := [.inl 1]) (m' := m) [((127, .iconst 1, 1, 0, 0, 0, 0), (0, 0, 0)), ((128, .goto 4, 3, 0, 0, 0, 0), (0, 0, 0))] (by decide +kernel) rfl trivial ?_
        exact gx_reti (by decide +kernel) (h2 c1 c2 c3)
  · have c1 : x3 = 0 := by have h : ¬ (x3 ≠ 0) := c1; omega
    refine gx_blk (C := True) (npc := 104) (L' := [(0, .inr 86), (2, .inl x2), (3, .inl x3)]) (st' := [.inr 86]) (m' := m) [((103, .aload_n 0, 1, 0, 0, 0, 0), (0, 0, 0))] (by decide +kernel) rfl trivial ?_
    exact gx_callv (E := (104, .invokevirtual 300, 3, 215, 0, 6228, 0)) (M' := yp_m215) (c := 86) [] [] rfl (by decide +kernel) rfl ⟨rfl, rfl⟩ rfl rfl (Nat.le_of_ble_eq_true rfl) (Nat.le_of_ble_eq_true rfl) (by decide +kernel) (gx_to_mono (h3 c1) (fun r m' h' => gx_to_pick [0, 2, 3] h'))

/-- inOrder from 107 on -/
theorem gt213_107 {xs : List Int32} {w0 : sx_W} {d : Nat} {Q : gx_Q} {m : gx_M} {x2 x3 s0 : Int} (hI : gx_I m) (r_x2 : (-1) ≤ x2 ∧ x2 ≤ 5) (r_x3 : 0 ≤ x3 ∧ x3 ≤ 1)
    (h1 : (s0 = 0) → (x2 ≠ (-1)) → (x3 = 0) → Q (some (-2)) m)
    (h2 : (s0 = 0) → (x2 ≠ (-1)) → (x3 ≠ 0) → Q (some (m 109 (x2).toNat)) m)
    (h3 : (s0 = 0) → (x2 = (-1)) → (x3 = 0) → Q (some 0) m)
    (h4 : (s0 = 0) → (x2 = (-1)) → (x3 ≠ 0) → Q (some 1) m)
    (h5 : (s0 ≠ 0) → gx_to xs w0 d yp_m214 0 [(0, .inr 86)] [] m (fun r m' => gx_to xs w0 (d + 1) yp_m213 114 [(0, .inr 86), (2, .inl x2)] (gx_rs r ++ []) m' Q)) : gx_to xs w0 (d + 1) yp_m213 107 [(0, .inr 86), (2, .inl x2), (3, .inl x3)] [.inl s0] m Q := by
  refine gx_if .eq 118 (by decide +kernel) (fun c1 => ?_) (fun c1 => ?_)
  · have c1 : s0 = 0 := c1
    refine gx_blk (C := True) (npc := 120) (L' := [(0, .inr 86), (2, .inl x2), (3, .inl x3)]) (st' := [.inl (-1), .inl x2]) (m' := m) [((118, .iload_n 2, 1, 0, 0, 0, 0), (0, 0, 0)), ((119, .iconst (-1), 1, 0, 0, 0, 0), (0, 0, 0))] (by decide +kernel) rfl trivial ?_
    refine gx_cmp .ne 133 (by decide +kernel) (fun c2 => ?_) (fun c2 => ?_)
    · have c2 : x2 ≠ (-1) := c2
      refine gx_blk (C := True) (npc := 134) (L' := [(0, .inr 86), (2, .inl x2), (3, .inl x3)]) (st' := [.inl x3]) (m' := m) [((133, .iload_n 3, 1, 0, 0, 0, 0), (0, 0, 0))] (by decide +kernel) rfl trivial ?_
      refine gx_if .eq 146 (by decide +kernel) (fun c3 => ?_) (fun c3 => ?_)
      · have c3 : x3 = 0 := c3
        refine gx_blk (C := True) (npc := 148) (L' := [(0, .inr 86), (2, .inl x2), (3, .inl x3)]) (st' := [.inl (-2)]) (m' := m) [((146, .bipush (-2), 2, 0, 0, 0, 0), (0, 0, 0))] (by decide +kernel) rfl trivial ?_
        exact gx_reti (by decide +kernel) (h1 c1 c2 c3)
      · have c3 : x3 ≠ 0 := c3
        have f1 := gx_I_at hI 109 (z := x2) 0 5 0 5 (by decide +kernel) (by omega) (by omega)
        refine gx_blk (C := (True ∧ (0 ≤ x2 ∧ x2 < 6))) (npc := 148) (L' := [(0, .inr 86), (2, .inl x2), (3, .inl x3)]) (st' := [.inl (m 109 (x2).toNat)]) (m' := m) [((137, .aload_n 0, 1, 0, 0, 0, 0), (0, 0, 0)), ((138, .getfield 77, 3, 10, 33, 5146, 0), (1, 86, 109)), ((141, .iload_n 2, 1, 0, 0, 0, 0), (0, 0, 0)), ((142, .iaload, 1, 0, 0, 0, 0), (0, 109, 6)), ((143, .goto 5, 3, 0, 0, 0, 0), (0, 0, 0))] (by decide +kernel) rfl ⟨trivial, (by omega)⟩ ?_
        exact gx_reti (by decide +kernel) (h2 c1 c2 c3)
    · have c2 : x2 = (-1) := by have h : ¬ (x2 ≠ (-1)) := c2; omega
      refine gx_blk (C := True) (npc := 124) (L' := [(0, .inr 86), (2, .inl x2), (3, .inl x3)]) (st' := [.inl x3]) (m' := m) [((123, .iload_n 3, 1, 0, 0, 0, 0), (0, 0, 0))] (by decide +kernel) rfl trivial ?_
      refine gx_if .eq 131 (by decide +kernel) (fun c3 => ?_) (fun c3 => ?_)
      · have c3 : x3 = 0 := c3
        refine gx_blk (C := True) (npc := 132) (L' := [(0, .inr 86), (2, .inl x2), (3, .inl x3)]) (st' := [.inl 0]) (m' := m) [((131, .iconst 0, 1, 0, 0, 0, 0), (0, 0, 0))] (by decide +kernel) rfl trivial ?_
        exact gx_reti (by decide +kernel) (h3 c1 c2 c3)
      · have c3 : x3 ≠ 0 := c3
        refine gx_blk (C := True) (npc := 132) (L' := [(0, .inr 86), (2, .inl x2), (3, .inl x3)]) (st' := [.inl 1]) (m' := m) [((127, .iconst 1, 1, 0, 0, 0, 0), (0, 0, 0)), ((128, .goto 4, 3, 0, 0, 0, 0), (0, 0, 0))] (by decide +kernel) rfl trivial ?_
        exact gx_reti (by decide +kernel) (h4 c1 c2 c3)
  · have c1 : s0 ≠ 0 := c1
    refine gx_blk (C := True) (npc := 111) (L' := [(0, .inr 86), (2, .inl x2), (3, .inl x3)]) (st' := [.inr 86]) (m' := m) [((110, .aload_n 0, 1, 0, 0, 0, 0), (0, 0, 0))] (by decide +kernel) rfl trivial ?_
    exact gx_callv (E := (111, .invokevirtual 297, 3, 214, 0, 6224, 0)) (M' := yp_m214) (c := 86) [] [] rfl (by decide +kernel) rfl ⟨rfl, rfl⟩ rfl rfl (Nat.le_of_ble_eq_true rfl) (Nat.le_of_ble_eq_true rfl) (by decide +kernel) (gx_to_mono (h5 c1) (fun r m' h' => gx_to_pick [0, 2] h'))

/-- inOrder from 114 on -/
theorem gt213_114 {xs : List Int32} {w0 : sx_W} {d : Nat} {Q : gx_Q} {m : gx_M} {x2 s0 : Int}
    (h1 : gx_to xs w0 d yp_m213 99 [(0, .inr 86), (2, .inl x2), (3, .inl s0)] [] m Q) : gx_to xs w0 d yp_m213 114 [(0, .inr 86), (2, .inl x2)] [.inl s0] m Q := by
  refine gx_blk (C := True) (npc := 99) (L' := [(0, .inr 86), (2, .inl x2), (3, .inl s0)]) (st' := []) (m' := m) [((114, .istore_n 3, 1, 0, 0, 0, 0), (0, 0, 0)), ((115, .goto (-16), 3, 0, 0, 0, 0), (0, 0, 0))] (by decide +kernel) rfl trivial ?_
  exact gx_to_pick [0, 2, 3] h1
end
section
/-! inOrder -/
def bk_152b : bx_K := (201, 0, [(0, (2, 86, 0)), (1, (0, 0, 39)), (2, (0, 0, 7)), (3, (0, (-2147483648), 2147483647))], [], [(some (some (0, 0, 1)), 0, [], [])], [(102, 0, 260), (103, 0, 14)], [4], 4, none)
def bk_211b : bx_K := (195, 0, [(0, (2, 86, 0)), (1, (0, 0, 15))], [], [(some (some (0, 0, 1)), 0, [], [])], [(87, 0, 1131), (102, 0, 260), (103, 0, 14)], [2, 3, 4, 5], 5, none)
theorem bc_211b : bx_chk yp_P [bk_99, bk_152b, bk_199, bk_219, bk_220] 1500 bw_INV bw_PC yp_m195 bk_211b = true := by decide +kernel
def lo_d (n : Nat) (r : Nat → Int) : Prop := ∀ i j, i < n → j < n → r i = r j → i = j
def lo_sw (r : Nat → Int) (a b : Nat) : Nat → Int := lf_up (lf_up r a (r b)) b (r a)
theorem lo_sw_at (r : Nat → Int) (a b i : Nat) : lo_sw r a b i = r (if i = b then a else if i = a then b else i) := by
  unfold lo_sw lf_up
  split
  · rfl
  · split <;> rfl
theorem lo_d_sw {n a b : Nat} {r : Nat → Int} (ha : a < n) (hb : b < n) (h : lo_d n r) : lo_d n (lo_sw r a b) := by
  intro i j hi hj e
  rw [lo_sw_at, lo_sw_at] at e
  have h1 := h _ _ (by split; exact ha; split; exact hb; exact hi) (by split; exact ha; split; exact hb; exact hj) e
  split at h1 <;> split at h1 <;> (try split at h1) <;> (try split at h1) <;> omega
def lo_e : Nat → (Nat → Int) → Int
  | 0, _ => 0
  | k + 1, r => 6 * lo_e k r + r k
def lo_p : Nat → Int
  | 0 => 1
  | k + 1 => 6 * lo_p k
theorem lo_e_eq {r r' : Nat → Int} : ∀ k : Nat, (∀ i, i < k → r' i = r i) → lo_e k r' = lo_e k r
  | 0, _ => rfl
  | k + 1, h => by
    unfold lo_e
    rw [lo_e_eq k (fun i hi => h i (by omega)), h k (by omega)]
theorem lo_e_lt {r r' : Nat → Int} {k : Nat} (hp : ∀ i, i < k → r' i = r i) (hk : r k < r' k) : ∀ j : Nat, (∀ i, i < k + 1 + j → (0 ≤ r i ∧ r i ≤ 5) ∧ (0 ≤ r' i ∧ r' i ≤ 5)) → lo_e (k + 1 + j) r < lo_e (k + 1 + j) r'
  | 0, hb => by
    show 6 * lo_e k r + r k < 6 * lo_e k r' + r' k
    rw [lo_e_eq k hp]
    omega
  | j + 1, hb => by
    have h1 := lo_e_lt hp hk j (fun i hi => hb i (by omega))
    have h2 := hb (k + 1 + j) (by omega)
    show 6 * lo_e (k + 1 + j) r + r (k + 1 + j) < 6 * lo_e (k + 1 + j) r' + r' (k + 1 + j)
    omega
theorem lo_e_bd {r : Nat → Int} : ∀ n : Nat, (∀ i, i < n → 0 ≤ r i ∧ r i ≤ 5) → 0 ≤ lo_e n r ∧ lo_e n r + 1 ≤ lo_p n
  | 0, _ => ⟨Int.le_refl _, Int.le_refl _⟩
  | n + 1, h => by
    have h1 := lo_e_bd n (fun i hi => h i (by omega))
    have h2 := h n (by omega)
    unfold lo_e lo_p
    omega
theorem lo_p6 : ∀ n : Nat, n < 7 → lo_p n ≤ 46656 := by decide
section GOR
variable {xs : List Int32} {w0 : sx_W} {d : Nat} {Q : gx_Q} {m : gx_M}
theorem bq_211b (h : bw_H1 xs (gx_XW gx_X)) (hB : bx_Kok yp_P xs bw_INV (gx_XW gx_X) bk_152b) : bx_Kok yp_P xs bw_INV (gx_XW gx_X) bk_211b := bx_chk_K h.1 h.2 (List.forall_mem_cons.mpr ⟨bx_chk_K h.1 h.2 bx_Tnil (M := yp_m165) rfl bc_99, (List.forall_mem_cons.mpr ⟨hB, (List.forall_mem_cons.mpr ⟨bx_chk_K h.1 h.2 bx_Tnil (M := yp_m199) rfl bc_199, (List.forall_mem_cons.mpr ⟨bx_chk_K h.1 h.2 (List.forall_mem_cons.mpr ⟨bx_chk_K h.1 h.2 bx_Tnil (M := yp_m199) rfl bc_199, bx_Tnil⟩) (M := yp_m197) rfl bc_219, (List.forall_mem_cons.mpr ⟨bx_chk_K h.1 h.2 bx_Tnil (M := yp_m210) rfl bc_220, bx_Tnil⟩)⟩)⟩)⟩)⟩) (M := yp_m195) rfl bc_211b
theorem gk_isBarredb (h : bw_H1 xs (gx_XW gx_X)) : bx_Kok yp_P xs bw_INV (gx_XW gx_X) bk_152b := by
  refine gx_K_of (by decide) rfl (fun M w0 v m hM hv hI hX _ => ?_)
  cases (Option.some.inj (hM.symm.trans rfl) : M = yp_m201)
  match v, hv with
  | x1 :: x2 :: x3 :: r, hv =>
    have h1 : 0 ≤ x1 ∧ x1 ≤ 39 := hv.1.2
    have h2 : 0 ≤ x2 ∧ x2 ≤ 7 := hv.2.1.2
    exact gc_isBarred (d := 0) h hI hX h1 (by omega) hv.2.2.1.2 (fun v m' hv hI' hX' hf _ => ⟨⟨rfl, by show 0 ≤ v; omega, by show v ≤ 1; omega⟩, hI', hX', hf⟩)
def gx_do : bx_M := [(87, 0, 1131), (102, 0, 260), (103, 0, 14)]
theorem gc_does (h : bw_H1 xs (gx_XW gx_X)) (hI : gx_I m) (hX : gx_X m) {a : Int} (ha : 0 ≤ a ∧ a ≤ 15) (hQ : ∀ v m', 0 ≤ v ∧ v ≤ 1 → gx_I m' → gx_X m' → gx_fw gx_do m m' → Q (some v) m') : gx_to xs w0 (d + 5) yp_m195 0 [(0, .inr 86), (1, .inl a)] [] m Q :=
  gx_K (bq_211b h (gk_isBarredb h)) rfl (by omega) (by decide +kernel) rfl ⟨⟨rfl, rfl⟩, ⟨rfl, ha⟩, trivial⟩ hI hX (fun r m' he hI' hX' hf => by
    obtain ⟨x, rfl, x1, x2⟩ := gx_end_i he
    exact hQ x m' ⟨x1, x2⟩ hI' hX' hf)
theorem gc_back (h : bw_H1 xs (gx_XW gx_X)) (hI : gx_I m) (hX : gx_X m) (hQ : ∀ m', gx_I m' → gx_X m' → gx_fw gx_do m m' → Q none m') : gx_to xs w0 d yp_m212 0 [(0, .inr 88), (1, .inr 87)] [] m Q :=
  gx_K (bp_411 h) rfl (Nat.zero_le _) (by decide +kernel) rfl ⟨⟨rfl, rfl⟩, ⟨rfl, rfl⟩, trivial⟩ hI hX (fun r m' he hI' hX' hf => by
    rw [gx_end_0 he]
    exact hQ m' hI' hX' (hf.sub (fun q hq => ⟨q, by rw [List.mem_singleton] at hq; subst hq; exact List.mem_cons_self, rfl, Nat.le_refl _, Nat.le_refl _⟩)))
theorem gx_do_row {m m' : gx_M} (h : gx_fw gx_do m m') {c : Nat} (h1 : c ≠ 87) (h2 : c ≠ 102) (h3 : c ≠ 103) : m' c = m c := h.row (fun q hq e => by
  simp only [gx_do, List.mem_cons, List.not_mem_nil, or_false] at hq
  rcases hq with rfl | rfl | rfl
  · exact h1 e.symm
  · exact h2 e.symm
  · exact h3 e.symm)
def go_ar (m0 : gx_M) (n : Nat) (m : gx_M) : Prop := gx_I m ∧ gx_X m ∧ gx_fw gx_do m0 m ∧ m 86 32 = n
theorem gl_done (h : bw_H1 xs (gx_XW gx_X)) {m0 : gx_M} {n : Nat} (hn : n ≤ 6) (hQ : ∀ v m', 0 ≤ v ∧ v ≤ 1 → go_ar m0 n m' → Q (some v) m') : ∀ (j : Nat) (k v : Int) (m : gx_M), n - k = j → 0 ≤ k → 0 ≤ v ∧ v ≤ 1 → go_ar m0 n m → gx_to xs w0 (d + 6) yp_m214 4 [(0, .inr 86), (1, .inl v), (2, .inl k)] [] m Q := by
  intro j
  have hend : ∀ (v : Int) (m : gx_M), 0 ≤ v ∧ v ≤ 1 → go_ar m0 n m → gx_to xs w0 (d + 5) yp_m212 0 [(0, .inr 88), (1, .inr 87)] [] m (fun r m' => gx_to xs w0 (d + 6) yp_m214 44 [(1, .inl v)] (gx_rs r ++ []) m' Q) := fun v m hv hs => gc_back h hs.1 hs.2.1 (fun m' g1 g2 g3 => by
    have e : m' 86 32 = n := by rw [gx_do_row g3 (by decide) (by decide) (by decide)]; exact hs.2.2.2
    exact gt214_44 hv (by omega) (hQ v m' hv ⟨g1, g2, hs.2.2.1.tr g3, e⟩))
  induction j with
  | zero =>
    intro k v m hj h0 hv hs
    have e := hs.2.2.2
    exact gt214_4 hs.1 hv (by omega) (by omega) (fun _ => hend v m hv hs) (fun _ _ => hend v m hv hs) (fun c => by omega)
  | succ j ih =>
    intro k v m hj h0 hv hs
    have e := hs.2.2.2
    refine gt214_4 hs.1 hv (by omega) (by omega) (fun _ => hend v m hv hs) (fun _ _ => hend v m hv hs) (fun c _ => ?_)
    have hr := gx_I_at hs.1 109 (z := k) 0 5 0 5 (by decide +kernel) (by omega) (by omega)
    refine gc_does h hs.1 hs.2.1 (by omega) (fun v' m' g0 g1 g2 g3 => ?_)
    have e' : m' 86 32 = n := by rw [gx_do_row g3 (by decide) (by decide) (by decide)]; exact e
    exact gt214_26 (by omega) (by omega) (ih (k + 1) v' m' (by omega) (by omega) g0 ⟨g1, g2, hs.2.2.1.tr g3, e'⟩)
theorem gc_done (h : bw_H1 xs (gx_XW gx_X)) {n : Nat} (hn : n ≤ 6) (hI : gx_I m) (hX : gx_X m) (h32 : m 86 32 = n) (hQ : ∀ v m', 0 ≤ v ∧ v ≤ 1 → go_ar m n m' → Q (some v) m') : gx_to xs w0 (d + 6) yp_m214 0 [(0, .inr 86)] [] m Q :=
  gt214_0 (by omega) (gl_done h hn hQ n 0 1 m (by omega) (by omega) (by omega) ⟨hI, hX, gx_fw.rf, h32⟩)
/-! the next row -/
def gx_rw : bx_M := [(109, 0, 6)]
def go_st (m0 : gx_M) (n : Nat) (m : gx_M) : Prop := gx_I m ∧ gx_fw gx_rw m0 m ∧ m 86 32 = n ∧ lo_d n (m 109)
theorem go_bd (hI : gx_I m) {i : Nat} (hi : i < 6) : 0 ≤ m 109 i ∧ m 109 i ≤ 5 := by
  have := gx_I_at hI 109 (z := (i : Int)) 0 5 0 5 (by decide +kernel) (by omega) (by omega)
  rwa [Int.toNat_natCast] at this
theorem go_sw {m0 m : gx_M} {n a b : Nat} (hn : n ≤ 6) (hs : go_st m0 n m) (ha : a < n) (hb : b < n) : go_st m0 n (gx_u (gx_u m 109 a (m 109 b)) 109 b (m 109 a)) ∧ (gx_u (gx_u m 109 a (m 109 b)) 109 b (m 109 a)) 109 = lo_sw (m 109) a b := by
  have e : (gx_u (gx_u m 109 a (m 109 b)) 109 b (m 109 a)) 109 = lo_sw (m 109) a b := by rw [gx_u_row, gx_u_row]; rfl
  have ba := go_bd hs.1 (i := a) (by omega)
  have bb := go_bd hs.1 (i := b) (by omega)
  have w1 := gx_I_w hs.1 109 (z := (a : Int)) (v := m 109 b) 0 5 0 5 (by decide +kernel) (by omega) (by omega) bb.1 bb.2
  have w2 := gx_I_w w1 109 (z := (b : Int)) (v := m 109 a) 0 5 0 5 (by decide +kernel) (by omega) (by omega) ba.1 ba.2
  rw [Int.toNat_natCast, Int.toNat_natCast] at w2
  refine ⟨⟨w2, (hs.2.1.w ⟨_, List.mem_singleton.mpr rfl, rfl, Nat.zero_le _, by show a < 6; omega⟩).w ⟨_, List.mem_singleton.mpr rfl, rfl, Nat.zero_le _, by show b < 6; omega⟩, ?_, ?_⟩, e⟩
  · rw [gx_u_off (by decide : (86 : Nat) ≠ 109), gx_u_off (by decide : (86 : Nat) ≠ 109)]
    exact hs.2.2.1
  · rw [e]
    exact lo_d_sw ha hb hs.2.2.2
theorem gc_sw {a b : Nat} (hI : gx_I m) (ha : a < 6) (hb : b < 6) (h : Q none (gx_u (gx_u m 109 a (m 109 b)) 109 b (m 109 a))) : gx_to xs w0 d yp_m216 0 [(0, .inr 86), (1, .inl (a : Int)), (2, .inl (b : Int))] [] m Q :=
  gt216_0 hI (by omega) (by omega) (by rw [Int.toNat_natCast, Int.toNat_natCast]; exact h)
theorem gl_n88 {m0 : gx_M} {n k : Nat} (hn : n ≤ 6) {r : Nat → Int} (hQ : ∀ m', go_st m0 n m' → (∀ i, i ≤ k → m' 109 i = r i) → Q (some 1) m') : ∀ (j a b : Nat) (m : gx_M), b - a ≤ j → k < a → a ≤ n → b < n → go_st m0 n m → (∀ i, i ≤ k → m 109 i = r i) → gx_to xs w0 (d + 1) yp_m215 88 [(0, .inr 86), (3, .inl (a : Int)), (4, .inl (b : Int))] [] m Q := by
  intro j
  induction j with
  | zero =>
    intro a b m hj ha han hb hs hr
    have e := hs.2.2.1
    exact gt215_88 (by omega) (by omega) (by omega) (fun _ => hQ m hs hr) (fun c => by omega)
  | succ j ih =>
    intro a b m hj ha han hb hs hr
    have e := hs.2.2.1
    refine gt215_88 (by omega) (by omega) (by omega) (fun _ => hQ m hs hr) (fun c => gc_sw hs.1 (by omega) (by omega) ?_)
    obtain ⟨g1, g2⟩ := go_sw hn hs (by omega : a < n) hb
    have e' := g1.2.2.1
    refine gt215_101 (by omega) (by omega) (by omega) ?_
    have := ih (a + 1) (b - 1) _ (by omega) (by omega) (by omega) (by omega) g1 (fun i hi => by rw [g2, lo_sw_at, if_neg (by omega), if_neg (by omega)]; exact hr i hi)
    rw [show ((a + 1 : Nat) : Int) = (a : Int) + 1 by omega, show ((b - 1 : Nat) : Int) = (b : Int) - 1 by omega] at this
    exact this
theorem gl_n48 {n k : Nat} (hn : n ≤ 6) (hI : gx_I m) (h32 : m 86 32 = n) (hd : lo_d n (m 109)) (hkn : k + 1 < n) (hlt : m 109 k < m 109 (k + 1)) (hQ : ∀ m', go_st m n m' → lo_e n (m 109) < lo_e n (m' 109) → Q (some 1) m') : ∀ (j q : Nat), q - (k + 1) = j → k + 1 ≤ q → q < n → gx_to xs w0 (d + 1) yp_m215 48 [(0, .inr 86), (1, .inl (k : Int)), (2, .inl (q : Int))] [] m Q := by
  intro j
  have hgo : ∀ q : Nat, k + 1 ≤ q → q < n → m 109 k ≤ m 109 q → gx_to xs w0 d yp_m216 0 [(0, .inr 86), (1, .inl (k : Int)), (2, .inl (q : Int))] [] m (fun r m' => gx_to xs w0 (d + 1) yp_m215 76 [(0, .inr 86), (1, .inl (k : Int))] (gx_rs r ++ []) m' Q) := fun q h1 h2 h3 => by
    have hst : go_st m n m := ⟨hI, gx_fw.rf, h32, hd⟩
    obtain ⟨g1, g2⟩ := go_sw hn hst (by omega : k < n) h2
    have e' := g1.2.2.1
    have hne : m 109 k ≠ m 109 q := fun e => by have := hd k q (by omega) h2 e; omega
    refine gc_sw hI (by omega) (by omega) (gt215_76 g1.1 (by omega) (by omega) ?_)
    rw [e']
    have := gl_n88 (xs := xs) (w0 := w0) (d := d) (m0 := m) (k := k) hn (r := lo_sw (m 109) k q) (Q := Q) (fun m' s1 s2 => hQ m' s1 (by
      have := lo_e_lt (r := m 109) (r' := m' 109) (k := k) (fun i hi => by rw [s2 i (by omega), lo_sw_at, if_neg (by omega), if_neg (by omega)]) (by rw [s2 k (Nat.le_refl _), lo_sw_at, if_neg (by omega), if_pos rfl]; omega) (n - (k + 1)) (fun i hi => ⟨go_bd hI (by omega), go_bd s1.1 (by omega)⟩)
      rwa [show k + 1 + (n - (k + 1)) = n by omega] at this)) n (k + 1) (n - 1) _ (by omega) (by omega) (by omega) (by omega) g1 (fun i hi => by rw [g2])
    rw [show ((k + 1 : Nat) : Int) = (k : Int) + 1 by omega, show ((n - 1 : Nat) : Int) = (n : Int) - 1 by omega] at this
    exact this
  induction j with
  | zero =>
    intro q hj h1 h2
    have e : q = k + 1 := by omega
    refine gt215_48 hI (by omega) (by omega) (by omega) (fun c => ?_) (fun c => ?_)
    · rw [Int.toNat_natCast, Int.toNat_natCast] at c
      exact hgo q h1 h2 c
    · rw [Int.toNat_natCast, Int.toNat_natCast, e] at c
      omega
  | succ j ih =>
    intro q hj h1 h2
    refine gt215_48 hI (by omega) (by omega) (by omega) (fun c => ?_) (fun c => ?_)
    · rw [Int.toNat_natCast, Int.toNat_natCast] at c
      exact hgo q h1 h2 c
    · have := ih (q - 1) (by omega) (by omega) (by omega)
      rw [show ((q - 1 : Nat) : Int) = (q : Int) - 1 by omega] at this
      exact this
theorem gl_n7 {n : Nat} (hn : n ≤ 6) (hI : gx_I m) (h32 : m 86 32 = n) (hd : lo_d n (m 109)) (hQ0 : Q (some 0) m) (hQ : ∀ m', go_st m n m' → lo_e n (m 109) < lo_e n (m' 109) → Q (some 1) m') : ∀ (j : Nat) (k : Int), k + 1 ≤ j → -2 ≤ k → k + 2 ≤ n → gx_to xs w0 (d + 1) yp_m215 7 [(0, .inr 86), (1, .inl k)] [] m Q := by
  intro j
  induction j with
  | zero => exact fun k hj h0 h1 => gt215_7 hI (by omega) (by omega) (fun _ _ => hQ0) (fun c => by omega) (fun c => by omega)
  | succ j ih =>
    intro k hj h0 h1
    refine gt215_7 hI (by omega) (by omega) (fun _ _ => hQ0) (fun c c' _ => ?_) (fun c _ => ih (k - 1) (by omega) (by omega) (by omega))
    obtain ⟨k0, rfl⟩ : ∃ i : Nat, k = (i : Int) := ⟨k.toNat, by omega⟩
    rw [Int.toNat_natCast, show ((k0 : Int) + 1).toNat = k0 + 1 by omega] at c'
    have hne : m 109 k0 ≠ m 109 (k0 + 1) := fun e => by have := hd k0 (k0 + 1) (by omega) (by omega) e; omega
    have := gl_n48 (xs := xs) (w0 := w0) (d := d) hn hI h32 hd (by omega) (by omega) hQ (n - 1 - (k0 + 1)) (n - 1) rfl (by omega) (by omega)
    rw [h32, show (n : Int) - 1 = ((n - 1 : Nat) : Int) by omega]
    exact this
theorem gc_next {n : Nat} (hn : n ≤ 6) (hI : gx_I m) (h32 : m 86 32 = n) (hd : lo_d n (m 109)) (hQ0 : Q (some 0) m) (hQ : ∀ m', go_st m n m' → lo_e n (m 109) < lo_e n (m' 109) → Q (some 1) m') : gx_to xs w0 (d + 1) yp_m215 0 [(0, .inr 86)] [] m Q :=
  gt215_0 hI (by omega) (by rw [h32]; exact gl_n7 hn hI h32 hd hQ0 hQ n _ (by omega) (by omega) (by omega))
def gx_od : bx_M := [(86, 4, 5), (86, 5, 6), (86, 6, 7), (86, 7, 8), (86, 8, 9), (86, 32, 33), (87, 0, 1131), (88, 0, 1131), (102, 0, 260), (103, 0, 14), (104, 0, 16), (105, 0, 16), (106, 0, 16), (107, 0, 16), (108, 0, 16), (109, 0, 6)]
def go_od (m0 : gx_M) (n : Nat) (m : gx_M) : Prop := gx_I m ∧ gx_X m ∧ gx_fw gx_od m0 m ∧ m 86 32 = n ∧ lo_d n (m 109)
theorem gl_o99 (h : bw_H1 xs (gx_XW gx_X)) {m0 : gx_M} {n : Nat} (hn : n ≤ 6) {what : Int} (hw : -1 ≤ what ∧ what ≤ 5) (hQ : ∀ v m', gx_I m' → gx_X m' → gx_fw gx_od m0 m' → Q (some v) m') : ∀ (c : Nat) (v : Int) (m : gx_M), (46656 - lo_e n (m 109)).toNat ≤ c → 0 ≤ v ∧ v ≤ 1 → go_od m0 n m → gx_to xs w0 (d + 7) yp_m213 99 [(0, .inr 86), (2, .inl what), (3, .inl v)] [] m Q := by
  intro c
  induction c using Nat.strongRecOn with
  | _ c ih =>
    intro v m hc hv hs
    have hno : ∀ v, Q (some v) m := fun v => hQ v m hs.1 hs.2.1 hs.2.2.1
    refine gt213_99 hs.1 hw hv (fun _ _ _ => hno _) (fun _ _ _ => hno _) (fun _ => gc_next (d := d + 5) hn hs.1 hs.2.2.2.1 hs.2.2.2.2
      (gt213_107 hs.1 hw hv (fun _ _ _ => hno _) (fun _ _ _ => hno _) (fun _ _ _ => hno _) (fun _ _ _ => hno _) (fun e => absurd rfl e)) (fun m1 g1 g2 => ?_))
    have hf1 : gx_fw gx_od m m1 := g1.2.1.sub (fun q hq => ⟨q, by rw [gx_rw, List.mem_singleton] at hq; subst hq; simp [gx_od], rfl, Nat.le_refl _, Nat.le_refl _⟩)
    have hX1 := gx_X_c.fw g1.2.1 (by decide) hs.2.1
    have hno1 : ∀ v, Q (some v) m1 := fun v => hQ v m1 g1.1 hX1 (hs.2.2.1.tr hf1)
    refine gt213_107 g1.1 hw hv (fun _ _ _ => hno1 _) (fun _ _ _ => hno1 _) (fun _ _ _ => hno1 _) (fun _ _ _ => hno1 _) (fun _ => gc_done h hn g1.1 hX1 g1.2.2.1 (fun v2 m2 v2b s => gt213_114 ?_))
    have e109 := gx_do_row s.2.2.1 (by decide : (109 : Nat) ≠ 87) (by decide) (by decide)
    have b1 := lo_e_bd n (r := m 109) (fun i hi => go_bd hs.1 (by omega))
    have b2 := lo_e_bd n (r := m1 109) (fun i hi => go_bd g1.1 (by omega))
    have p6 := lo_p6 n (by omega)
    refine ih (46656 - lo_e n (m2 109)).toNat ?_ v2 m2 (Nat.le_refl _) v2b ⟨s.1, s.2.1, (hs.2.2.1.tr hf1).tr (s.2.2.1.sub (fun q hq => ⟨q, ?_, rfl, Nat.le_refl _, Nat.le_refl _⟩)), s.2.2.2, by rw [e109]; exact g1.2.2.2⟩
    · rw [e109]
      omega
    · simp only [gx_do, List.mem_cons, List.not_mem_nil, or_false] at hq
      rcases hq with rfl | rfl | rfl <;> simp [gx_od]
theorem gl_o73 (h : bw_H1 xs (gx_XW gx_X)) {m0 : gx_M} {n : Nat} (hn : n ≤ 6) {what : Int} (hw : -1 ≤ what ∧ what ≤ 5) (hQ : ∀ v m', gx_I m' → gx_X m' → gx_fw gx_od m0 m' → Q (some v) m') : ∀ (j k : Nat) (m : gx_M), n - k = j → k ≤ n → gx_I m → gx_X m → gx_fw gx_od m0 m → m 86 32 = n → (∀ i : Nat, i < k → m 109 i = i) → gx_to xs w0 (d + 7) yp_m213 73 [(0, .inr 86), (2, .inl what), (3, .inl (k : Int))] [] m Q := by
  intro j
  induction j with
  | zero =>
    intro k m hj hk hI hX hf h32 hr
    refine gt213_73 hI (by omega) (fun _ => gc_done h hn hI hX h32 (fun v m' hv s => gt213_98 ?_)) (fun c => by omega) (fun c => by omega)
    have e109 := gx_do_row s.2.2.1 (by decide : (109 : Nat) ≠ 87) (by decide) (by decide)
    refine gl_o99 h hn hw hQ _ v m' (Nat.le_refl _) hv ⟨s.1, s.2.1, hf.tr (s.2.2.1.sub (fun q hq => ⟨q, ?_, rfl, Nat.le_refl _, Nat.le_refl _⟩)), s.2.2.2, fun a b ha hb e => ?_⟩
    · simp only [gx_do, List.mem_cons, List.not_mem_nil, or_false] at hq
      rcases hq with rfl | rfl | rfl <;> simp [gx_od]
    · rw [e109, hr a (by omega), hr b (by omega)] at e
      omega
  | succ j ih =>
    intro k m hj hk hI hX hf h32 hr
    refine gt213_73 hI (by omega) (fun c => by omega) (fun c => by omega) (fun c => ?_)
    have w1 := gx_I_w hI 109 (z := (k : Int)) (v := (k : Int)) 0 5 0 5 (by decide +kernel) (by omega) (by omega) (by omega) (by omega)
    rw [Int.toNat_natCast] at w1 ⊢
    have := ih (k + 1) (gx_u m 109 k (k : Int)) (by omega) (by omega) w1 (gx_X_c.fw (mods := gx_rw) (gx_fw.rf.w ⟨_, List.mem_singleton.mpr rfl, rfl, Nat.zero_le _, by show k < 6; omega⟩) (by decide) hX) (hf.w ⟨(109, 0, 6), by simp [gx_od], rfl, Nat.zero_le _, by show k < 6; omega⟩) (by rw [gx_u_off (by decide : (86 : Nat) ≠ 109)]; exact h32) (fun i hi => by
      rw [gx_u_row]
      unfold lf_up
      by_cases e : i = k
      · rw [if_pos e, e]
      · rw [if_neg e]; exact hr i (by omega))
    rw [show ((k + 1 : Nat) : Int) = (k : Int) + 1 by omega] at this
    exact this
theorem gc_order (h : bw_H1 xs (gx_XW gx_X)) (hI : gx_I m) (hX : gx_X m) {n0 what : Int} (hQ : ∀ v m', gx_I m' → gx_X m' → gx_fw gx_od m m' → Q (some v) m') : gx_to xs w0 (d + 7) yp_m213 0 [(0, .inr 86), (1, .inl n0), (2, .inl what)] [] m Q := by
  have hno : ∀ v, Q (some v) m := fun v => hQ v m hI hX gx_fw.rf
  refine gt213_0 (gc_in (fun a b => gt213_8 hI (fun e => by omega) (fun _ _ => gx_K (bp_142 h) rfl (by omega) (by decide +kernel) rfl ⟨⟨rfl, rfl⟩, ⟨rfl, a, b⟩, trivial⟩ hI hX (fun r m1 he hI1 hX1 hf => ?_)) (fun _ _ => hno _)) (fun _ => gt213_8 hI (fun _ => hno _) (fun e => absurd rfl e) (fun e => absurd rfl e)))
  obtain ⟨v, rfl, v1, v2⟩ := gx_end_i he
  have hf1 : gx_fw gx_od m m1 := hf.sub (fun q hq => ⟨q, by
    simp only [List.mem_cons, List.not_mem_nil, or_false] at hq
    rcases hq with rfl | rfl | rfl | rfl | rfl | rfl | rfl | rfl | rfl | rfl | rfl <;> simp [gx_od], rfl, Nat.le_refl _, Nat.le_refl _⟩)
  have hno1 : ∀ v, Q (some v) m1 := fun v => hQ v m1 hI1 hX1 hf1
  have hb := gx_I_n hI1 86 32 0 16 (by decide +kernel)
  refine gt213_26 hI1 (fun _ _ => hno1 _) (fun _ c => gc_in (fun a b => gt213_54 (fun _ => ?_) (fun e => by omega)) (fun _ => gt213_54 (fun e => absurd rfl e) (fun _ => hno1 _))) (fun _ => hno1 _)
  refine gx_K (bp_100 h) rfl (Nat.zero_le _) (by decide +kernel) rfl ⟨⟨rfl, rfl⟩, ⟨rfl, rfl⟩, trivial⟩ hI1 hX1 (fun r m2 he hI2 hX2 hf2 => ?_)
  rw [gx_end_0 he]
  have e86 : m2 86 = m1 86 := hf2.row (fun q hq e => by rw [List.mem_singleton] at hq; subst hq; cases e)
  obtain ⟨n, hn⟩ : ∃ n : Nat, m1 86 32 = n := ⟨(m1 86 32).toNat, by omega⟩
  refine gt213_71 (gl_o73 h (n := n) (by omega) (by omega) hQ n 0 m2 rfl (by omega) hI2 hX2 (hf1.tr (hf2.sub (fun q hq => ⟨q, by rw [List.mem_singleton] at hq; subst hq; simp [gx_od], rfl, Nat.le_refl _, Nat.le_refl _⟩))) (by rw [e86]; exact hn) (fun i hi => absurd hi (Nat.not_lt_zero _)))
theorem gk_order (h : bw_H1 xs (gx_XW gx_X)) : bx_Kok yp_P xs bw_INV (gx_XW gx_X) bk_110 := by
  refine gx_K_of (by decide) rfl (fun M w0 v m hM hv hI hX _ => ?_)
  cases (Option.some.inj (hM.symm.trans rfl) : M = yp_m213)
  match v, hv with
  | x1 :: x2 :: r, hv =>
    exact gc_order (d := 1) h hI hX (fun v m' hI' hX' hf hb => ⟨⟨rfl, hb v rfl⟩, hI', hX', hf⟩)
end GOR
end
