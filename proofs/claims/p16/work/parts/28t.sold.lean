/-! roads of methods read by hand, from cut points to the next ones (printed by wip/gen/gxall.py) -/
/-- isYear from 0 on -/
theorem gt196_0 {xs : List Int32} {w0 : sx_W} {d : Nat} {Q : gx_Q} {m : gx_M} {x1 : Int} (hI : gx_I m)
    (h1 : (x1 < 0) → Q (some 0) m)
    (h2 : (0 ≤ x1) → (40 ≤ x1) → Q (some 0) m)
    (h3 : (0 ≤ x1) → (x1 < 40) → ((m 87 (440 + x1).toNat) ≠ 1) → Q (some 0) m)
    (h4 : (0 ≤ x1) → (x1 < 40) → ((m 87 (440 + x1).toNat) = 1) → Q (some 1) m) : gx_to xs w0 d yp_m196 0 [(0, .inr 86), (1, .inl x1)] [] m Q := by
  refine gx_blk (C := True) (npc := 1) (L' := [(0, .inr 86), (1, .inl x1)]) (st' := [.inl x1]) (m' := m) [((0, .iload_n 1, 1, 0, 0, 0, 0), (0, 0, 0))] (by decide +kernel) rfl trivial ?_
  refine gx_if .lt 28 (by decide +kernel) (fun c1 => ?_) (fun c1 => ?_)
  · have c1 : x1 < 0 := c1
    refine gx_blk (C := True) (npc := 29) (L' := [(0, .inr 86), (1, .inl x1)]) (st' := [.inl 0]) (m' := m) [((28, .iconst 0, 1, 0, 0, 0, 0), (0, 0, 0))] (by decide +kernel) rfl trivial ?_
    exact gx_retb (by decide +kernel) (by omega) (h1 c1)
  · have c1 : 0 ≤ x1 := by have h : ¬ (x1 < 0) := c1; omega
    refine gx_blk (C := True) (npc := 7) (L' := [(0, .inr 86), (1, .inl x1)]) (st' := [.inl 40, .inl x1]) (m' := m) [((4, .iload_n 1, 1, 0, 0, 0, 0), (0, 0, 0)), ((5, .bipush 40, 2, 0, 0, 0, 0), (0, 0, 0))] (by decide +kernel) rfl trivial ?_
    refine gx_cmp .ge 28 (by decide +kernel) (fun c2 => ?_) (fun c2 => ?_)
    · have c2 : 40 ≤ x1 := c2
      refine gx_blk (C := True) (npc := 29) (L' := [(0, .inr 86), (1, .inl x1)]) (st' := [.inl 0]) (m' := m) [((28, .iconst 0, 1, 0, 0, 0, 0), (0, 0, 0))] (by decide +kernel) rfl trivial ?_
      exact gx_retb (by decide +kernel) (by omega) (h2 c1 c2)
    · have c2 : x1 < 40 := by have h : ¬ (40 ≤ x1) := c2; omega
      have e1 : gx_w (440 + x1) = 440 + x1 := gx_w_id (by omega) (by omega)
      have f2 := gx_I_at hI 87 (z := 440 + x1) 440 479 0 1 (by decide +kernel) (by omega) (by omega)
      refine gx_blk (C := (True ∧ (0 ≤ (gx_w (440 + x1)) ∧ (gx_w (440 + x1)) < 1131))) (npc := 21) (L' := [(0, .inr 86), (1, .inl x1)]) (st' := [.inl 1, .inl (m 87 (gx_w (440 + x1)).toNat)]) (m' := m) [((10, .aload_n 0, 1, 0, 0, 0, 0), (0, 0, 0)), ((11, .getfield 7, 3, 10, 0, 5113, 0), (1, 86, 87)), ((14, .sipush 440, 3, 0, 0, 0, 0), (0, 0, 0)), ((17, .iload_n 1, 1, 0, 0, 0, 0), (0, 0, 0)), ((18, .iadd, 1, 0, 0, 0, 0), (0, 0, 0)), ((19, .iaload, 1, 0, 0, 0, 0), (0, 87, 1131)), ((20, .iconst 1, 1, 0, 0, 0, 0), (0, 0, 0))] (by decide +kernel) rfl ⟨trivial, (by rw [e1]; omega)⟩ ?_
      rw [e1]
      refine gx_cmp .ne 28 (by decide +kernel) (fun c3 => ?_) (fun c3 => ?_)
      · have c3 : (m 87 (440 + x1).toNat) ≠ 1 := c3
        refine gx_blk (C := True) (npc := 29) (L' := [(0, .inr 86), (1, .inl x1)]) (st' := [.inl 0]) (m' := m) [((28, .iconst 0, 1, 0, 0, 0, 0), (0, 0, 0))] (by decide +kernel) rfl trivial ?_
        exact gx_retb (by decide +kernel) (by omega) (h3 c1 c2 c3)
      · have c3 : (m 87 (440 + x1).toNat) = 1 := by have h : ¬ ((m 87 (440 + x1).toNat) ≠ 1) := c3; omega
        refine gx_blk (C := True) (npc := 29) (L' := [(0, .inr 86), (1, .inl x1)]) (st' := [.inl 1]) (m' := m) [((24, .iconst 1, 1, 0, 0, 0, 0), (0, 0, 0)), ((25, .goto 4, 3, 0, 0, 0, 0), (0, 0, 0))] (by decide +kernel) rfl trivial ?_
        exact gx_retb (by decide +kernel) (by omega) (h4 c1 c2 c3)

/-- isPawned from 0 on -/
theorem gt200_0 {xs : List Int32} {w0 : sx_W} {d : Nat} {Q : gx_Q} {m : gx_M} {x1 : Int} (hI : gx_I m) (r_x1 : 0 ≤ x1 ∧ x1 ≤ 39)
    (h1 : ((m 87 (280 + x1).toNat) < 0) → Q (some 0) m)
    (h2 : (0 ≤ (m 87 (280 + x1).toNat)) → Q (some 1) m) : gx_to xs w0 d yp_m200 0 [(0, .inr 86), (1, .inl x1)] [] m Q := by
  have e1 : gx_w (280 + x1) = 280 + x1 := gx_w_id (by omega) (by omega)
  have f2 := gx_I_at hI 87 (z := 280 + x1) 280 319 (-2) 7 (by decide +kernel) (by omega) (by omega)
  refine gx_blk (C := (True ∧ (0 ≤ (gx_w (280 + x1)) ∧ (gx_w (280 + x1)) < 1131))) (npc := 10) (L' := [(0, .inr 86), (1, .inl x1)]) (st' := [.inl (m 87 (gx_w (280 + x1)).toNat)]) (m' := m) [((0, .aload_n 0, 1, 0, 0, 0, 0), (0, 0, 0)), ((1, .getfield 7, 3, 10, 0, 5113, 0), (1, 86, 87)), ((4, .sipush 280, 3, 0, 0, 0, 0), (0, 0, 0)), ((7, .iload_n 1, 1, 0, 0, 0, 0), (0, 0, 0)), ((8, .iadd, 1, 0, 0, 0, 0), (0, 0, 0)), ((9, .iaload, 1, 0, 0, 0, 0), (0, 87, 1131))] (by decide +kernel) rfl ⟨trivial, (by rw [e1]; omega)⟩ ?_
  rw [e1]
  refine gx_if .lt 17 (by decide +kernel) (fun c1 => ?_) (fun c1 => ?_)
  · have c1 : (m 87 (280 + x1).toNat) < 0 := c1
    refine gx_blk (C := True) (npc := 18) (L' := [(0, .inr 86), (1, .inl x1)]) (st' := [.inl 0]) (m' := m) [((17, .iconst 0, 1, 0, 0, 0, 0), (0, 0, 0))] (by decide +kernel) rfl trivial ?_
    exact gx_retb (by decide +kernel) (by omega) (h1 c1)
  · have c1 : 0 ≤ (m 87 (280 + x1).toNat) := by have h : ¬ ((m 87 (280 + x1).toNat) < 0) := c1; omega
    refine gx_blk (C := True) (npc := 18) (L' := [(0, .inr 86), (1, .inl x1)]) (st' := [.inl 1]) (m' := m) [((13, .iconst 1, 1, 0, 0, 0, 0), (0, 0, 0)), ((14, .goto 4, 3, 0, 0, 0, 0), (0, 0, 0))] (by decide +kernel) rfl trivial ?_
    exact gx_retb (by decide +kernel) (by omega) (h2 c1)

/-- takesYears from 0 on -/
theorem gt243_0 {xs : List Int32} {w0 : sx_W} {d : Nat} {Q : gx_Q} {m : gx_M} {x1 : Int} (r_x1 : 1 ≤ x1 ∧ x1 ≤ 8)
    (h1 : gx_to xs w0 d yp_m243 7 [(0, .inr 86), (1, .inl x1), (2, .inl 0)] [] (gx_u m 86 37 x1) Q) : gx_to xs w0 d yp_m243 0 [(0, .inr 86), (1, .inl x1)] [] m Q := by
  refine gx_blk (C := True) (npc := 7) (L' := [(0, .inr 86), (1, .inl x1), (2, .inl 0)]) (st' := []) (m' := (gx_u m 86 37 x1)) [((0, .aload_n 0, 1, 0, 0, 0, 0), (0, 0, 0)), ((1, .iload_n 1, 1, 0, 0, 0, 0), (0, 0, 0)), ((2, .putfield 346, 3, 10, 37, 5150, 0), (0, 86, 0)), ((5, .iconst 0, 1, 0, 0, 0, 0), (0, 0, 0)), ((6, .istore_n 2, 1, 0, 0, 0, 0), (0, 0, 0))] (by decide +kernel) rfl trivial ?_
  exact gx_to_pick [0, 1, 2] h1

/-- takesYears from 7 on -/
theorem gt243_7 {xs : List Int32} {w0 : sx_W} {d : Nat} {Q : gx_Q} {m : gx_M} {x1 x2 : Int} (hI : gx_I m) (r_x1 : 1 ≤ x1 ∧ x1 ≤ 8) (r_x2 : 0 ≤ x2 ∧ x2 ≤ 8)
    (h1 : (x1 ≤ x2) → Q (some 1) m)
    (h2 : (x2 < x1) → gx_to xs w0 d yp_m196 0 [(0, .inr 86), (1, .inl (gx_and (m 90 (x2).toNat) 255))] [] m (fun r m' => gx_to xs w0 (d + 1) yp_m243 28 [(0, .inr 86), (1, .inl x1), (2, .inl x2), (3, .inl (gx_and (m 90 (x2).toNat) 255))] (gx_rs r ++ []) m' Q)) : gx_to xs w0 (d + 1) yp_m243 7 [(0, .inr 86), (1, .inl x1), (2, .inl x2)] [] m Q := by
  refine gx_blk (C := True) (npc := 9) (L' := [(0, .inr 86), (1, .inl x1), (2, .inl x2)]) (st' := [.inl x1, .inl x2]) (m' := m) [((7, .iload_n 2, 1, 0, 0, 0, 0), (0, 0, 0)), ((8, .iload_n 1, 1, 0, 0, 0, 0), (0, 0, 0))] (by decide +kernel) rfl trivial ?_
  refine gx_cmp .ge 82 (by decide +kernel) (fun c1 => ?_) (fun c1 => ?_)
  · have c1 : x1 ≤ x2 := c1
    refine gx_blk (C := True) (npc := 83) (L' := [(0, .inr 86), (1, .inl x1), (2, .inl x2)]) (st' := [.inl 1]) (m' := m) [((82, .iconst 1, 1, 0, 0, 0, 0), (0, 0, 0))] (by decide +kernel) rfl trivial ?_
    exact gx_retb (by decide +kernel) (by omega) (h1 c1)
  · have c1 : x2 < x1 := by have h : ¬ (x1 ≤ x2) := c1; omega
    have f1 := gx_I_at hI 90 (z := x2) 0 7 (-128) 127 (by decide +kernel) (by omega) (by omega)
    have f2 := gx_and_bd (m 90 (x2).toNat) 255 (by decide)
    refine gx_blk (C := (True ∧ (0 ≤ x2 ∧ x2 < 260))) (npc := 25) (L' := [(0, .inr 86), (1, .inl x1), (2, .inl x2), (3, .inl (gx_and (m 90 (x2).toNat) 255))]) (st' := [.inl (gx_and (m 90 (x2).toNat) 255), .inr 86]) (m' := m) [((12, .aload_n 0, 1, 0, 0, 0, 0), (0, 0, 0)), ((13, .getfield 19, 3, 10, 3, 5116, 0), (1, 86, 90)), ((16, .iload_n 2, 1, 0, 0, 0, 0), (0, 0, 0)), ((17, .baload, 1, 0, 0, 0, 0), (0, 90, 260)), ((18, .sipush 255, 3, 0, 0, 0, 0), (0, 0, 0)), ((21, .iand, 1, 0, 0, 0, 0), (0, 0, 0)), ((22, .istore_n 3, 1, 0, 0, 0, 0), (0, 0, 0)), ((23, .aload_n 0, 1, 0, 0, 0, 0), (0, 0, 0)), ((24, .iload_n 3, 1, 0, 0, 0, 0), (0, 0, 0))] (by decide +kernel) rfl ⟨trivial, (by omega)⟩ ?_
    exact gx_callv (E := (25, .invokevirtual 269, 3, 196, 0, 6156, 0)) (M' := yp_m196) (c := 86) [.inl (gx_and (m 90 (x2).toNat) 255)] [] rfl (by decide +kernel) rfl ⟨rfl, rfl⟩ rfl rfl (Nat.le_of_ble_eq_true rfl) (Nat.le_of_ble_eq_true rfl) (by decide +kernel) (gx_to_mono (h2 c1) (fun r m' h' => gx_to_pick [0, 1, 2, 3] h'))

/-- takesYears from 28 on -/
theorem gt243_28 {xs : List Int32} {w0 : sx_W} {d : Nat} {Q : gx_Q} {m : gx_M} {x1 x2 x3 s0 : Int} (r_x1 : 1 ≤ x1 ∧ x1 ≤ 8) (r_x2 : 0 ≤ x2 ∧ x2 ≤ 7)
    (h1 : (s0 = 0) → Q (some 0) m)
    (h2 : (s0 ≠ 0) → gx_to xs w0 d yp_m200 0 [(0, .inr 86), (1, .inl x3)] [] m (fun r m' => gx_to xs w0 (d + 1) yp_m243 36 [(0, .inr 86), (1, .inl x1), (2, .inl x2), (3, .inl x3)] (gx_rs r ++ []) m' Q)) : gx_to xs w0 (d + 1) yp_m243 28 [(0, .inr 86), (1, .inl x1), (2, .inl x2), (3, .inl x3)] [.inl s0] m Q := by
  refine gx_if .eq 39 (by decide +kernel) (fun c1 => ?_) (fun c1 => ?_)
  · have c1 : s0 = 0 := c1
    refine gx_blk (C := True) (npc := 40) (L' := [(0, .inr 86), (1, .inl x1), (2, .inl x2), (3, .inl x3)]) (st' := [.inl 0]) (m' := m) [((39, .iconst 0, 1, 0, 0, 0, 0), (0, 0, 0))] (by decide +kernel) rfl trivial ?_
    exact gx_retb (by decide +kernel) (by omega) (h1 c1)
  · have c1 : s0 ≠ 0 := c1
    refine gx_blk (C := True) (npc := 33) (L' := [(0, .inr 86), (1, .inl x1), (2, .inl x2), (3, .inl x3)]) (st' := [.inl x3, .inr 86]) (m' := m) [((31, .aload_n 0, 1, 0, 0, 0, 0), (0, 0, 0)), ((32, .iload_n 3, 1, 0, 0, 0, 0), (0, 0, 0))] (by decide +kernel) rfl trivial ?_
    exact gx_callv (E := (33, .invokevirtual 275, 3, 200, 0, 6171, 0)) (M' := yp_m200) (c := 86) [.inl x3] [] rfl (by decide +kernel) rfl ⟨rfl, rfl⟩ rfl rfl (Nat.le_of_ble_eq_true rfl) (Nat.le_of_ble_eq_true rfl) (by decide +kernel) (gx_to_mono (h2 c1) (fun r m' h' => gx_to_pick [0, 1, 2, 3] h'))

/-- takesYears from 36 on -/
theorem gt243_36 {xs : List Int32} {w0 : sx_W} {d : Nat} {Q : gx_Q} {m : gx_M} {x1 x2 x3 s0 : Int} (r_x1 : 1 ≤ x1 ∧ x1 ≤ 8) (r_x2 : 0 ≤ x2 ∧ x2 ≤ 7) (r_x3 : 0 ≤ x3 ∧ x3 ≤ 39)
    (h1 : (s0 = 0) → gx_to xs w0 d yp_m243 44 [(0, .inr 86), (1, .inl x1), (2, .inl x2), (3, .inl x3), (4, .inl 0)] [] m Q)
    (h2 : (s0 ≠ 0) → Q (some 0) m) : gx_to xs w0 d yp_m243 36 [(0, .inr 86), (1, .inl x1), (2, .inl x2), (3, .inl x3)] [.inl s0] m Q := by
  refine gx_if .eq 41 (by decide +kernel) (fun c1 => ?_) (fun c1 => ?_)
  · have c1 : s0 = 0 := c1
    refine gx_blk (C := True) (npc := 44) (L' := [(0, .inr 86), (1, .inl x1), (2, .inl x2), (3, .inl x3), (4, .inl 0)]) (st' := []) (m' := m) [((41, .iconst 0, 1, 0, 0, 0, 0), (0, 0, 0)), ((42, .istore 4, 2, 0, 0, 0, 0), (0, 0, 0))] (by decide +kernel) rfl trivial ?_
    exact gx_to_pick [0, 1, 2, 3, 4] (h1 c1)
  · have c1 : s0 ≠ 0 := c1
    refine gx_blk (C := True) (npc := 40) (L' := [(0, .inr 86), (1, .inl x1), (2, .inl x2), (3, .inl x3)]) (st' := [.inl 0]) (m' := m) [((39, .iconst 0, 1, 0, 0, 0, 0), (0, 0, 0))] (by decide +kernel) rfl trivial ?_
    exact gx_retb (by decide +kernel) (by omega) (h2 c1)

/-- takesYears from 44 on -/
theorem gt243_44 {xs : List Int32} {w0 : sx_W} {d : Nat} {Q : gx_Q} {m : gx_M} {x1 x2 x3 x4 : Int} (hI : gx_I m) (r_x1 : 1 ≤ x1 ∧ x1 ≤ 8) (r_x2 : 0 ≤ x2 ∧ x2 ≤ 7) (r_x3 : 0 ≤ x3 ∧ x3 ≤ 39) (r_x4 : 0 ≤ x4 ∧ x4 ≤ 7)
    (h1 : (x2 ≤ x4) → gx_to xs w0 d yp_m243 7 [(0, .inr 86), (1, .inl x1), (2, .inl (x2 + 1))] [] (gx_u m 112 (x2).toNat x3) Q)
    (h2 : (x4 < x2) → ((m 112 (x4).toNat) ≠ x3) → gx_to xs w0 d yp_m243 44 [(0, .inr 86), (1, .inl x1), (2, .inl x2), (3, .inl x3), (4, .inl (x4 + 1))] [] m Q)
    (h3 : (x4 < x2) → ((m 112 (x4).toNat) = x3) → Q (some 0) m) : gx_to xs w0 d yp_m243 44 [(0, .inr 86), (1, .inl x1), (2, .inl x2), (3, .inl x3), (4, .inl x4)] [] m Q := by
  refine gx_blk (C := True) (npc := 47) (L' := [(0, .inr 86), (1, .inl x1), (2, .inl x2), (3, .inl x3), (4, .inl x4)]) (st' := [.inl x2, .inl x4]) (m' := m) [((44, .iload 4, 2, 0, 0, 0, 0), (0, 0, 0)), ((46, .iload_n 2, 1, 0, 0, 0, 0), (0, 0, 0))] (by decide +kernel) rfl trivial ?_
  refine gx_cmp .ge 69 (by decide +kernel) (fun c1 => ?_) (fun c1 => ?_)
  · have c1 : x2 ≤ x4 := c1
    have e1 : gx_w (x2 + 1) = x2 + 1 := gx_w_id (by omega) (by omega)
    refine gx_blk (C := (True ∧ (0 ≤ x2 ∧ x2 < 8))) (npc := 7) (L' := [(0, .inr 86), (1, .inl x1), (2, .inl (gx_w (x2 + 1))), (3, .inl x3), (4, .inl x4)]) (st' := []) (m' := (gx_u m 112 (x2).toNat x3)) [((69, .aload_n 0, 1, 0, 0, 0, 0), (0, 0, 0)), ((70, .getfield 86, 3, 10, 39, 5152, 0), (1, 86, 112)), ((73, .iload_n 2, 1, 0, 0, 0, 0), (0, 0, 0)), ((74, .iload_n 3, 1, 0, 0, 0, 0), (0, 0, 0)), ((75, .iastore, 1, 0, 0, 0, 0), (0, 112, 8)), ((76, .iinc 2 1, 3, 0, 0, 0, 0), (0, 0, 0)), ((79, .goto (-72), 3, 0, 0, 0, 0), (0, 0, 0))] (by decide +kernel) rfl ⟨trivial, (by omega)⟩ ?_
    rw [e1]
    exact gx_to_pick [0, 1, 2] (h1 c1)
  · have c1 : x4 < x2 := by have h : ¬ (x2 ≤ x4) := c1; omega
    have f2 := gx_I_at hI 112 (z := x4) 0 6 0 39 (by decide +kernel) (by omega) (by omega)
    refine gx_blk (C := (True ∧ (0 ≤ x4 ∧ x4 < 8))) (npc := 58) (L' := [(0, .inr 86), (1, .inl x1), (2, .inl x2), (3, .inl x3), (4, .inl x4)]) (st' := [.inl x3, .inl (m 112 (x4).toNat)]) (m' := m) [((50, .aload_n 0, 1, 0, 0, 0, 0), (0, 0, 0)), ((51, .getfield 86, 3, 10, 39, 5152, 0), (1, 86, 112)), ((54, .iload 4, 2, 0, 0, 0, 0), (0, 0, 0)), ((56, .iaload, 1, 0, 0, 0, 0), (0, 112, 8)), ((57, .iload_n 3, 1, 0, 0, 0, 0), (0, 0, 0))] (by decide +kernel) rfl ⟨trivial, (by omega)⟩ ?_
    refine gx_cmp .ne 63 (by decide +kernel) (fun c2 => ?_) (fun c2 => ?_)
    · have c2 : (m 112 (x4).toNat) ≠ x3 := c2
      have e3 : gx_w (x4 + 1) = x4 + 1 := gx_w_id (by omega) (by omega)
      refine gx_blk (C := True) (npc := 44) (L' := [(0, .inr 86), (1, .inl x1), (2, .inl x2), (3, .inl x3), (4, .inl (gx_w (x4 + 1)))]) (st' := []) (m' := m) [((63, .iinc 4 1, 3, 0, 0, 0, 0), (0, 0, 0)), ((66, .goto (-22), 3, 0, 0, 0, 0), (0, 0, 0))] (by decide +kernel) rfl trivial ?_
      rw [e3]
      exact gx_to_pick [0, 1, 2, 3, 4] (h2 c1 c2)
    · have c2 : (m 112 (x4).toNat) = x3 := by have h : ¬ ((m 112 (x4).toNat) ≠ x3) := c2; omega
      refine gx_blk (C := True) (npc := 62) (L' := [(0, .inr 86), (1, .inl x1), (2, .inl x2), (3, .inl x3), (4, .inl x4)]) (st' := [.inl 0]) (m' := m) [((61, .iconst 0, 1, 0, 0, 0, 0), (0, 0, 0))] (by decide +kernel) rfl trivial ?_
      exact gx_retb (by decide +kernel) (by omega) (h3 c1 c2)

/-- soldBy from 0 on -/
theorem gt246_0 {xs : List Int32} {w0 : sx_W} {d : Nat} {Q : gx_Q} {m : gx_M} {x1 x2 x3 : Int} (r_x1 : 0 ≤ x1 ∧ x1 ≤ 5) (r_x2 : 0 ≤ x2 ∧ x2 ≤ 8) (r_x3 : 0 ≤ x3 ∧ x3 ≤ 255)
    (h1 : (x2 ≠ 8) → gx_to xs w0 d yp_m165 0 [(0, .inl (m 86 38)), (1, .inl x2)] [] m (fun r m' => gx_to xs w0 (d + 1) yp_m246 29 [(0, .inr 86), (1, .inl x1), (2, .inl x2), (3, .inl x3)] (gx_rs r ++ []) m' Q))
    (h2 : (x2 = 8) → Q (some (m 114 ((256 * (x1 + 1)) + x3).toNat)) m) : gx_to xs w0 (d + 1) yp_m246 0 [(0, .inr 86), (1, .inl x1), (2, .inl x2), (3, .inl x3)] [] m Q := by
  refine gx_blk (C := True) (npc := 3) (L' := [(0, .inr 86), (1, .inl x1), (2, .inl x2), (3, .inl x3)]) (st' := [.inl 8, .inl x2]) (m' := m) [((0, .iload_n 2, 1, 0, 0, 0, 0), (0, 0, 0)), ((1, .bipush 8, 2, 0, 0, 0, 0), (0, 0, 0))] (by decide +kernel) rfl trivial ?_
  refine gx_cmp .ne 21 (by decide +kernel) (fun c1 => ?_) (fun c1 => ?_)
  · have c1 : x2 ≠ 8 := c1
    refine gx_blk (C := True) (npc := 26) (L' := [(0, .inr 86), (1, .inl x1), (2, .inl x2), (3, .inl x3)]) (st' := [.inl x2, .inl (m 86 38)]) (m' := m) [((21, .aload_n 0, 1, 0, 0, 0, 0), (0, 0, 0)), ((22, .getfield 349, 3, 10, 38, 5151, 0), (0, 86, 0)), ((25, .iload_n 2, 1, 0, 0, 0, 0), (0, 0, 0))] (by decide +kernel) rfl trivial ?_
    exact gx_calls (E := (26, .invokestatic 104, 3, 165, 0, 6035, 0)) (M' := yp_m165) [.inl (m 86 38), .inl x2] [] rfl (by decide +kernel) rfl ⟨rfl, rfl⟩ rfl rfl (Nat.le_of_ble_eq_true rfl) (Nat.le_of_ble_eq_true rfl) rfl (gx_to_mono (h1 c1) (fun r m' h' => gx_to_pick [0, 1, 2, 3] h'))
  · have c1 : x2 = 8 := by have h : ¬ (x2 ≠ 8) := c1; omega
    have e1 : gx_w (x1 + 1) = x1 + 1 := gx_w_id (by omega) (by omega)
    have e2 : gx_w (256 * (x1 + 1)) = 256 * (x1 + 1) := gx_w_id (by omega) (by omega)
    have e3 : gx_w ((256 * (x1 + 1)) + x3) = (256 * (x1 + 1)) + x3 := gx_w_id (by omega) (by omega)
    refine gx_blk (C := (True ∧ (0 ≤ (gx_w ((gx_w (256 * (gx_w (x1 + 1)))) + x3)) ∧ (gx_w ((gx_w (256 * (gx_w (x1 + 1)))) + x3)) < 1792))) (npc := 20) (L' := [(0, .inr 86), (1, .inl x1), (2, .inl x2), (3, .inl x3)]) (st' := [.inl (m 114 (gx_w ((gx_w (256 * (gx_w (x1 + 1)))) + x3)).toNat)]) (m' := m) [((6, .aload_n 0, 1, 0, 0, 0, 0), (0, 0, 0)), ((7, .getfield 92, 3, 10, 41, 5154, 0), (1, 86, 114)), ((10, .sipush 256, 3, 0, 0, 0, 0), (0, 0, 0)), ((13, .iload_n 1, 1, 0, 0, 0, 0), (0, 0, 0)), ((14, .iconst 1, 1, 0, 0, 0, 0), (0, 0, 0)), ((15, .iadd, 1, 0, 0, 0, 0), (0, 0, 0)), ((16, .imul, 1, 0, 0, 0, 0), (0, 0, 0)), ((17, .iload_n 3, 1, 0, 0, 0, 0), (0, 0, 0)), ((18, .iadd, 1, 0, 0, 0, 0), (0, 0, 0)), ((19, .iaload, 1, 0, 0, 0, 0), (0, 114, 1792))] (by decide +kernel) rfl ⟨trivial, (by rw [e1, e2, e3]; omega)⟩ ?_
    rw [e1, e2, e3]
    exact gx_reti (by decide +kernel) (h2 c1)

/-- soldBy from 29 on -/
theorem gt246_29 {xs : List Int32} {w0 : sx_W} {d : Nat} {Q : gx_Q} {m : gx_M} {x1 x2 x3 s0 : Int} (r_x1 : 0 ≤ x1 ∧ x1 ≤ 5) (r_x2 : 0 ≤ x2 ∧ x2 ≤ 7) (r_x3 : 0 ≤ x3 ∧ x3 ≤ 255)
    (h1 : (s0 = 0) → Q (some (-1)) m)
    (h2 : (s0 ≠ 0) → gx_to xs w0 d yp_m165 0 [(0, .inl x3), (1, .inl x2)] [] m (fun r m' => gx_to xs w0 (d + 1) yp_m246 37 [(0, .inr 86), (1, .inl x1), (2, .inl x2), (3, .inl x3)] (gx_rs r ++ []) m' Q)) : gx_to xs w0 (d + 1) yp_m246 29 [(0, .inr 86), (1, .inl x1), (2, .inl x2), (3, .inl x3)] [.inl s0] m Q := by
  refine gx_if .eq 59 (by decide +kernel) (fun c1 => ?_) (fun c1 => ?_)
  · have c1 : s0 = 0 := c1
    refine gx_blk (C := True) (npc := 93) (L' := [(0, .inr 86), (1, .inl x1), (2, .inl x2), (3, .inl x3)]) (st' := [.inl (-1)]) (m' := m) [((59, .iconst (-1), 1, 0, 0, 0, 0), (0, 0, 0)), ((60, .goto 33, 3, 0, 0, 0, 0), (0, 0, 0))] (by decide +kernel) rfl trivial ?_
    exact gx_reti (by decide +kernel) (h1 c1)
  · have c1 : s0 ≠ 0 := c1
    refine gx_blk (C := True) (npc := 34) (L' := [(0, .inr 86), (1, .inl x1), (2, .inl x2), (3, .inl x3)]) (st' := [.inl x2, .inl x3]) (m' := m) [((32, .iload_n 3, 1, 0, 0, 0, 0), (0, 0, 0)), ((33, .iload_n 2, 1, 0, 0, 0, 0), (0, 0, 0))] (by decide +kernel) rfl trivial ?_
    exact gx_calls (E := (34, .invokestatic 104, 3, 165, 0, 6035, 0)) (M' := yp_m165) [.inl x3, .inl x2] [] rfl (by decide +kernel) rfl ⟨rfl, rfl⟩ rfl rfl (Nat.le_of_ble_eq_true rfl) (Nat.le_of_ble_eq_true rfl) rfl (gx_to_mono (h2 c1) (fun r m' h' => gx_to_pick [0, 1, 2, 3] h'))

/-- soldBy from 37 on -/
theorem gt246_37 {xs : List Int32} {w0 : sx_W} {d : Nat} {Q : gx_Q} {m : gx_M} {x1 x2 x3 s0 : Int} (hI : gx_I m) (r_x1 : 0 ≤ x1 ∧ x1 ≤ 5) (r_x2 : 0 ≤ x2 ∧ x2 ≤ 7) (r_x3 : 0 ≤ x3 ∧ x3 ≤ 255)
    (h1 : (s0 ≠ 0) → Q (some (-1)) m)
    (k1 : (s0 = 0) → ((m 87 (240 + (m 112 (x1).toNat)).toNat) ≠ x2) → 0 ≤ (gx_w ((256 * (x1 + 1)) + (gx_or x3 (gx_shl 1 x2)))) ∧ (gx_w ((256 * (x1 + 1)) + (gx_or x3 (gx_shl 1 x2)))) < 1792)
    (h2 : (s0 = 0) → ((m 87 (240 + (m 112 (x1).toNat)).toNat) ≠ x2) → Q (some (gx_w ((m 113 ((8 * x1) + x2).toNat) + (m 114 (gx_w ((256 * (x1 + 1)) + (gx_or x3 (gx_shl 1 x2)))).toNat)))) m)
    (h3 : (s0 = 0) → ((m 87 (240 + (m 112 (x1).toNat)).toNat) = x2) → Q (some (-1)) m) : gx_to xs w0 d yp_m246 37 [(0, .inr 86), (1, .inl x1), (2, .inl x2), (3, .inl x3)] [.inl s0] m Q := by
  refine gx_if .ne 59 (by decide +kernel) (fun c1 => ?_) (fun c1 => ?_)
  · have c1 : s0 ≠ 0 := c1
    refine gx_blk (C := True) (npc := 93) (L' := [(0, .inr 86), (1, .inl x1), (2, .inl x2), (3, .inl x3)]) (st' := [.inl (-1)]) (m' := m) [((59, .iconst (-1), 1, 0, 0, 0, 0), (0, 0, 0)), ((60, .goto 33, 3, 0, 0, 0, 0), (0, 0, 0))] (by decide +kernel) rfl trivial ?_
    exact gx_reti (by decide +kernel) (h1 c1)
  · have c1 : s0 = 0 := by have h : ¬ (s0 ≠ 0) := c1; omega
    have f1 := gx_I_at hI 112 (z := x1) 0 5 0 39 (by decide +kernel) (by omega) (by omega)
    have e2 : gx_w (240 + (m 112 (x1).toNat)) = 240 + (m 112 (x1).toNat) := gx_w_id (by omega) (by omega)
    have f3 := gx_I_at hI 87 (z := 240 + (m 112 (x1).toNat)) 240 279 (-2) 7 (by decide +kernel) (by omega) (by omega)
    refine gx_blk (C := (((True ∧ (0 ≤ x1 ∧ x1 < 8))) ∧ (0 ≤ (gx_w (240 + (m 112 (x1).toNat))) ∧ (gx_w (240 + (m 112 (x1).toNat))) < 1131))) (npc := 56) (L' := [(0, .inr 86), (1, .inl x1), (2, .inl x2), (3, .inl x3)]) (st' := [.inl x2, .inl (m 87 (gx_w (240 + (m 112 (x1).toNat))).toNat)]) (m' := m) [((40, .aload_n 0, 1, 0, 0, 0, 0), (0, 0, 0)), ((41, .getfield 7, 3, 10, 0, 5113, 0), (1, 86, 87)), ((44, .sipush 240, 3, 0, 0, 0, 0), (0, 0, 0)), ((47, .aload_n 0, 1, 0, 0, 0, 0), (0, 0, 0)), ((48, .getfield 86, 3, 10, 39, 5152, 0), (1, 86, 112)), ((51, .iload_n 1, 1, 0, 0, 0, 0), (0, 0, 0)), ((52, .iaload, 1, 0, 0, 0, 0), (0, 112, 8)), ((53, .iadd, 1, 0, 0, 0, 0), (0, 0, 0)), ((54, .iaload, 1, 0, 0, 0, 0), (0, 87, 1131)), ((55, .iload_n 2, 1, 0, 0, 0, 0), (0, 0, 0))] (by decide +kernel) rfl ⟨⟨trivial, (by omega)⟩, (by rw [e2]; omega)⟩ ?_
    rw [e2]
    refine gx_cmp .ne 63 (by decide +kernel) (fun c2 => ?_) (fun c2 => ?_)
    · have c2 : (m 87 (240 + (m 112 (x1).toNat)).toNat) ≠ x2 := c2
      have e4 : gx_w (8 * x1) = 8 * x1 := gx_w_id (by omega) (by omega)
      have e5 : gx_w ((8 * x1) + x2) = (8 * x1) + x2 := gx_w_id (by omega) (by omega)
      have f6 := gx_I_at hI 113 (z := (8 * x1) + x2) 0 47 0 999 (by decide +kernel) (by omega) (by omega)
      have e7 : gx_w (x1 + 1) = x1 + 1 := gx_w_id (by omega) (by omega)
      have e8 : gx_w (256 * (x1 + 1)) = 256 * (x1 + 1) := gx_w_id (by omega) (by omega)
      refine gx_blk (C := (((True ∧ (0 ≤ (gx_w ((gx_w (8 * x1)) + x2)) ∧ (gx_w ((gx_w (8 * x1)) + x2)) < 64))) ∧ (0 ≤ (gx_w ((gx_w (256 * (gx_w (x1 + 1)))) + (gx_or x3 (gx_shl 1 x2)))) ∧ (gx_w ((gx_w (256 * (gx_w (x1 + 1)))) + (gx_or x3 (gx_shl 1 x2)))) < 1792))) (npc := 93) (L' := [(0, .inr 86), (1, .inl x1), (2, .inl x2), (3, .inl x3)]) (st' := [.inl (gx_w ((m 113 (gx_w ((gx_w (8 * x1)) + x2)).toNat) + (m 114 (gx_w ((gx_w (256 * (gx_w (x1 + 1)))) + (gx_or x3 (gx_shl 1 x2)))).toNat)))]) (m' := m) [((63, .aload_n 0, 1, 0, 0, 0, 0), (0, 0, 0)), ((64, .getfield 89, 3, 10, 40, 5153, 0), (1, 86, 113)), ((67, .bipush 8, 2, 0, 0, 0, 0), (0, 0, 0)), ((69, .iload_n 1, 1, 0, 0, 0, 0), (0, 0, 0)), ((70, .imul, 1, 0, 0, 0, 0), (0, 0, 0)), ((71, .iload_n 2, 1, 0, 0, 0, 0), (0, 0, 0)), ((72, .iadd, 1, 0, 0, 0, 0), (0, 0, 0)), ((73, .iaload, 1, 0, 0, 0, 0), (0, 113, 64)), ((74, .aload_n 0, 1, 0, 0, 0, 0), (0, 0, 0)), ((75, .getfield 92, 3, 10, 41, 5154, 0), (1, 86, 114)), ((78, .sipush 256, 3, 0, 0, 0, 0), (0, 0, 0)), ((81, .iload_n 1, 1, 0, 0, 0, 0), (0, 0, 0)), ((82, .iconst 1, 1, 0, 0, 0, 0), (0, 0, 0)), ((83, .iadd, 1, 0, 0, 0, 0), (0, 0, 0)), ((84, .imul, 1, 0, 0, 0, 0), (0, 0, 0)), ((85, .iload_n 3, 1, 0, 0, 0, 0), (0, 0, 0)), ((86, .iconst 1, 1, 0, 0, 0, 0), (0, 0, 0)), ((87, .iload_n 2, 1, 0, 0, 0, 0), (0, 0, 0)), ((88, .ishl, 1, 0, 0, 0, 0), (0, 0, 0)), ((89, .ior, 1, 0, 0, 0, 0), (0, 0, 0)), ((90, .iadd, 1, 0, 0, 0, 0), (0, 0, 0)), ((91, .iaload, 1, 0, 0, 0, 0), (0, 114, 1792)), ((92, .iadd, 1, 0, 0, 0, 0), (0, 0, 0))] (by decide +kernel) rfl ⟨⟨trivial, (by rw [e4, e5]; omega)⟩, (by rw [e7, e8]; exact (k1 c1 c2))⟩ ?_
      rw [e4, e5, e7, e8]
      exact gx_reti (by decide +kernel) (h2 c1 c2)
    · have c2 : (m 87 (240 + (m 112 (x1).toNat)).toNat) = x2 := by have h : ¬ ((m 87 (240 + (m 112 (x1).toNat)).toNat) ≠ x2) := c2; omega
      refine gx_blk (C := True) (npc := 93) (L' := [(0, .inr 86), (1, .inl x1), (2, .inl x2), (3, .inl x3)]) (st' := [.inl (-1)]) (m' := m) [((59, .iconst (-1), 1, 0, 0, 0, 0), (0, 0, 0)), ((60, .goto 33, 3, 0, 0, 0, 0), (0, 0, 0))] (by decide +kernel) rfl trivial ?_
      exact gx_reti (by decide +kernel) (h3 c1 c2)

/-- laysSold from 0 on -/
theorem gt245_0 {xs : List Int32} {w0 : sx_W} {d : Nat} {Q : gx_Q} {m : gx_M} {x1 : Int} (g0 : 1 ≤ (m 86 37) ∧ (m 86 37) ≤ 6)
    (h1 : gx_to xs w0 d yp_m245 7 [(0, .inr 86), (2, .inl 0)] [] (gx_u m 86 38 x1) Q) : gx_to xs w0 d yp_m245 0 [(0, .inr 86), (1, .inl x1)] [] m Q := by
  refine gx_blk (C := True) (npc := 7) (L' := [(0, .inr 86), (1, .inl x1), (2, .inl 0)]) (st' := []) (m' := (gx_u m 86 38 x1)) [((0, .aload_n 0, 1, 0, 0, 0, 0), (0, 0, 0)), ((1, .iload_n 1, 1, 0, 0, 0, 0), (0, 0, 0)), ((2, .putfield 349, 3, 10, 38, 5151, 0), (0, 86, 0)), ((5, .iconst 0, 1, 0, 0, 0, 0), (0, 0, 0)), ((6, .istore_n 2, 1, 0, 0, 0, 0), (0, 0, 0))] (by decide +kernel) rfl trivial ?_
  exact gx_to_pick [0, 2] h1

/-- laysSold from 7 on -/
theorem gt245_7 {xs : List Int32} {w0 : sx_W} {d : Nat} {Q : gx_Q} {m : gx_M} {x2 : Int} (hI : gx_I m) (r_x2 : 0 ≤ x2 ∧ x2 ≤ 256) (g1 : 1 ≤ (m 86 37) ∧ (m 86 37) ≤ 6)
    (h1 : (256 ≤ x2) → gx_to xs w0 d yp_m245 43 [(0, .inr 86), (2, .inl ((m 86 37) - 1))] [] m Q)
    (h2 : (x2 < 256) → gx_to xs w0 d yp_m245 7 [(0, .inr 86), (2, .inl (x2 + 1))] [] (gx_u m 114 ((256 * (m 86 37)) + x2).toNat 0) Q) : gx_to xs w0 d yp_m245 7 [(0, .inr 86), (2, .inl x2)] [] m Q := by
  refine gx_blk (C := True) (npc := 11) (L' := [(0, .inr 86), (2, .inl x2)]) (st' := [.inl 256, .inl x2]) (m' := m) [((7, .iload_n 2, 1, 0, 0, 0, 0), (0, 0, 0)), ((8, .sipush 256, 3, 0, 0, 0, 0), (0, 0, 0))] (by decide +kernel) rfl trivial ?_
  refine gx_cmp .ge 36 (by decide +kernel) (fun c1 => ?_) (fun c1 => ?_)
  · have c1 : 256 ≤ x2 := c1
    have f1 := gx_I_n hI 86 37 0 8 (by decide +kernel)
    have e2 : gx_w ((m 86 37) - 1) = (m 86 37) - 1 := gx_w_id (by omega) (by omega)
    refine gx_blk (C := True) (npc := 43) (L' := [(0, .inr 86), (2, .inl (gx_w ((m 86 37) - 1)))]) (st' := []) (m' := m) [((36, .aload_n 0, 1, 0, 0, 0, 0), (0, 0, 0)), ((37, .getfield 346, 3, 10, 37, 5150, 0), (0, 86, 0)), ((40, .iconst 1, 1, 0, 0, 0, 0), (0, 0, 0)), ((41, .isub, 1, 0, 0, 0, 0), (0, 0, 0)), ((42, .istore_n 2, 1, 0, 0, 0, 0), (0, 0, 0))] (by decide +kernel) rfl trivial ?_
    rw [e2]
    exact gx_to_pick [0, 2] (h1 c1)
  · have c1 : x2 < 256 := by have h : ¬ (256 ≤ x2) := c1; omega
    have f3 := gx_I_n hI 86 37 0 8 (by decide +kernel)
    have e4 : gx_w (256 * (m 86 37)) = 256 * (m 86 37) := gx_w_id (by omega) (by omega)
    have e5 : gx_w ((256 * (m 86 37)) + x2) = (256 * (m 86 37)) + x2 := gx_w_id (by omega) (by omega)
    have e6 : gx_w (x2 + 1) = x2 + 1 := gx_w_id (by omega) (by omega)
    refine gx_blk (C := (True ∧ (0 ≤ (gx_w ((gx_w (256 * (m 86 37))) + x2)) ∧ (gx_w ((gx_w (256 * (m 86 37))) + x2)) < 1792))) (npc := 7) (L' := [(0, .inr 86), (2, .inl (gx_w (x2 + 1)))]) (st' := []) (m' := (gx_u m 114 (gx_w ((gx_w (256 * (m 86 37))) + x2)).toNat 0)) [((14, .aload_n 0, 1, 0, 0, 0, 0), (0, 0, 0)), ((15, .getfield 92, 3, 10, 41, 5154, 0), (1, 86, 114)), ((18, .sipush 256, 3, 0, 0, 0, 0), (0, 0, 0)), ((21, .aload_n 0, 1, 0, 0, 0, 0), (0, 0, 0)), ((22, .getfield 346, 3, 10, 37, 5150, 0), (0, 86, 0)), ((25, .imul, 1, 0, 0, 0, 0), (0, 0, 0)), ((26, .iload_n 2, 1, 0, 0, 0, 0), (0, 0, 0)), ((27, .iadd, 1, 0, 0, 0, 0), (0, 0, 0)), ((28, .iconst 0, 1, 0, 0, 0, 0), (0, 0, 0)), ((29, .iastore, 1, 0, 0, 0, 0), (0, 114, 1792)), ((30, .iinc 2 1, 3, 0, 0, 0, 0), (0, 0, 0)), ((33, .goto (-26), 3, 0, 0, 0, 0), (0, 0, 0))] (by decide +kernel) rfl ⟨trivial, (by rw [e4, e5]; omega)⟩ ?_
    rw [e4, e5, e6]
    exact gx_to_pick [0, 2] (h2 c1)

/-- laysSold from 43 on -/
theorem gt245_43 {xs : List Int32} {w0 : sx_W} {d : Nat} {Q : gx_Q} {m : gx_M} {x2 : Int} (r_x2 : (-1) ≤ x2 ∧ x2 ≤ 5) (g1 : 1 ≤ (m 86 37) ∧ (m 86 37) ≤ 6)
    (h1 : (x2 < 0) → Q (some (m 114 0)) m)
    (h2 : (0 ≤ x2) → gx_to xs w0 d yp_m245 49 [(0, .inr 86), (2, .inl x2), (3, .inl 0)] [] m Q) : gx_to xs w0 d yp_m245 43 [(0, .inr 86), (2, .inl x2)] [] m Q := by
  refine gx_blk (C := True) (npc := 44) (L' := [(0, .inr 86), (2, .inl x2)]) (st' := [.inl x2]) (m' := m) [((43, .iload_n 2, 1, 0, 0, 0, 0), (0, 0, 0))] (by decide +kernel) rfl trivial ?_
  refine gx_if .lt 129 (by decide +kernel) (fun c1 => ?_) (fun c1 => ?_)
  · have c1 : x2 < 0 := c1
    refine gx_blk (C := (True ∧ (0 ≤ 0 ∧ 0 < 1792))) (npc := 135) (L' := [(0, .inr 86), (2, .inl x2)]) (st' := [.inl (m 114 0)]) (m' := m) [((129, .aload_n 0, 1, 0, 0, 0, 0), (0, 0, 0)), ((130, .getfield 92, 3, 10, 41, 5154, 0), (1, 86, 114)), ((133, .iconst 0, 1, 0, 0, 0, 0), (0, 0, 0)), ((134, .iaload, 1, 0, 0, 0, 0), (0, 114, 1792))] (by decide +kernel) rfl ⟨trivial, (by omega)⟩ ?_
    exact gx_reti (by decide +kernel) (h1 c1)
  · have c1 : 0 ≤ x2 := by have h : ¬ (x2 < 0) := c1; omega
    refine gx_blk (C := True) (npc := 49) (L' := [(0, .inr 86), (2, .inl x2), (3, .inl 0)]) (st' := []) (m' := m) [((47, .iconst 0, 1, 0, 0, 0, 0), (0, 0, 0)), ((48, .istore_n 3, 1, 0, 0, 0, 0), (0, 0, 0))] (by decide +kernel) rfl trivial ?_
    exact gx_to_pick [0, 2, 3] (h2 c1)

/-- laysSold from 49 on -/
theorem gt245_49 {xs : List Int32} {w0 : sx_W} {d : Nat} {Q : gx_Q} {m : gx_M} {x2 x3 : Int} (r_x2 : 0 ≤ x2 ∧ x2 ≤ 5) (r_x3 : 0 ≤ x3 ∧ x3 ≤ 256) (g2 : 1 ≤ (m 86 37) ∧ (m 86 37) ≤ 6)
    (h1 : (256 ≤ x3) → gx_to xs w0 d yp_m245 43 [(0, .inr 86), (2, .inl (x2 + (-1)))] [] m Q)
    (h2 : (x3 < 256) → gx_to xs w0 d yp_m245 62 [(0, .inr 86), (2, .inl x2), (3, .inl x3), (4, .inl 0), (5, .inl 0)] [] m Q) : gx_to xs w0 d yp_m245 49 [(0, .inr 86), (2, .inl x2), (3, .inl x3)] [] m Q := by
  refine gx_blk (C := True) (npc := 53) (L' := [(0, .inr 86), (2, .inl x2), (3, .inl x3)]) (st' := [.inl 256, .inl x3]) (m' := m) [((49, .iload_n 3, 1, 0, 0, 0, 0), (0, 0, 0)), ((50, .sipush 256, 3, 0, 0, 0, 0), (0, 0, 0))] (by decide +kernel) rfl trivial ?_
  refine gx_cmp .ge 123 (by decide +kernel) (fun c1 => ?_) (fun c1 => ?_)
  · have c1 : 256 ≤ x3 := c1
    have e1 : gx_w (x2 + (-1)) = x2 + (-1) := gx_w_id (by omega) (by omega)
    refine gx_blk (C := True) (npc := 43) (L' := [(0, .inr 86), (2, .inl (gx_w (x2 + (-1)))), (3, .inl x3)]) (st' := []) (m' := m) [((123, .iinc 2 (-1), 3, 0, 0, 0, 0), (0, 0, 0)), ((126, .goto (-83), 3, 0, 0, 0, 0), (0, 0, 0))] (by decide +kernel) rfl trivial ?_
    rw [e1]
    exact gx_to_pick [0, 2] (h1 c1)
  · have c1 : x3 < 256 := by have h : ¬ (256 ≤ x3) := c1; omega
    refine gx_blk (C := True) (npc := 62) (L' := [(0, .inr 86), (2, .inl x2), (3, .inl x3), (4, .inl 0), (5, .inl 0)]) (st' := []) (m' := m) [((56, .iconst 0, 1, 0, 0, 0, 0), (0, 0, 0)), ((57, .istore 4, 2, 0, 0, 0, 0), (0, 0, 0)), ((59, .iconst 0, 1, 0, 0, 0, 0), (0, 0, 0)), ((60, .istore 5, 2, 0, 0, 0, 0), (0, 0, 0))] (by decide +kernel) rfl trivial ?_
    exact gx_to_pick [0, 2, 3, 4, 5] (h2 c1)

/-- laysSold from 62 on -/
theorem gt245_62 {xs : List Int32} {w0 : sx_W} {d : Nat} {Q : gx_Q} {m : gx_M} {x2 x3 x4 x5 : Int} (r_x2 : 0 ≤ x2 ∧ x2 ≤ 5) (r_x3 : 0 ≤ x3 ∧ x3 ≤ 255) (r_x5 : 0 ≤ x5 ∧ x5 ≤ 9) (g3 : 1 ≤ (m 86 37) ∧ (m 86 37) ≤ 6)
    (h1 : (8 < x5) → gx_to xs w0 (d + 1) yp_m245 49 [(0, .inr 86), (2, .inl x2), (3, .inl (x3 + 1))] [] (gx_u m 114 ((256 * x2) + x3).toNat x4) Q)
    (h2 : (x5 ≤ 8) → gx_to xs w0 d yp_m246 0 [(0, .inr 86), (1, .inl x2), (2, .inl x5), (3, .inl x3)] [] m (fun r m' => gx_to xs w0 (d + 1) yp_m245 77 [(0, .inr 86), (2, .inl x2), (3, .inl x3), (4, .inl x4), (5, .inl x5)] (gx_rs r ++ []) m' Q)) : gx_to xs w0 (d + 1) yp_m245 62 [(0, .inr 86), (2, .inl x2), (3, .inl x3), (4, .inl x4), (5, .inl x5)] [] m Q := by
  refine gx_blk (C := True) (npc := 66) (L' := [(0, .inr 86), (2, .inl x2), (3, .inl x3), (4, .inl x4), (5, .inl x5)]) (st' := [.inl 8, .inl x5]) (m' := m) [((62, .iload 5, 2, 0, 0, 0, 0), (0, 0, 0)), ((64, .bipush 8, 2, 0, 0, 0, 0), (0, 0, 0))] (by decide +kernel) rfl trivial ?_
  refine gx_cmp .gt 103 (by decide +kernel) (fun c1 => ?_) (fun c1 => ?_)
  · have c1 : 8 < x5 := c1
    have e1 : gx_w (256 * x2) = 256 * x2 := gx_w_id (by omega) (by omega)
    have e2 : gx_w ((256 * x2) + x3) = (256 * x2) + x3 := gx_w_id (by omega) (by omega)
    have e3 : gx_w (x3 + 1) = x3 + 1 := gx_w_id (by omega) (by omega)
    refine gx_blk (C := (True ∧ (0 ≤ (gx_w ((gx_w (256 * x2)) + x3)) ∧ (gx_w ((gx_w (256 * x2)) + x3)) < 1792))) (npc := 49) (L' := [(0, .inr 86), (2, .inl x2), (3, .inl (gx_w (x3 + 1))), (4, .inl x4), (5, .inl x5)]) (st' := []) (m' := (gx_u m 114 (gx_w ((gx_w (256 * x2)) + x3)).toNat x4)) [((103, .aload_n 0, 1, 0, 0, 0, 0), (0, 0, 0)), ((104, .getfield 92, 3, 10, 41, 5154, 0), (1, 86, 114)), ((107, .sipush 256, 3, 0, 0, 0, 0), (0, 0, 0)), ((110, .iload_n 2, 1, 0, 0, 0, 0), (0, 0, 0)), ((111, .imul, 1, 0, 0, 0, 0), (0, 0, 0)), ((112, .iload_n 3, 1, 0, 0, 0, 0), (0, 0, 0)), ((113, .iadd, 1, 0, 0, 0, 0), (0, 0, 0)), ((114, .iload 4, 2, 0, 0, 0, 0), (0, 0, 0)), ((116, .iastore, 1, 0, 0, 0, 0), (0, 114, 1792)), ((117, .iinc 3 1, 3, 0, 0, 0, 0), (0, 0, 0)), ((120, .goto (-71), 3, 0, 0, 0, 0), (0, 0, 0))] (by decide +kernel) rfl ⟨trivial, (by rw [e1, e2]; omega)⟩ ?_
    rw [e1, e2, e3]
    exact gx_to_pick [0, 2, 3] (h1 c1)
  · have c1 : x5 ≤ 8 := by have h : ¬ (8 < x5) := c1; omega
    refine gx_blk (C := True) (npc := 74) (L' := [(0, .inr 86), (2, .inl x2), (3, .inl x3), (4, .inl x4), (5, .inl x5)]) (st' := [.inl x3, .inl x5, .inl x2, .inr 86]) (m' := m) [((69, .aload_n 0, 1, 0, 0, 0, 0), (0, 0, 0)), ((70, .iload_n 2, 1, 0, 0, 0, 0), (0, 0, 0)), ((71, .iload 5, 2, 0, 0, 0, 0), (0, 0, 0)), ((73, .iload_n 3, 1, 0, 0, 0, 0), (0, 0, 0))] (by decide +kernel) rfl trivial ?_
    exact gx_callv (E := (74, .invokevirtual 352, 3, 246, 0, 7111, 0)) (M' := yp_m246) (c := 86) [.inl x2, .inl x5, .inl x3] [] rfl (by decide +kernel) rfl ⟨rfl, rfl⟩ rfl rfl (Nat.le_of_ble_eq_true rfl) (Nat.le_of_ble_eq_true rfl) (by decide +kernel) (gx_to_mono (h2 c1) (fun r m' h' => gx_to_pick [0, 2, 3, 4, 5] h'))

/-- laysSold from 77 on -/
theorem gt245_77 {xs : List Int32} {w0 : sx_W} {d : Nat} {Q : gx_Q} {m : gx_M} {x2 x3 x4 x5 s0 : Int} (r_x2 : 0 ≤ x2 ∧ x2 ≤ 5) (r_x3 : 0 ≤ x3 ∧ x3 ≤ 255) (r_x5 : 0 ≤ x5 ∧ x5 ≤ 8) (g3 : 1 ≤ (m 86 37) ∧ (m 86 37) ≤ 6)
    (h1 : (s0 ≤ x4) → gx_to xs w0 (d + 1) yp_m245 62 [(0, .inr 86), (2, .inl x2), (3, .inl x3), (4, .inl x4), (5, .inl (x5 + 1))] [] m Q)
    (h2 : (x4 < s0) → gx_to xs w0 d yp_m246 0 [(0, .inr 86), (1, .inl x2), (2, .inl x5), (3, .inl x3)] [] m (fun r m' => gx_to xs w0 (d + 1) yp_m245 90 [(0, .inr 86), (2, .inl x2), (3, .inl x3), (5, .inl x5)] (gx_rs r ++ []) m' Q)) : gx_to xs w0 (d + 1) yp_m245 77 [(0, .inr 86), (2, .inl x2), (3, .inl x3), (4, .inl x4), (5, .inl x5)] [.inl s0] m Q := by
  refine gx_blk (C := True) (npc := 79) (L' := [(0, .inr 86), (2, .inl x2), (3, .inl x3), (4, .inl x4), (5, .inl x5)]) (st' := [.inl x4, .inl s0]) (m' := m) [((77, .iload 4, 2, 0, 0, 0, 0), (0, 0, 0))] (by decide +kernel) rfl trivial ?_
  refine gx_cmp .le 93 (by decide +kernel) (fun c1 => ?_) (fun c1 => ?_)
  · have c1 : s0 ≤ x4 := c1
    have e1 : gx_w (x5 + 1) = x5 + 1 := gx_w_id (by omega) (by omega)
    refine gx_blk (C := True) (npc := 62) (L' := [(0, .inr 86), (2, .inl x2), (3, .inl x3), (4, .inl x4), (5, .inl (gx_w (x5 + 1)))]) (st' := []) (m' := m) [((93, .iload 4, 2, 0, 0, 0, 0), (0, 0, 0)), ((95, .istore 4, 2, 0, 0, 0, 0), (0, 0, 0)), ((97, .iinc 5 1, 3, 0, 0, 0, 0), (0, 0, 0)), ((100, .goto (-38), 3, 0, 0, 0, 0), (0, 0, 0))] (by decide +kernel) rfl trivial ?_
    rw [e1]
    exact gx_to_pick [0, 2, 3, 4, 5] (h1 c1)
  · have c1 : x4 < s0 := by have h : ¬ (s0 ≤ x4) := c1; omega
    refine gx_blk (C := True) (npc := 87) (L' := [(0, .inr 86), (2, .inl x2), (3, .inl x3), (4, .inl x4), (5, .inl x5)]) (st' := [.inl x3, .inl x5, .inl x2, .inr 86]) (m' := m) [((82, .aload_n 0, 1, 0, 0, 0, 0), (0, 0, 0)), ((83, .iload_n 2, 1, 0, 0, 0, 0), (0, 0, 0)), ((84, .iload 5, 2, 0, 0, 0, 0), (0, 0, 0)), ((86, .iload_n 3, 1, 0, 0, 0, 0), (0, 0, 0))] (by decide +kernel) rfl trivial ?_
    exact gx_callv (E := (87, .invokevirtual 352, 3, 246, 0, 7111, 0)) (M' := yp_m246) (c := 86) [.inl x2, .inl x5, .inl x3] [] rfl (by decide +kernel) rfl ⟨rfl, rfl⟩ rfl rfl (Nat.le_of_ble_eq_true rfl) (Nat.le_of_ble_eq_true rfl) (by decide +kernel) (gx_to_mono (h2 c1) (fun r m' h' => gx_to_pick [0, 2, 3, 5] h'))

/-- laysSold from 90 on -/
theorem gt245_90 {xs : List Int32} {w0 : sx_W} {d : Nat} {Q : gx_Q} {m : gx_M} {x2 x3 x5 s0 : Int} (r_x2 : 0 ≤ x2 ∧ x2 ≤ 5) (r_x3 : 0 ≤ x3 ∧ x3 ≤ 255) (r_x5 : 0 ≤ x5 ∧ x5 ≤ 8) (g3 : 1 ≤ (m 86 37) ∧ (m 86 37) ≤ 6)
    (h1 : gx_to xs w0 d yp_m245 62 [(0, .inr 86), (2, .inl x2), (3, .inl x3), (4, .inl s0), (5, .inl (x5 + 1))] [] m Q) : gx_to xs w0 d yp_m245 90 [(0, .inr 86), (2, .inl x2), (3, .inl x3), (5, .inl x5)] [.inl s0] m Q := by
  have e1 : gx_w (x5 + 1) = x5 + 1 := gx_w_id (by omega) (by omega)
  refine gx_blk (C := True) (npc := 62) (L' := [(0, .inr 86), (2, .inl x2), (3, .inl x3), (5, .inl (gx_w (x5 + 1))), (4, .inl s0)]) (st' := []) (m' := m) [((90, .goto 5, 3, 0, 0, 0, 0), (0, 0, 0)), ((95, .istore 4, 2, 0, 0, 0, 0), (0, 0, 0)), ((97, .iinc 5 1, 3, 0, 0, 0, 0), (0, 0, 0)), ((100, .goto (-38), 3, 0, 0, 0, 0), (0, 0, 0))] (by decide +kernel) rfl trivial ?_
  rw [e1]
  exact gx_to_pick [0, 2, 3, 4, 5] h1

/-- getsYear from 0 on -/
theorem gt247_0 {xs : List Int32} {w0 : sx_W} {d : Nat} {Q : gx_Q} {m : gx_M} {x1 : Int}
    (h1 : gx_to xs w0 d yp_m247 8 [(0, .inr 86), (1, .inl x1), (2, .inl 0), (3, .inl 8), (4, .inl 0)] [] m Q) : gx_to xs w0 d yp_m247 0 [(0, .inr 86), (1, .inl x1)] [] m Q := by
  refine gx_blk (C := True) (npc := 8) (L' := [(0, .inr 86), (1, .inl x1), (2, .inl 0), (3, .inl 8), (4, .inl 0)]) (st' := []) (m' := m) [((0, .iconst 0, 1, 0, 0, 0, 0), (0, 0, 0)), ((1, .istore_n 2, 1, 0, 0, 0, 0), (0, 0, 0)), ((2, .bipush 8, 2, 0, 0, 0, 0), (0, 0, 0)), ((4, .istore_n 3, 1, 0, 0, 0, 0), (0, 0, 0)), ((5, .iconst 0, 1, 0, 0, 0, 0), (0, 0, 0)), ((6, .istore 4, 2, 0, 0, 0, 0), (0, 0, 0))] (by decide +kernel) rfl trivial ?_
  exact gx_to_pick [0, 1, 2, 3, 4] h1

/-- getsYear from 8 on -/
theorem gt247_8 {xs : List Int32} {w0 : sx_W} {d : Nat} {Q : gx_Q} {m : gx_M} {x1 x2 x3 x4 : Int} (r_x1 : 0 ≤ x1 ∧ x1 ≤ 5) (r_x2 : 0 ≤ x2 ∧ x2 ≤ 255) (r_x4 : 0 ≤ x4 ∧ x4 ≤ 6)
    (h1 : (x1 < x4) → Q (some x3) m)
    (h2 : (x4 ≤ x1) → gx_to xs w0 d yp_m247 16 [(0, .inr 86), (1, .inl x1), (2, .inl x2), (3, .inl 0), (4, .inl x4)] [] m Q) : gx_to xs w0 d yp_m247 8 [(0, .inr 86), (1, .inl x1), (2, .inl x2), (3, .inl x3), (4, .inl x4)] [] m Q := by
  refine gx_blk (C := True) (npc := 11) (L' := [(0, .inr 86), (1, .inl x1), (2, .inl x2), (3, .inl x3), (4, .inl x4)]) (st' := [.inl x1, .inl x4]) (m' := m) [((8, .iload 4, 2, 0, 0, 0, 0), (0, 0, 0)), ((10, .iload_n 1, 1, 0, 0, 0, 0), (0, 0, 0))] (by decide +kernel) rfl trivial ?_
  refine gx_cmp .gt 69 (by decide +kernel) (fun c1 => ?_) (fun c1 => ?_)
  · have c1 : x1 < x4 := c1
    refine gx_blk (C := True) (npc := 70) (L' := [(0, .inr 86), (1, .inl x1), (2, .inl x2), (3, .inl x3), (4, .inl x4)]) (st' := [.inl x3]) (m' := m) [((69, .iload_n 3, 1, 0, 0, 0, 0), (0, 0, 0))] (by decide +kernel) rfl trivial ?_
    exact gx_reti (by decide +kernel) (h1 c1)
  · have c1 : x4 ≤ x1 := by have h : ¬ (x1 < x4) := c1; omega
    refine gx_blk (C := True) (npc := 16) (L' := [(0, .inr 86), (1, .inl x1), (2, .inl x2), (3, .inl 0), (4, .inl x4)]) (st' := []) (m' := m) [((14, .iconst 0, 1, 0, 0, 0, 0), (0, 0, 0)), ((15, .istore_n 3, 1, 0, 0, 0, 0), (0, 0, 0))] (by decide +kernel) rfl trivial ?_
    exact gx_to_pick [0, 1, 2, 3, 4] (h2 c1)

/-- getsYear from 16 on -/
theorem gt247_16 {xs : List Int32} {w0 : sx_W} {d : Nat} {Q : gx_Q} {m : gx_M} {x1 x2 x3 x4 : Int} (r_x1 : 0 ≤ x1 ∧ x1 ≤ 5) (r_x2 : 0 ≤ x2 ∧ x2 ≤ 255) (r_x3 : 0 ≤ x3 ∧ x3 ≤ 8) (r_x4 : 0 ≤ x4 ∧ x4 ≤ 5)
    (h1 : gx_to xs w0 d yp_m246 0 [(0, .inr 86), (1, .inl x4), (2, .inl x3), (3, .inl x2)] [] m (fun r m' => gx_to xs w0 (d + 1) yp_m247 24 [(0, .inr 86), (1, .inl x1), (2, .inl x2), (3, .inl x3), (4, .inl x4)] (gx_rs r ++ []) m' Q)) : gx_to xs w0 (d + 1) yp_m247 16 [(0, .inr 86), (1, .inl x1), (2, .inl x2), (3, .inl x3), (4, .inl x4)] [] m Q := by
  refine gx_blk (C := True) (npc := 21) (L' := [(0, .inr 86), (1, .inl x1), (2, .inl x2), (3, .inl x3), (4, .inl x4)]) (st' := [.inl x2, .inl x3, .inl x4, .inr 86]) (m' := m) [((16, .aload_n 0, 1, 0, 0, 0, 0), (0, 0, 0)), ((17, .iload 4, 2, 0, 0, 0, 0), (0, 0, 0)), ((19, .iload_n 3, 1, 0, 0, 0, 0), (0, 0, 0)), ((20, .iload_n 2, 1, 0, 0, 0, 0), (0, 0, 0))] (by decide +kernel) rfl trivial ?_
  exact gx_callv (E := (21, .invokevirtual 352, 3, 246, 0, 7111, 0)) (M' := yp_m246) (c := 86) [.inl x4, .inl x3, .inl x2] [] rfl (by decide +kernel) rfl ⟨rfl, rfl⟩ rfl rfl (Nat.le_of_ble_eq_true rfl) (Nat.le_of_ble_eq_true rfl) (by decide +kernel) (gx_to_mono h1 (fun r m' h' => gx_to_pick [0, 1, 2, 3, 4] h'))

/-- getsYear from 24 on -/
theorem gt247_24 {xs : List Int32} {w0 : sx_W} {d : Nat} {Q : gx_Q} {m : gx_M} {x1 x2 x3 x4 s0 : Int} (r_x1 : 0 ≤ x1 ∧ x1 ≤ 5) (r_x2 : 0 ≤ x2 ∧ x2 ≤ 255) (r_x3 : 0 ≤ x3 ∧ x3 ≤ 8) (r_x4 : 0 ≤ x4 ∧ x4 ≤ 5)
    (h1 : (s0 = (m 114 ((256 * x4) + x2).toNat)) → (x3 ≠ 8) → gx_to xs w0 d yp_m247 8 [(0, .inr 86), (1, .inl x1), (2, .inl (gx_or x2 (gx_shl 1 x3))), (3, .inl x3), (4, .inl (x4 + 1))] [] m Q)
    (h2 : (s0 = (m 114 ((256 * x4) + x2).toNat)) → (x3 = 8) → gx_to xs w0 d yp_m247 8 [(0, .inr 86), (1, .inl x1), (2, .inl x2), (3, .inl x3), (4, .inl (x4 + 1))] [] m Q)
    (h3 : (s0 ≠ (m 114 ((256 * x4) + x2).toNat)) → gx_to xs w0 d yp_m247 16 [(0, .inr 86), (1, .inl x1), (2, .inl x2), (3, .inl (x3 + 1)), (4, .inl x4)] [] m Q) : gx_to xs w0 d yp_m247 24 [(0, .inr 86), (1, .inl x1), (2, .inl x2), (3, .inl x3), (4, .inl x4)] [.inl s0] m Q := by
  have e1 : gx_w (256 * x4) = 256 * x4 := gx_w_id (by omega) (by omega)
  have e2 : gx_w ((256 * x4) + x2) = (256 * x4) + x2 := gx_w_id (by omega) (by omega)
  refine gx_blk (C := (True ∧ (0 ≤ (gx_w ((gx_w (256 * x4)) + x2)) ∧ (gx_w ((gx_w (256 * x4)) + x2)) < 1792))) (npc := 37) (L' := [(0, .inr 86), (1, .inl x1), (2, .inl x2), (3, .inl x3), (4, .inl x4)]) (st' := [.inl (m 114 (gx_w ((gx_w (256 * x4)) + x2)).toNat), .inl s0]) (m' := m) [((24, .aload_n 0, 1, 0, 0, 0, 0), (0, 0, 0)), ((25, .getfield 92, 3, 10, 41, 5154, 0), (1, 86, 114)), ((28, .sipush 256, 3, 0, 0, 0, 0), (0, 0, 0)), ((31, .iload 4, 2, 0, 0, 0, 0), (0, 0, 0)), ((33, .imul, 1, 0, 0, 0, 0), (0, 0, 0)), ((34, .iload_n 2, 1, 0, 0, 0, 0), (0, 0, 0)), ((35, .iadd, 1, 0, 0, 0, 0), (0, 0, 0)), ((36, .iaload, 1, 0, 0, 0, 0), (0, 114, 1792))] (by decide +kernel) rfl ⟨trivial, (by rw [e1, e2]; omega)⟩ ?_
  rw [e1, e2]
  refine gx_cmp .eq 47 (by decide +kernel) (fun c1 => ?_) (fun c1 => ?_)
  · have c1 : s0 = (m 114 ((256 * x4) + x2).toNat) := c1
    refine gx_blk (C := True) (npc := 50) (L' := [(0, .inr 86), (1, .inl x1), (2, .inl x2), (3, .inl x3), (4, .inl x4)]) (st' := [.inl 8, .inl x3]) (m' := m) [((47, .iload_n 3, 1, 0, 0, 0, 0), (0, 0, 0)), ((48, .bipush 8, 2, 0, 0, 0, 0), (0, 0, 0))] (by decide +kernel) rfl trivial ?_
    refine gx_cmp .ne 57 (by decide +kernel) (fun c2 => ?_) (fun c2 => ?_)
    · have c2 : x3 ≠ 8 := c2
      have e3 : gx_w (x4 + 1) = x4 + 1 := gx_w_id (by omega) (by omega)
      refine gx_blk (C := True) (npc := 8) (L' := [(0, .inr 86), (1, .inl x1), (2, .inl (gx_or x2 (gx_shl 1 x3))), (3, .inl x3), (4, .inl (gx_w (x4 + 1)))]) (st' := []) (m' := m) [((57, .iload_n 2, 1, 0, 0, 0, 0), (0, 0, 0)), ((58, .iconst 1, 1, 0, 0, 0, 0), (0, 0, 0)), ((59, .iload_n 3, 1, 0, 0, 0, 0), (0, 0, 0)), ((60, .ishl, 1, 0, 0, 0, 0), (0, 0, 0)), ((61, .ior, 1, 0, 0, 0, 0), (0, 0, 0)), ((62, .istore_n 2, 1, 0, 0, 0, 0), (0, 0, 0)), ((63, .iinc 4 1, 3, 0, 0, 0, 0), (0, 0, 0)), ((66, .goto (-58), 3, 0, 0, 0, 0), (0, 0, 0))] (by decide +kernel) rfl trivial ?_
      rw [e3]
      exact gx_to_pick [0, 1, 2, 3, 4] (h1 c1 c2)
    · have c2 : x3 = 8 := by have h : ¬ (x3 ≠ 8) := c2; omega
      have e4 : gx_w (x4 + 1) = x4 + 1 := gx_w_id (by omega) (by omega)
      refine gx_blk (C := True) (npc := 8) (L' := [(0, .inr 86), (1, .inl x1), (2, .inl x2), (3, .inl x3), (4, .inl (gx_w (x4 + 1)))]) (st' := []) (m' := m) [((53, .iload_n 2, 1, 0, 0, 0, 0), (0, 0, 0)), ((54, .goto 8, 3, 0, 0, 0, 0), (0, 0, 0)), ((62, .istore_n 2, 1, 0, 0, 0, 0), (0, 0, 0)), ((63, .iinc 4 1, 3, 0, 0, 0, 0), (0, 0, 0)), ((66, .goto (-58), 3, 0, 0, 0, 0), (0, 0, 0))] (by decide +kernel) rfl trivial ?_
      rw [e4]
      exact gx_to_pick [0, 1, 2, 3, 4] (h2 c1 c2)
  · have c1 : s0 ≠ (m 114 ((256 * x4) + x2).toNat) := c1
    have e5 : gx_w (x3 + 1) = x3 + 1 := gx_w_id (by omega) (by omega)
    refine gx_blk (C := True) (npc := 16) (L' := [(0, .inr 86), (1, .inl x1), (2, .inl x2), (3, .inl (gx_w (x3 + 1))), (4, .inl x4)]) (st' := []) (m' := m) [((40, .iload_n 3, 1, 0, 0, 0, 0), (0, 0, 0)), ((41, .iconst 1, 1, 0, 0, 0, 0), (0, 0, 0)), ((42, .iadd, 1, 0, 0, 0, 0), (0, 0, 0)), ((43, .istore_n 3, 1, 0, 0, 0, 0), (0, 0, 0)), ((44, .goto (-28), 3, 0, 0, 0, 0), (0, 0, 0))] (by decide +kernel) rfl trivial ?_
    rw [e5]
    exact gx_to_pick [0, 1, 2, 3, 4] (h3 c1)

/-- pays from 0 on -/
theorem gt244_0 {xs : List Int32} {w0 : sx_W} {d : Nat} {Q : gx_Q} {m : gx_M} {x1 x2 : Int} (r_x2 : 0 ≤ x2 ∧ x2 ≤ 7)
    (h1 : gx_to xs w0 d yp_m245 0 [(0, .inr 86), (1, .inl x1)] [] m (fun r m' => gx_to xs w0 (d + 1) yp_m244 5 [(0, .inr 86), (1, .inl x1), (2, .inl x2)] (gx_rs r ++ []) m' Q)) : gx_to xs w0 (d + 1) yp_m244 0 [(0, .inr 86), (1, .inl x1), (2, .inl x2)] [] m Q := by
  refine gx_blk (C := True) (npc := 2) (L' := [(0, .inr 86), (1, .inl x1), (2, .inl x2)]) (st' := [.inl x1, .inr 86]) (m' := m) [((0, .aload_n 0, 1, 0, 0, 0, 0), (0, 0, 0)), ((1, .iload_n 1, 1, 0, 0, 0, 0), (0, 0, 0))] (by decide +kernel) rfl trivial ?_
  exact gx_callv (E := (2, .invokevirtual 355, 3, 245, 0, 7107, 0)) (M' := yp_m245) (c := 86) [.inl x1] [] rfl (by decide +kernel) rfl ⟨rfl, rfl⟩ rfl rfl (Nat.le_of_ble_eq_true rfl) (Nat.le_of_ble_eq_true rfl) (by decide +kernel) (gx_to_mono h1 (fun r m' h' => gx_to_pick [0, 1, 2] h'))

/-- pays from 5 on -/
theorem gt244_5 {xs : List Int32} {w0 : sx_W} {d : Nat} {Q : gx_Q} {m : gx_M} {x1 x2 s0 : Int} (r_x2 : 0 ≤ x2 ∧ x2 ≤ 7)
    (h1 : gx_to xs w0 d yp_m244 12 [(0, .inr 86), (1, .inl x1), (2, .inl x2), (3, .inl s0), (4, .inl 0), (5, .inl 0)] [] m Q) : gx_to xs w0 d yp_m244 5 [(0, .inr 86), (1, .inl x1), (2, .inl x2)] [.inl s0] m Q := by
  refine gx_blk (C := True) (npc := 12) (L' := [(0, .inr 86), (1, .inl x1), (2, .inl x2), (3, .inl s0), (4, .inl 0), (5, .inl 0)]) (st' := []) (m' := m) [((5, .istore_n 3, 1, 0, 0, 0, 0), (0, 0, 0)), ((6, .iconst 0, 1, 0, 0, 0, 0), (0, 0, 0)), ((7, .istore 4, 2, 0, 0, 0, 0), (0, 0, 0)), ((9, .iconst 0, 1, 0, 0, 0, 0), (0, 0, 0)), ((10, .istore 5, 2, 0, 0, 0, 0), (0, 0, 0))] (by decide +kernel) rfl trivial ?_
  exact gx_to_pick [0, 1, 2, 3, 4, 5] h1

/-- pays from 12 on -/
theorem gt244_12 {xs : List Int32} {w0 : sx_W} {d : Nat} {Q : gx_Q} {m : gx_M} {x1 x2 x3 x4 x5 : Int} (hI : gx_I m) (r_x2 : 0 ≤ x2 ∧ x2 ≤ 7) (r_x5 : 0 ≤ x5 ∧ x5 ≤ 6)
    (h1 : ((m 86 37) ≤ x5) → gx_to xs w0 d yp_m245 0 [(0, .inr 86), (1, .inl (gx_and x1 (gx_xor (gx_shl 1 x2) (-1))))] [] m (fun r m' => gx_to xs w0 (d + 1) yp_m244 69 [(3, .inl x3), (4, .inl x4)] (gx_rs r ++ []) m' Q))
    (h2 : (x5 < (m 86 37)) → gx_to xs w0 d yp_m247 0 [(0, .inr 86), (1, .inl x5)] [] m (fun r m' => gx_to xs w0 (d + 1) yp_m244 29 [(0, .inr 86), (1, .inl x1), (2, .inl x2), (3, .inl x3), (5, .inl x5)] (gx_rs r ++ [.inl x4]) m' Q)) : gx_to xs w0 (d + 1) yp_m244 12 [(0, .inr 86), (1, .inl x1), (2, .inl x2), (3, .inl x3), (4, .inl x4), (5, .inl x5)] [] m Q := by
  have f1 := gx_I_n hI 86 37 0 8 (by decide +kernel)
  refine gx_blk (C := True) (npc := 18) (L' := [(0, .inr 86), (1, .inl x1), (2, .inl x2), (3, .inl x3), (4, .inl x4), (5, .inl x5)]) (st' := [.inl (m 86 37), .inl x5]) (m' := m) [((12, .iload 5, 2, 0, 0, 0, 0), (0, 0, 0)), ((14, .aload_n 0, 1, 0, 0, 0, 0), (0, 0, 0)), ((15, .getfield 346, 3, 10, 37, 5150, 0), (0, 86, 0))] (by decide +kernel) rfl trivial ?_
  refine gx_cmp .ge 58 (by decide +kernel) (fun c1 => ?_) (fun c1 => ?_)
  · have c1 : (m 86 37) ≤ x5 := c1
    refine gx_blk (C := True) (npc := 66) (L' := [(0, .inr 86), (1, .inl x1), (2, .inl x2), (3, .inl x3), (4, .inl x4), (5, .inl x5)]) (st' := [.inl (gx_and x1 (gx_xor (gx_shl 1 x2) (-1))), .inr 86]) (m' := m) [((58, .aload_n 0, 1, 0, 0, 0, 0), (0, 0, 0)), ((59, .iload_n 1, 1, 0, 0, 0, 0), (0, 0, 0)), ((60, .iconst 1, 1, 0, 0, 0, 0), (0, 0, 0)), ((61, .iload_n 2, 1, 0, 0, 0, 0), (0, 0, 0)), ((62, .ishl, 1, 0, 0, 0, 0), (0, 0, 0)), ((63, .iconst (-1), 1, 0, 0, 0, 0), (0, 0, 0)), ((64, .ixor, 1, 0, 0, 0, 0), (0, 0, 0)), ((65, .iand, 1, 0, 0, 0, 0), (0, 0, 0))] (by decide +kernel) rfl trivial ?_
    exact gx_callv (E := (66, .invokevirtual 355, 3, 245, 0, 7107, 0)) (M' := yp_m245) (c := 86) [.inl (gx_and x1 (gx_xor (gx_shl 1 x2) (-1)))] [] rfl (by decide +kernel) rfl ⟨rfl, rfl⟩ rfl rfl (Nat.le_of_ble_eq_true rfl) (Nat.le_of_ble_eq_true rfl) (by decide +kernel) (gx_to_mono (h1 c1) (fun r m' h' => gx_to_pick [3, 4] h'))
  · have c1 : x5 < (m 86 37) := by have h : ¬ ((m 86 37) ≤ x5) := c1; omega
    refine gx_blk (C := True) (npc := 26) (L' := [(0, .inr 86), (1, .inl x1), (2, .inl x2), (3, .inl x3), (4, .inl x4), (5, .inl x5)]) (st' := [.inl x5, .inr 86, .inl x4]) (m' := m) [((21, .iload 4, 2, 0, 0, 0, 0), (0, 0, 0)), ((23, .aload_n 0, 1, 0, 0, 0, 0), (0, 0, 0)), ((24, .iload 5, 2, 0, 0, 0, 0), (0, 0, 0))] (by decide +kernel) rfl trivial ?_
    exact gx_callv (E := (26, .invokevirtual 358, 3, 247, 0, 7115, 0)) (M' := yp_m247) (c := 86) [.inl x5] [.inl x4] rfl (by decide +kernel) rfl ⟨rfl, rfl⟩ rfl rfl (Nat.le_of_ble_eq_true rfl) (Nat.le_of_ble_eq_true rfl) (by decide +kernel) (gx_to_mono (h2 c1) (fun r m' h' => gx_to_pick [0, 1, 2, 3, 5] h'))

/-- pays from 29 on -/
theorem gt244_29 {xs : List Int32} {w0 : sx_W} {d : Nat} {Q : gx_Q} {m : gx_M} {x1 x2 x3 x5 s0 s1 : Int} (hI : gx_I m) (r_x2 : 0 ≤ x2 ∧ x2 ≤ 7) (r_x5 : 0 ≤ x5 ∧ x5 ≤ 5)
    (h1 : (s1 ≠ x2) → gx_to xs w0 d yp_m244 12 [(0, .inr 86), (1, .inl x1), (2, .inl x2), (3, .inl x3), (4, .inl (gx_w (s0 + 0))), (5, .inl (x5 + 1))] [] m Q)
    (h2 : (s1 = x2) → gx_to xs w0 d yp_m244 12 [(0, .inr 86), (1, .inl x1), (2, .inl x2), (3, .inl x3), (4, .inl (gx_w (s0 + (m 113 ((8 * x5) + x2).toNat)))), (5, .inl (x5 + 1))] [] m Q) : gx_to xs w0 d yp_m244 29 [(0, .inr 86), (1, .inl x1), (2, .inl x2), (3, .inl x3), (5, .inl x5)] [.inl s1, .inl s0] m Q := by
  refine gx_blk (C := True) (npc := 30) (L' := [(0, .inr 86), (1, .inl x1), (2, .inl x2), (3, .inl x3), (5, .inl x5)]) (st' := [.inl x2, .inl s1, .inl s0]) (m' := m) [((29, .iload_n 2, 1, 0, 0, 0, 0), (0, 0, 0))] (by decide +kernel) rfl trivial ?_
  refine gx_cmp .ne 48 (by decide +kernel) (fun c1 => ?_) (fun c1 => ?_)
  · have c1 : s1 ≠ x2 := c1
    have e1 : gx_w (x5 + 1) = x5 + 1 := gx_w_id (by omega) (by omega)
    refine gx_blk (C := True) (npc := 12) (L' := [(0, .inr 86), (1, .inl x1), (2, .inl x2), (3, .inl x3), (5, .inl (gx_w (x5 + 1))), (4, .inl (gx_w (s0 + 0)))]) (st' := []) (m' := m) [((48, .iconst 0, 1, 0, 0, 0, 0), (0, 0, 0)), ((49, .iadd, 1, 0, 0, 0, 0), (0, 0, 0)), ((50, .istore 4, 2, 0, 0, 0, 0), (0, 0, 0)), ((52, .iinc 5 1, 3, 0, 0, 0, 0), (0, 0, 0)), ((55, .goto (-43), 3, 0, 0, 0, 0), (0, 0, 0))] (by decide +kernel) rfl trivial ?_
    rw [e1]
    exact gx_to_pick [0, 1, 2, 3, 4, 5] (h1 c1)
  · have c1 : s1 = x2 := by have h : ¬ (s1 ≠ x2) := c1; omega
    have e2 : gx_w (8 * x5) = 8 * x5 := gx_w_id (by omega) (by omega)
    have e3 : gx_w ((8 * x5) + x2) = (8 * x5) + x2 := gx_w_id (by omega) (by omega)
    have f4 := gx_I_at hI 113 (z := (8 * x5) + x2) 0 47 0 999 (by decide +kernel) (by omega) (by omega)
    have e5 : gx_w (x5 + 1) = x5 + 1 := gx_w_id (by omega) (by omega)
    refine gx_blk (C := (True ∧ (0 ≤ (gx_w ((gx_w (8 * x5)) + x2)) ∧ (gx_w ((gx_w (8 * x5)) + x2)) < 64))) (npc := 12) (L' := [(0, .inr 86), (1, .inl x1), (2, .inl x2), (3, .inl x3), (5, .inl (gx_w (x5 + 1))), (4, .inl (gx_w (s0 + (m 113 (gx_w ((gx_w (8 * x5)) + x2)).toNat))))]) (st' := []) (m' := m) [((33, .aload_n 0, 1, 0, 0, 0, 0), (0, 0, 0)), ((34, .getfield 89, 3, 10, 40, 5153, 0), (1, 86, 113)), ((37, .bipush 8, 2, 0, 0, 0, 0), (0, 0, 0)), ((39, .iload 5, 2, 0, 0, 0, 0), (0, 0, 0)), ((41, .imul, 1, 0, 0, 0, 0), (0, 0, 0)), ((42, .iload_n 2, 1, 0, 0, 0, 0), (0, 0, 0)), ((43, .iadd, 1, 0, 0, 0, 0), (0, 0, 0)), ((44, .iaload, 1, 0, 0, 0, 0), (0, 113, 64)), ((45, .goto 4, 3, 0, 0, 0, 0), (0, 0, 0)), ((49, .iadd, 1, 0, 0, 0, 0), (0, 0, 0)), ((50, .istore 4, 2, 0, 0, 0, 0), (0, 0, 0)), ((52, .iinc 5 1, 3, 0, 0, 0, 0), (0, 0, 0)), ((55, .goto (-43), 3, 0, 0, 0, 0), (0, 0, 0))] (by decide +kernel) rfl ⟨trivial, (by rw [e2, e3]; omega)⟩ ?_
    rw [e2, e3, e5]
    exact gx_to_pick [0, 1, 2, 3, 4, 5] (h2 c1)

/-- pays from 69 on -/
theorem gt244_69 {xs : List Int32} {w0 : sx_W} {d : Nat} {Q : gx_Q} {m : gx_M} {x3 x4 s0 : Int}
    (h1 : Q (some (gx_w (s0 - (gx_w (x3 - x4))))) m) : gx_to xs w0 d yp_m244 69 [(3, .inl x3), (4, .inl x4)] [.inl s0] m Q := by
  refine gx_blk (C := True) (npc := 74) (L' := [(3, .inl x3), (4, .inl x4)]) (st' := [.inl (gx_w (s0 - (gx_w (x3 - x4))))]) (m' := m) [((69, .iload_n 3, 1, 0, 0, 0, 0), (0, 0, 0)), ((70, .iload 4, 2, 0, 0, 0, 0), (0, 0, 0)), ((72, .isub, 1, 0, 0, 0, 0), (0, 0, 0)), ((73, .isub, 1, 0, 0, 0, 0), (0, 0, 0))] (by decide +kernel) rfl trivial ?_
  exact gx_reti (by decide +kernel) h1

/-- sold from 0 on -/
theorem gt242_0 {xs : List Int32} {w0 : sx_W} {d : Nat} {Q : gx_Q} {m : gx_M} {x1 x2 x3 : Int}
    (h1 : gx_to xs w0 d yp_m162 0 [(0, .inl x1), (1, .inl 1), (2, .inl 6)] [] m (fun r m' => gx_to xs w0 (d + 1) yp_m242 7 [(0, .inr 86), (1, .inl x1), (2, .inl x2), (3, .inl x3)] (gx_rs r ++ []) m' Q)) : gx_to xs w0 (d + 1) yp_m242 0 [(0, .inr 86), (1, .inl x1), (2, .inl x2), (3, .inl x3)] [] m Q := by
  refine gx_blk (C := True) (npc := 4) (L' := [(0, .inr 86), (1, .inl x1), (2, .inl x2), (3, .inl x3)]) (st' := [.inl 6, .inl 1, .inl x1]) (m' := m) [((0, .iload_n 1, 1, 0, 0, 0, 0), (0, 0, 0)), ((1, .iconst 1, 1, 0, 0, 0, 0), (0, 0, 0)), ((2, .bipush 6, 2, 0, 0, 0, 0), (0, 0, 0))] (by decide +kernel) rfl trivial ?_
  exact gx_calls (E := (4, .invokestatic 108, 3, 162, 0, 6023, 0)) (M' := yp_m162) [.inl x1, .inl 1, .inl 6] [] rfl (by decide +kernel) rfl ⟨rfl, rfl⟩ rfl rfl (Nat.le_of_ble_eq_true rfl) (Nat.le_of_ble_eq_true rfl) rfl (gx_to_mono h1 (fun r m' h' => gx_to_pick [0, 1, 2, 3] h'))

/-- sold from 7 on -/
theorem gt242_7 {xs : List Int32} {w0 : sx_W} {d : Nat} {Q : gx_Q} {m : gx_M} {x1 x2 x3 s0 : Int} (hI : gx_I m)
    (h1 : (s0 = 0) → Q (some (-1)) m)
    (h2 : (s0 ≠ 0) → (x1 ≤ (m 86 4)) → gx_to xs w0 d yp_m243 0 [(0, .inr 86), (1, .inl x1)] [] (gx_u m 86 4 0) (fun r m' => gx_to xs w0 (d + 1) yp_m242 30 [(0, .inr 86), (1, .inl x1), (2, .inl x2), (3, .inl x3)] (gx_rs r ++ []) m' Q))
    (h3 : (s0 ≠ 0) → ((m 86 4) < x1) → Q (some (-1)) m) : gx_to xs w0 (d + 1) yp_m242 7 [(0, .inr 86), (1, .inl x1), (2, .inl x2), (3, .inl x3)] [.inl s0] m Q := by
  refine gx_if .eq 18 (by decide +kernel) (fun c1 => ?_) (fun c1 => ?_)
  · have c1 : s0 = 0 := c1
    refine gx_blk (C := True) (npc := 19) (L' := [(0, .inr 86), (1, .inl x1), (2, .inl x2), (3, .inl x3)]) (st' := [.inl (-1)]) (m' := m) [((18, .iconst (-1), 1, 0, 0, 0, 0), (0, 0, 0))] (by decide +kernel) rfl trivial ?_
    exact gx_reti (by decide +kernel) (h1 c1)
  · have c1 : s0 ≠ 0 := c1
    have f1 := gx_I_n hI 86 4 0 260 (by decide +kernel)
    refine gx_blk (C := True) (npc := 15) (L' := [(0, .inr 86), (1, .inl x1), (2, .inl x2), (3, .inl x3)]) (st' := [.inl (m 86 4), .inl x1]) (m' := m) [((10, .iload_n 1, 1, 0, 0, 0, 0), (0, 0, 0)), ((11, .aload_n 0, 1, 0, 0, 0, 0), (0, 0, 0)), ((12, .getfield 124, 3, 10, 4, 5117, 0), (0, 86, 0))] (by decide +kernel) rfl trivial ?_
    refine gx_cmp .le 20 (by decide +kernel) (fun c2 => ?_) (fun c2 => ?_)
    · have c2 : x1 ≤ (m 86 4) := c2
      refine gx_blk (C := True) (npc := 27) (L' := [(0, .inr 86), (1, .inl x1), (2, .inl x2), (3, .inl x3)]) (st' := [.inl x1, .inr 86]) (m' := (gx_u m 86 4 0)) [((20, .aload_n 0, 1, 0, 0, 0, 0), (0, 0, 0)), ((21, .iconst 0, 1, 0, 0, 0, 0), (0, 0, 0)), ((22, .putfield 124, 3, 10, 4, 5117, 0), (0, 86, 0)), ((25, .aload_n 0, 1, 0, 0, 0, 0), (0, 0, 0)), ((26, .iload_n 1, 1, 0, 0, 0, 0), (0, 0, 0))] (by decide +kernel) rfl trivial ?_
      exact gx_callv (E := (27, .invokevirtual 361, 3, 243, 0, 7099, 0)) (M' := yp_m243) (c := 86) [.inl x1] [] rfl (by decide +kernel) rfl ⟨rfl, rfl⟩ rfl rfl (Nat.le_of_ble_eq_true rfl) (Nat.le_of_ble_eq_true rfl) (by decide +kernel) (gx_to_mono (h2 c1 c2) (fun r m' h' => gx_to_pick [0, 1, 2, 3] h'))
    · have c2 : (m 86 4) < x1 := by have h : ¬ (x1 ≤ (m 86 4)) := c2; omega
      refine gx_blk (C := True) (npc := 19) (L' := [(0, .inr 86), (1, .inl x1), (2, .inl x2), (3, .inl x3)]) (st' := [.inl (-1)]) (m' := m) [((18, .iconst (-1), 1, 0, 0, 0, 0), (0, 0, 0))] (by decide +kernel) rfl trivial ?_
      exact gx_reti (by decide +kernel) (h3 c1 c2)

/-- sold from 30 on -/
theorem gt242_30 {xs : List Int32} {w0 : sx_W} {d : Nat} {Q : gx_Q} {m : gx_M} {x1 x2 x3 s0 : Int} (hI : gx_I m) (r_x1 : 1 ≤ x1 ∧ x1 ≤ 6)
    (h1 : (s0 ≠ 0) → (x3 = 10) → ((gx_and x2 (gx_xor (m 87 1128) (-1))) ≠ 0) → Q (some (-3)) m)
    (h2 : (s0 ≠ 0) → (x3 = 10) → ((gx_and x2 (gx_xor (m 87 1128) (-1))) = 0) → gx_to xs w0 (d + 1) yp_m242 108 [(0, .inr 86), (1, .inl x1), (2, .inl x2), (3, .inl x3), (5, .inl 0)] [] m Q)
    (h3 : (s0 ≠ 0) → (x3 ≠ 10) → gx_to xs w0 d yp_m162 0 [(0, .inl x3), (1, .inl 0), (2, .inl (x1 - 1))] [] m (fun r m' => gx_to xs w0 (d + 1) yp_m242 50 [(0, .inr 86), (1, .inl x1), (2, .inl x2), (3, .inl x3)] (gx_rs r ++ []) m' Q))
    (h4 : (s0 = 0) → Q (some (-2)) m) : gx_to xs w0 (d + 1) yp_m242 30 [(0, .inr 86), (1, .inl x1), (2, .inl x2), (3, .inl x3)] [.inl s0] m Q := by
  refine gx_if .ne 36 (by decide +kernel) (fun c1 => ?_) (fun c1 => ?_)
  · have c1 : s0 ≠ 0 := c1
    refine gx_blk (C := True) (npc := 39) (L' := [(0, .inr 86), (1, .inl x1), (2, .inl x2), (3, .inl x3)]) (st' := [.inl 10, .inl x3]) (m' := m) [((36, .iload_n 3, 1, 0, 0, 0, 0), (0, 0, 0)), ((37, .bipush 10, 2, 0, 0, 0, 0), (0, 0, 0))] (by decide +kernel) rfl trivial ?_
    refine gx_cmp .eq 75 (by decide +kernel) (fun c2 => ?_) (fun c2 => ?_)
    · have c2 : x3 = 10 := c2
      have f1 := gx_I_n hI 87 1128 0 255 (by decide +kernel)
      refine gx_blk (C := (True ∧ (0 ≤ 1128 ∧ 1128 < 1131))) (npc := 94) (L' := [(0, .inr 86), (1, .inl x1), (2, .inl x2), (3, .inl x3), (4, .inl 1)]) (st' := [.inl (gx_and x2 (gx_xor (m 87 1128) (-1)))]) (m' := m) [((75, .iconst 1, 1, 0, 0, 0, 0), (0, 0, 0)), ((76, .goto 4, 3, 0, 0, 0, 0), (0, 0, 0)), ((80, .istore 4, 2, 0, 0, 0, 0), (0, 0, 0)), ((82, .iload_n 2, 1, 0, 0, 0, 0), (0, 0, 0)), ((83, .aload_n 0, 1, 0, 0, 0, 0), (0, 0, 0)), ((84, .getfield 7, 3, 10, 0, 5113, 0), (1, 86, 87)), ((87, .sipush 1128, 3, 0, 0, 0, 0), (0, 0, 0)), ((90, .iaload, 1, 0, 0, 0, 0), (0, 87, 1131)), ((91, .iconst (-1), 1, 0, 0, 0, 0), (0, 0, 0)), ((92, .ixor, 1, 0, 0, 0, 0), (0, 0, 0)), ((93, .iand, 1, 0, 0, 0, 0), (0, 0, 0))] (by decide +kernel) rfl ⟨trivial, (by omega)⟩ ?_
      refine gx_if .ne 102 (by decide +kernel) (fun c3 => ?_) (fun c3 => ?_)
      · have c3 : (gx_and x2 (gx_xor (m 87 1128) (-1))) ≠ 0 := c3
        refine gx_blk (C := True) (npc := 104) (L' := [(0, .inr 86), (1, .inl x1), (2, .inl x2), (3, .inl x3), (4, .inl 1)]) (st' := [.inl (-3)]) (m' := m) [((102, .bipush (-3), 2, 0, 0, 0, 0), (0, 0, 0))] (by decide +kernel) rfl trivial ?_
        exact gx_reti (by decide +kernel) (h1 c1 c2 c3)
      · have c3 : (gx_and x2 (gx_xor (m 87 1128) (-1))) = 0 := by have h : ¬ ((gx_and x2 (gx_xor (m 87 1128) (-1))) ≠ 0) := c3; omega
        refine gx_blk (C := True) (npc := 99) (L' := [(0, .inr 86), (1, .inl x1), (2, .inl x2), (3, .inl x3), (4, .inl 1)]) (st' := [.inl 1]) (m' := m) [((97, .iload 4, 2, 0, 0, 0, 0), (0, 0, 0))] (by decide +kernel) rfl trivial ?_
        refine gx_if .ne 105 (by decide +kernel) (fun c4 => ?_) (fun c4 => ?_)
        · have c4 : (1 : Int) ≠ 0 := c4
          refine gx_blk (C := True) (npc := 108) (L' := [(0, .inr 86), (1, .inl x1), (2, .inl x2), (3, .inl x3), (4, .inl 1), (5, .inl 0)]) (st' := []) (m' := m) [((105, .iconst 0, 1, 0, 0, 0, 0), (0, 0, 0)), ((106, .istore 5, 2, 0, 0, 0, 0), (0, 0, 0))] (by decide +kernel) rfl trivial ?_
          exact gx_to_pick [0, 1, 2, 3, 5] (h2 c1 c2 c3)
        · have c4 : (1 : Int) = 0 := by have h : ¬ ((1 : Int) ≠ 0) := c4; omega
          exfalso; omega
    · have c2 : x3 ≠ 10 := c2
      have e2 : gx_w (x1 - 1) = x1 - 1 := gx_w_id (by omega) (by omega)
      refine gx_blk (C := True) (npc := 47) (L' := [(0, .inr 86), (1, .inl x1), (2, .inl x2), (3, .inl x3)]) (st' := [.inl (gx_w (x1 - 1)), .inl 0, .inl x3]) (m' := m) [((42, .iload_n 3, 1, 0, 0, 0, 0), (0, 0, 0)), ((43, .iconst 0, 1, 0, 0, 0, 0), (0, 0, 0)), ((44, .iload_n 1, 1, 0, 0, 0, 0), (0, 0, 0)), ((45, .iconst 1, 1, 0, 0, 0, 0), (0, 0, 0)), ((46, .isub, 1, 0, 0, 0, 0), (0, 0, 0))] (by decide +kernel) rfl trivial ?_
      rw [e2]
      exact gx_calls (E := (47, .invokestatic 108, 3, 162, 0, 6023, 0)) (M' := yp_m162) [.inl x3, .inl 0, .inl (x1 - 1)] [] rfl (by decide +kernel) rfl ⟨rfl, rfl⟩ rfl rfl (Nat.le_of_ble_eq_true rfl) (Nat.le_of_ble_eq_true rfl) rfl (gx_to_mono (h3 c1 c2) (fun r m' h' => gx_to_pick [0, 1, 2, 3] h'))
  · have c1 : s0 = 0 := by have h : ¬ (s0 ≠ 0) := c1; omega
    refine gx_blk (C := True) (npc := 35) (L' := [(0, .inr 86), (1, .inl x1), (2, .inl x2), (3, .inl x3)]) (st' := [.inl (-2)]) (m' := m) [((33, .bipush (-2), 2, 0, 0, 0, 0), (0, 0, 0))] (by decide +kernel) rfl trivial ?_
    exact gx_reti (by decide +kernel) (h4 c1)

/-- sold from 50 on -/
theorem gt242_50 {xs : List Int32} {w0 : sx_W} {d : Nat} {Q : gx_Q} {m : gx_M} {x1 x2 x3 s0 : Int} (hI : gx_I m) (r_x1 : 1 ≤ x1 ∧ x1 ≤ 6)
    (h1 : (s0 ≠ 0) → ((gx_and x2 (gx_xor (m 87 1128) (-1))) ≠ 0) → Q (some (-3)) m)
    (h2 : (s0 ≠ 0) → ((gx_and x2 (gx_xor (m 87 1128) (-1))) = 0) → gx_to xs w0 (d + 1) yp_m242 108 [(0, .inr 86), (1, .inl x1), (2, .inl x2), (3, .inl x3), (5, .inl 0)] [] m Q)
    (h3 : (s0 = 0) → gx_to xs w0 d yp_m162 0 [(0, .inl x3), (1, .inl 20), (2, .inl 27)] [] m (fun r m' => gx_to xs w0 (d + 1) yp_m242 61 [(0, .inr 86), (1, .inl x1), (2, .inl x2), (3, .inl x3)] (gx_rs r ++ []) m' Q)) : gx_to xs w0 (d + 1) yp_m242 50 [(0, .inr 86), (1, .inl x1), (2, .inl x2), (3, .inl x3)] [.inl s0] m Q := by
  refine gx_if .ne 75 (by decide +kernel) (fun c1 => ?_) (fun c1 => ?_)
  · have c1 : s0 ≠ 0 := c1
    have f1 := gx_I_n hI 87 1128 0 255 (by decide +kernel)
    refine gx_blk (C := (True ∧ (0 ≤ 1128 ∧ 1128 < 1131))) (npc := 94) (L' := [(0, .inr 86), (1, .inl x1), (2, .inl x2), (3, .inl x3), (4, .inl 1)]) (st' := [.inl (gx_and x2 (gx_xor (m 87 1128) (-1)))]) (m' := m) [((75, .iconst 1, 1, 0, 0, 0, 0), (0, 0, 0)), ((76, .goto 4, 3, 0, 0, 0, 0), (0, 0, 0)), ((80, .istore 4, 2, 0, 0, 0, 0), (0, 0, 0)), ((82, .iload_n 2, 1, 0, 0, 0, 0), (0, 0, 0)), ((83, .aload_n 0, 1, 0, 0, 0, 0), (0, 0, 0)), ((84, .getfield 7, 3, 10, 0, 5113, 0), (1, 86, 87)), ((87, .sipush 1128, 3, 0, 0, 0, 0), (0, 0, 0)), ((90, .iaload, 1, 0, 0, 0, 0), (0, 87, 1131)), ((91, .iconst (-1), 1, 0, 0, 0, 0), (0, 0, 0)), ((92, .ixor, 1, 0, 0, 0, 0), (0, 0, 0)), ((93, .iand, 1, 0, 0, 0, 0), (0, 0, 0))] (by decide +kernel) rfl ⟨trivial, (by omega)⟩ ?_
    refine gx_if .ne 102 (by decide +kernel) (fun c2 => ?_) (fun c2 => ?_)
    · have c2 : (gx_and x2 (gx_xor (m 87 1128) (-1))) ≠ 0 := c2
      refine gx_blk (C := True) (npc := 104) (L' := [(0, .inr 86), (1, .inl x1), (2, .inl x2), (3, .inl x3), (4, .inl 1)]) (st' := [.inl (-3)]) (m' := m) [((102, .bipush (-3), 2, 0, 0, 0, 0), (0, 0, 0))] (by decide +kernel) rfl trivial ?_
      exact gx_reti (by decide +kernel) (h1 c1 c2)
    · have c2 : (gx_and x2 (gx_xor (m 87 1128) (-1))) = 0 := by have h : ¬ ((gx_and x2 (gx_xor (m 87 1128) (-1))) ≠ 0) := c2; omega
      refine gx_blk (C := True) (npc := 99) (L' := [(0, .inr 86), (1, .inl x1), (2, .inl x2), (3, .inl x3), (4, .inl 1)]) (st' := [.inl 1]) (m' := m) [((97, .iload 4, 2, 0, 0, 0, 0), (0, 0, 0))] (by decide +kernel) rfl trivial ?_
      refine gx_if .ne 105 (by decide +kernel) (fun c3 => ?_) (fun c3 => ?_)
      · have c3 : (1 : Int) ≠ 0 := c3
        refine gx_blk (C := True) (npc := 108) (L' := [(0, .inr 86), (1, .inl x1), (2, .inl x2), (3, .inl x3), (4, .inl 1), (5, .inl 0)]) (st' := []) (m' := m) [((105, .iconst 0, 1, 0, 0, 0, 0), (0, 0, 0)), ((106, .istore 5, 2, 0, 0, 0, 0), (0, 0, 0))] (by decide +kernel) rfl trivial ?_
        exact gx_to_pick [0, 1, 2, 3, 5] (h2 c1 c2)
      · have c3 : (1 : Int) = 0 := by have h : ¬ ((1 : Int) ≠ 0) := c3; omega
        exfalso; omega
  · have c1 : s0 = 0 := by have h : ¬ (s0 ≠ 0) := c1; omega
    refine gx_blk (C := True) (npc := 58) (L' := [(0, .inr 86), (1, .inl x1), (2, .inl x2), (3, .inl x3)]) (st' := [.inl 27, .inl 20, .inl x3]) (m' := m) [((53, .iload_n 3, 1, 0, 0, 0, 0), (0, 0, 0)), ((54, .bipush 20, 2, 0, 0, 0, 0), (0, 0, 0)), ((56, .bipush 27, 2, 0, 0, 0, 0), (0, 0, 0))] (by decide +kernel) rfl trivial ?_
    exact gx_calls (E := (58, .invokestatic 108, 3, 162, 0, 6023, 0)) (M' := yp_m162) [.inl x3, .inl 20, .inl 27] [] rfl (by decide +kernel) rfl ⟨rfl, rfl⟩ rfl rfl (Nat.le_of_ble_eq_true rfl) (Nat.le_of_ble_eq_true rfl) rfl (gx_to_mono (h3 c1) (fun r m' h' => gx_to_pick [0, 1, 2, 3] h'))

/-- sold from 61 on -/
theorem gt242_61 {xs : List Int32} {w0 : sx_W} {d : Nat} {Q : gx_Q} {m : gx_M} {x1 x2 x3 s0 : Int} (hI : gx_I m)
    (h1 : (s0 = 0) → ((gx_and x2 (gx_xor (m 87 1128) (-1))) ≠ 0) → Q (some (-3)) m)
    (h2 : (s0 = 0) → ((gx_and x2 (gx_xor (m 87 1128) (-1))) = 0) → Q (some (-3)) m)
    (h3 : (s0 ≠ 0) → gx_to xs w0 d yp_m165 0 [(0, .inl x2), (1, .inl (gx_w (x3 - 20)))] [] m (fun r m' => gx_to xs w0 (d + 1) yp_m242 72 [(0, .inr 86), (1, .inl x1), (2, .inl x2), (3, .inl x3)] (gx_rs r ++ []) m' Q)) : gx_to xs w0 (d + 1) yp_m242 61 [(0, .inr 86), (1, .inl x1), (2, .inl x2), (3, .inl x3)] [.inl s0] m Q := by
  refine gx_if .eq 79 (by decide +kernel) (fun c1 => ?_) (fun c1 => ?_)
  · have c1 : s0 = 0 := c1
    have f1 := gx_I_n hI 87 1128 0 255 (by decide +kernel)
    refine gx_blk (C := (True ∧ (0 ≤ 1128 ∧ 1128 < 1131))) (npc := 94) (L' := [(0, .inr 86), (1, .inl x1), (2, .inl x2), (3, .inl x3), (4, .inl 0)]) (st' := [.inl (gx_and x2 (gx_xor (m 87 1128) (-1)))]) (m' := m) [((79, .iconst 0, 1, 0, 0, 0, 0), (0, 0, 0)), ((80, .istore 4, 2, 0, 0, 0, 0), (0, 0, 0)), ((82, .iload_n 2, 1, 0, 0, 0, 0), (0, 0, 0)), ((83, .aload_n 0, 1, 0, 0, 0, 0), (0, 0, 0)), ((84, .getfield 7, 3, 10, 0, 5113, 0), (1, 86, 87)), ((87, .sipush 1128, 3, 0, 0, 0, 0), (0, 0, 0)), ((90, .iaload, 1, 0, 0, 0, 0), (0, 87, 1131)), ((91, .iconst (-1), 1, 0, 0, 0, 0), (0, 0, 0)), ((92, .ixor, 1, 0, 0, 0, 0), (0, 0, 0)), ((93, .iand, 1, 0, 0, 0, 0), (0, 0, 0))] (by decide +kernel) rfl ⟨trivial, (by omega)⟩ ?_
    refine gx_if .ne 102 (by decide +kernel) (fun c2 => ?_) (fun c2 => ?_)
    · have c2 : (gx_and x2 (gx_xor (m 87 1128) (-1))) ≠ 0 := c2
      refine gx_blk (C := True) (npc := 104) (L' := [(0, .inr 86), (1, .inl x1), (2, .inl x2), (3, .inl x3), (4, .inl 0)]) (st' := [.inl (-3)]) (m' := m) [((102, .bipush (-3), 2, 0, 0, 0, 0), (0, 0, 0))] (by decide +kernel) rfl trivial ?_
      exact gx_reti (by decide +kernel) (h1 c1 c2)
    · have c2 : (gx_and x2 (gx_xor (m 87 1128) (-1))) = 0 := by have h : ¬ ((gx_and x2 (gx_xor (m 87 1128) (-1))) ≠ 0) := c2; omega
      refine gx_blk (C := True) (npc := 99) (L' := [(0, .inr 86), (1, .inl x1), (2, .inl x2), (3, .inl x3), (4, .inl 0)]) (st' := [.inl 0]) (m' := m) [((97, .iload 4, 2, 0, 0, 0, 0), (0, 0, 0))] (by decide +kernel) rfl trivial ?_
      refine gx_if .ne 105 (by decide +kernel) (fun c3 => ?_) (fun c3 => ?_)
      · have c3 : (0 : Int) ≠ 0 := c3
        exfalso; omega
      · have c3 : (0 : Int) = 0 := by have h : ¬ ((0 : Int) ≠ 0) := c3; omega
        refine gx_blk (C := True) (npc := 104) (L' := [(0, .inr 86), (1, .inl x1), (2, .inl x2), (3, .inl x3), (4, .inl 0)]) (st' := [.inl (-3)]) (m' := m) [((102, .bipush (-3), 2, 0, 0, 0, 0), (0, 0, 0))] (by decide +kernel) rfl trivial ?_
        exact gx_reti (by decide +kernel) (h2 c1 c2)
  · have c1 : s0 ≠ 0 := c1
    refine gx_blk (C := True) (npc := 69) (L' := [(0, .inr 86), (1, .inl x1), (2, .inl x2), (3, .inl x3)]) (st' := [.inl (gx_w (x3 - 20)), .inl x2]) (m' := m) [((64, .iload_n 2, 1, 0, 0, 0, 0), (0, 0, 0)), ((65, .iload_n 3, 1, 0, 0, 0, 0), (0, 0, 0)), ((66, .bipush 20, 2, 0, 0, 0, 0), (0, 0, 0)), ((68, .isub, 1, 0, 0, 0, 0), (0, 0, 0))] (by decide +kernel) rfl trivial ?_
    exact gx_calls (E := (69, .invokestatic 104, 3, 165, 0, 6035, 0)) (M' := yp_m165) [.inl x2, .inl (gx_w (x3 - 20))] [] rfl (by decide +kernel) rfl ⟨rfl, rfl⟩ rfl rfl (Nat.le_of_ble_eq_true rfl) (Nat.le_of_ble_eq_true rfl) rfl (gx_to_mono (h3 c1) (fun r m' h' => gx_to_pick [0, 1, 2, 3] h'))

/-- sold from 72 on -/
theorem gt242_72 {xs : List Int32} {w0 : sx_W} {d : Nat} {Q : gx_Q} {m : gx_M} {x1 x2 x3 s0 : Int} (hI : gx_I m)
    (h1 : (s0 = 0) → ((gx_and x2 (gx_xor (m 87 1128) (-1))) ≠ 0) → Q (some (-3)) m)
    (h2 : (s0 = 0) → ((gx_and x2 (gx_xor (m 87 1128) (-1))) = 0) → Q (some (-3)) m)
    (h3 : (s0 ≠ 0) → ((gx_and x2 (gx_xor (m 87 1128) (-1))) ≠ 0) → Q (some (-3)) m)
    (h4 : (s0 ≠ 0) → ((gx_and x2 (gx_xor (m 87 1128) (-1))) = 0) → gx_to xs w0 d yp_m242 108 [(0, .inr 86), (1, .inl x1), (2, .inl x2), (3, .inl x3), (5, .inl 0)] [] m Q) : gx_to xs w0 d yp_m242 72 [(0, .inr 86), (1, .inl x1), (2, .inl x2), (3, .inl x3)] [.inl s0] m Q := by
  refine gx_if .eq 79 (by decide +kernel) (fun c1 => ?_) (fun c1 => ?_)
  · have c1 : s0 = 0 := c1
    have f1 := gx_I_n hI 87 1128 0 255 (by decide +kernel)
    refine gx_blk (C := (True ∧ (0 ≤ 1128 ∧ 1128 < 1131))) (npc := 94) (L' := [(0, .inr 86), (1, .inl x1), (2, .inl x2), (3, .inl x3), (4, .inl 0)]) (st' := [.inl (gx_and x2 (gx_xor (m 87 1128) (-1)))]) (m' := m) [((79, .iconst 0, 1, 0, 0, 0, 0), (0, 0, 0)), ((80, .istore 4, 2, 0, 0, 0, 0), (0, 0, 0)), ((82, .iload_n 2, 1, 0, 0, 0, 0), (0, 0, 0)), ((83, .aload_n 0, 1, 0, 0, 0, 0), (0, 0, 0)), ((84, .getfield 7, 3, 10, 0, 5113, 0), (1, 86, 87)), ((87, .sipush 1128, 3, 0, 0, 0, 0), (0, 0, 0)), ((90, .iaload, 1, 0, 0, 0, 0), (0, 87, 1131)), ((91, .iconst (-1), 1, 0, 0, 0, 0), (0, 0, 0)), ((92, .ixor, 1, 0, 0, 0, 0), (0, 0, 0)), ((93, .iand, 1, 0, 0, 0, 0), (0, 0, 0))] (by decide +kernel) rfl ⟨trivial, (by omega)⟩ ?_
    refine gx_if .ne 102 (by decide +kernel) (fun c2 => ?_) (fun c2 => ?_)
    · have c2 : (gx_and x2 (gx_xor (m 87 1128) (-1))) ≠ 0 := c2
      refine gx_blk (C := True) (npc := 104) (L' := [(0, .inr 86), (1, .inl x1), (2, .inl x2), (3, .inl x3), (4, .inl 0)]) (st' := [.inl (-3)]) (m' := m) [((102, .bipush (-3), 2, 0, 0, 0, 0), (0, 0, 0))] (by decide +kernel) rfl trivial ?_
      exact gx_reti (by decide +kernel) (h1 c1 c2)
    · have c2 : (gx_and x2 (gx_xor (m 87 1128) (-1))) = 0 := by have h : ¬ ((gx_and x2 (gx_xor (m 87 1128) (-1))) ≠ 0) := c2; omega
      refine gx_blk (C := True) (npc := 99) (L' := [(0, .inr 86), (1, .inl x1), (2, .inl x2), (3, .inl x3), (4, .inl 0)]) (st' := [.inl 0]) (m' := m) [((97, .iload 4, 2, 0, 0, 0, 0), (0, 0, 0))] (by decide +kernel) rfl trivial ?_
      refine gx_if .ne 105 (by decide +kernel) (fun c3 => ?_) (fun c3 => ?_)
      · have c3 : (0 : Int) ≠ 0 := c3
        exfalso; omega
      · have c3 : (0 : Int) = 0 := by have h : ¬ ((0 : Int) ≠ 0) := c3; omega
        refine gx_blk (C := True) (npc := 104) (L' := [(0, .inr 86), (1, .inl x1), (2, .inl x2), (3, .inl x3), (4, .inl 0)]) (st' := [.inl (-3)]) (m' := m) [((102, .bipush (-3), 2, 0, 0, 0, 0), (0, 0, 0))] (by decide +kernel) rfl trivial ?_
        exact gx_reti (by decide +kernel) (h2 c1 c2)
  · have c1 : s0 ≠ 0 := c1
    have f2 := gx_I_n hI 87 1128 0 255 (by decide +kernel)
    refine gx_blk (C := (True ∧ (0 ≤ 1128 ∧ 1128 < 1131))) (npc := 94) (L' := [(0, .inr 86), (1, .inl x1), (2, .inl x2), (3, .inl x3), (4, .inl 1)]) (st' := [.inl (gx_and x2 (gx_xor (m 87 1128) (-1)))]) (m' := m) [((75, .iconst 1, 1, 0, 0, 0, 0), (0, 0, 0)), ((76, .goto 4, 3, 0, 0, 0, 0), (0, 0, 0)), ((80, .istore 4, 2, 0, 0, 0, 0), (0, 0, 0)), ((82, .iload_n 2, 1, 0, 0, 0, 0), (0, 0, 0)), ((83, .aload_n 0, 1, 0, 0, 0, 0), (0, 0, 0)), ((84, .getfield 7, 3, 10, 0, 5113, 0), (1, 86, 87)), ((87, .sipush 1128, 3, 0, 0, 0, 0), (0, 0, 0)), ((90, .iaload, 1, 0, 0, 0, 0), (0, 87, 1131)), ((91, .iconst (-1), 1, 0, 0, 0, 0), (0, 0, 0)), ((92, .ixor, 1, 0, 0, 0, 0), (0, 0, 0)), ((93, .iand, 1, 0, 0, 0, 0), (0, 0, 0))] (by decide +kernel) rfl ⟨trivial, (by omega)⟩ ?_
    refine gx_if .ne 102 (by decide +kernel) (fun c2 => ?_) (fun c2 => ?_)
    · have c2 : (gx_and x2 (gx_xor (m 87 1128) (-1))) ≠ 0 := c2
      refine gx_blk (C := True) (npc := 104) (L' := [(0, .inr 86), (1, .inl x1), (2, .inl x2), (3, .inl x3), (4, .inl 1)]) (st' := [.inl (-3)]) (m' := m) [((102, .bipush (-3), 2, 0, 0, 0, 0), (0, 0, 0))] (by decide +kernel) rfl trivial ?_
      exact gx_reti (by decide +kernel) (h3 c1 c2)
    · have c2 : (gx_and x2 (gx_xor (m 87 1128) (-1))) = 0 := by have h : ¬ ((gx_and x2 (gx_xor (m 87 1128) (-1))) ≠ 0) := c2; omega
      refine gx_blk (C := True) (npc := 99) (L' := [(0, .inr 86), (1, .inl x1), (2, .inl x2), (3, .inl x3), (4, .inl 1)]) (st' := [.inl 1]) (m' := m) [((97, .iload 4, 2, 0, 0, 0, 0), (0, 0, 0))] (by decide +kernel) rfl trivial ?_
      refine gx_if .ne 105 (by decide +kernel) (fun c3 => ?_) (fun c3 => ?_)
      · have c3 : (1 : Int) ≠ 0 := c3
        refine gx_blk (C := True) (npc := 108) (L' := [(0, .inr 86), (1, .inl x1), (2, .inl x2), (3, .inl x3), (4, .inl 1), (5, .inl 0)]) (st' := []) (m' := m) [((105, .iconst 0, 1, 0, 0, 0, 0), (0, 0, 0)), ((106, .istore 5, 2, 0, 0, 0, 0), (0, 0, 0))] (by decide +kernel) rfl trivial ?_
        exact gx_to_pick [0, 1, 2, 3, 5] (h4 c1 c2)
      · have c3 : (1 : Int) = 0 := by have h : ¬ ((1 : Int) ≠ 0) := c3; omega
        exfalso; omega

/-- sold from 108 on -/
theorem gt242_108 {xs : List Int32} {w0 : sx_W} {d : Nat} {Q : gx_Q} {m : gx_M} {x1 x2 x3 x5 : Int} (r_x1 : 1 ≤ x1 ∧ x1 ≤ 6) (r_x5 : 0 ≤ x5 ∧ x5 ≤ 6)
    (h1 : (x1 ≤ x5) → (x3 < 20) → gx_to xs w0 d yp_m245 0 [(0, .inr 86), (1, .inl x2)] [] m (fun r m' => gx_to xs w0 (d + 1) yp_m242 196 [(0, .inr 86), (3, .inl x3)] (gx_rs r ++ []) m' Q))
    (h2 : (x1 ≤ x5) → (20 ≤ x3) → gx_to xs w0 d yp_m244 0 [(0, .inr 86), (1, .inl x2), (2, .inl (gx_w (x3 - 20)))] [] m (fun r m' => gx_to xs w0 (d + 1) yp_m242 190 [] (gx_rs r ++ []) m' Q))
    (h3 : (x5 < x1) → gx_to xs w0 (d + 1) yp_m242 117 [(0, .inr 86), (1, .inl x1), (2, .inl x2), (3, .inl x3), (5, .inl x5), (6, .inl 0)] [] m Q) : gx_to xs w0 (d + 1) yp_m242 108 [(0, .inr 86), (1, .inl x1), (2, .inl x2), (3, .inl x3), (5, .inl x5)] [] m Q := by
  refine gx_blk (C := True) (npc := 111) (L' := [(0, .inr 86), (1, .inl x1), (2, .inl x2), (3, .inl x3), (5, .inl x5)]) (st' := [.inl x1, .inl x5]) (m' := m) [((108, .iload 5, 2, 0, 0, 0, 0), (0, 0, 0)), ((110, .iload_n 1, 1, 0, 0, 0, 0), (0, 0, 0))] (by decide +kernel) rfl trivial ?_
  refine gx_cmp .ge 175 (by decide +kernel) (fun c1 => ?_) (fun c1 => ?_)
  · have c1 : x1 ≤ x5 := c1
    refine gx_blk (C := True) (npc := 178) (L' := [(0, .inr 86), (1, .inl x1), (2, .inl x2), (3, .inl x3), (5, .inl x5)]) (st' := [.inl 20, .inl x3]) (m' := m) [((175, .iload_n 3, 1, 0, 0, 0, 0), (0, 0, 0)), ((176, .bipush 20, 2, 0, 0, 0, 0), (0, 0, 0))] (by decide +kernel) rfl trivial ?_
    refine gx_cmp .lt 191 (by decide +kernel) (fun c2 => ?_) (fun c2 => ?_)
    · have c2 : x3 < 20 := c2
      refine gx_blk (C := True) (npc := 193) (L' := [(0, .inr 86), (1, .inl x1), (2, .inl x2), (3, .inl x3), (5, .inl x5)]) (st' := [.inl x2, .inr 86]) (m' := m) [((191, .aload_n 0, 1, 0, 0, 0, 0), (0, 0, 0)), ((192, .iload_n 2, 1, 0, 0, 0, 0), (0, 0, 0))] (by decide +kernel) rfl trivial ?_
      exact gx_callv (E := (193, .invokevirtual 355, 3, 245, 0, 7107, 0)) (M' := yp_m245) (c := 86) [.inl x2] [] rfl (by decide +kernel) rfl ⟨rfl, rfl⟩ rfl rfl (Nat.le_of_ble_eq_true rfl) (Nat.le_of_ble_eq_true rfl) (by decide +kernel) (gx_to_mono (h1 c1 c2) (fun r m' h' => gx_to_pick [0, 3] h'))
    · have c2 : 20 ≤ x3 := by have h : ¬ (x3 < 20) := c2; omega
      refine gx_blk (C := True) (npc := 187) (L' := [(0, .inr 86), (1, .inl x1), (2, .inl x2), (3, .inl x3), (5, .inl x5)]) (st' := [.inl (gx_w (x3 - 20)), .inl x2, .inr 86]) (m' := m) [((181, .aload_n 0, 1, 0, 0, 0, 0), (0, 0, 0)), ((182, .iload_n 2, 1, 0, 0, 0, 0), (0, 0, 0)), ((183, .iload_n 3, 1, 0, 0, 0, 0), (0, 0, 0)), ((184, .bipush 20, 2, 0, 0, 0, 0), (0, 0, 0)), ((186, .isub, 1, 0, 0, 0, 0), (0, 0, 0))] (by decide +kernel) rfl trivial ?_
      exact gx_callv (E := (187, .invokevirtual 364, 3, 244, 0, 7103, 0)) (M' := yp_m244) (c := 86) [.inl x2, .inl (gx_w (x3 - 20))] [] rfl (by decide +kernel) rfl ⟨rfl, rfl⟩ rfl rfl (Nat.le_of_ble_eq_true rfl) (Nat.le_of_ble_eq_true rfl) (by decide +kernel) (gx_to_mono (h2 c1 c2) (fun r m' h' => gx_to_pick [] h'))
  · have c1 : x5 < x1 := by have h : ¬ (x1 ≤ x5) := c1; omega
    refine gx_blk (C := True) (npc := 117) (L' := [(0, .inr 86), (1, .inl x1), (2, .inl x2), (3, .inl x3), (5, .inl x5), (6, .inl 0)]) (st' := []) (m' := m) [((114, .iconst 0, 1, 0, 0, 0, 0), (0, 0, 0)), ((115, .istore 6, 2, 0, 0, 0, 0), (0, 0, 0))] (by decide +kernel) rfl trivial ?_
    exact gx_to_pick [0, 1, 2, 3, 5, 6] (h3 c1)

/-- sold from 117 on -/
theorem gt242_117 {xs : List Int32} {w0 : sx_W} {d : Nat} {Q : gx_Q} {m : gx_M} {x1 x2 x3 x5 x6 : Int} (r_x1 : 1 ≤ x1 ∧ x1 ≤ 6) (r_x5 : 0 ≤ x5 ∧ x5 ≤ 5) (r_x6 : 0 ≤ x6 ∧ x6 ≤ 8)
    (h1 : (8 ≤ x6) → gx_to xs w0 (d + 1) yp_m242 108 [(0, .inr 86), (1, .inl x1), (2, .inl x2), (3, .inl x3), (5, .inl (x5 + 1))] [] m Q)
    (h2 : (x6 < 8) → gx_to xs w0 d yp_m165 0 [(0, .inl x2), (1, .inl x6)] [] m (fun r m' => gx_to xs w0 (d + 1) yp_m242 142 [(0, .inr 86), (1, .inl x1), (2, .inl x2), (3, .inl x3), (5, .inl x5), (6, .inl x6)] (gx_rs r ++ [.inl ((8 * x5) + x6), .inr 113]) m' Q)) : gx_to xs w0 (d + 1) yp_m242 117 [(0, .inr 86), (1, .inl x1), (2, .inl x2), (3, .inl x3), (5, .inl x5), (6, .inl x6)] [] m Q := by
  refine gx_blk (C := True) (npc := 121) (L' := [(0, .inr 86), (1, .inl x1), (2, .inl x2), (3, .inl x3), (5, .inl x5), (6, .inl x6)]) (st' := [.inl 8, .inl x6]) (m' := m) [((117, .iload 6, 2, 0, 0, 0, 0), (0, 0, 0)), ((119, .bipush 8, 2, 0, 0, 0, 0), (0, 0, 0))] (by decide +kernel) rfl trivial ?_
  refine gx_cmp .ge 169 (by decide +kernel) (fun c1 => ?_) (fun c1 => ?_)
  · have c1 : 8 ≤ x6 := c1
    have e1 : gx_w (x5 + 1) = x5 + 1 := gx_w_id (by omega) (by omega)
    refine gx_blk (C := True) (npc := 108) (L' := [(0, .inr 86), (1, .inl x1), (2, .inl x2), (3, .inl x3), (5, .inl (gx_w (x5 + 1))), (6, .inl x6)]) (st' := []) (m' := m) [((169, .iinc 5 1, 3, 0, 0, 0, 0), (0, 0, 0)), ((172, .goto (-64), 3, 0, 0, 0, 0), (0, 0, 0))] (by decide +kernel) rfl trivial ?_
    rw [e1]
    exact gx_to_pick [0, 1, 2, 3, 5] (h1 c1)
  · have c1 : x6 < 8 := by have h : ¬ (8 ≤ x6) := c1; omega
    have e2 : gx_w (8 * x5) = 8 * x5 := gx_w_id (by omega) (by omega)
    have e3 : gx_w ((8 * x5) + x6) = (8 * x5) + x6 := gx_w_id (by omega) (by omega)
    refine gx_blk (C := True) (npc := 139) (L' := [(0, .inr 86), (1, .inl x1), (2, .inl x2), (3, .inl x3), (5, .inl x5), (6, .inl x6)]) (st' := [.inl x6, .inl x2, .inl (gx_w ((gx_w (8 * x5)) + x6)), .inr 113]) (m' := m) [((124, .aload_n 0, 1, 0, 0, 0, 0), (0, 0, 0)), ((125, .getfield 89, 3, 10, 40, 5153, 0), (1, 86, 113)), ((128, .bipush 8, 2, 0, 0, 0, 0), (0, 0, 0)), ((130, .iload 5, 2, 0, 0, 0, 0), (0, 0, 0)), ((132, .imul, 1, 0, 0, 0, 0), (0, 0, 0)), ((133, .iload 6, 2, 0, 0, 0, 0), (0, 0, 0)), ((135, .iadd, 1, 0, 0, 0, 0), (0, 0, 0)), ((136, .iload_n 2, 1, 0, 0, 0, 0), (0, 0, 0)), ((137, .iload 6, 2, 0, 0, 0, 0), (0, 0, 0))] (by decide +kernel) rfl trivial ?_
    rw [e2, e3]
    exact gx_calls (E := (139, .invokestatic 104, 3, 165, 0, 6035, 0)) (M' := yp_m165) [.inl x2, .inl x6] [.inl ((8 * x5) + x6), .inr 113] rfl (by decide +kernel) rfl ⟨rfl, rfl⟩ rfl rfl (Nat.le_of_ble_eq_true rfl) (Nat.le_of_ble_eq_true rfl) rfl (gx_to_mono (h2 c1) (fun r m' h' => gx_to_pick [0, 1, 2, 3, 5, 6] h'))

/-- sold from 142 on -/
theorem gt242_142 {xs : List Int32} {w0 : sx_W} {d : Nat} {Q : gx_Q} {m : gx_M} {x1 x2 x3 x5 x6 s1 s2 : Int} (hI : gx_I m) (r_x1 : 1 ≤ x1 ∧ x1 ≤ 6) (r_x5 : 0 ≤ x5 ∧ x5 ≤ 5) (r_x6 : 0 ≤ x6 ∧ x6 ≤ 7) (r_s1 : 0 ≤ s1 ∧ s1 ≤ 63)
    (h1 : (s2 = 0) → gx_to xs w0 (d + 1) yp_m242 117 [(0, .inr 86), (1, .inl x1), (2, .inl x2), (3, .inl x3), (5, .inl x5), (6, .inl (x6 + 1))] [] (gx_u m 113 (s1).toNat 0) Q)
    (h2 : (s2 ≠ 0) → gx_to xs w0 d yp_m224 0 [(0, .inr 86), (1, .inl (m 112 (x5).toNat)), (2, .inl x6)] [] m (fun r m' => gx_to xs w0 (d + 1) yp_m242 158 [(0, .inr 86), (1, .inl x1), (2, .inl x2), (3, .inl x3), (5, .inl x5), (6, .inl x6)] (gx_rs r ++ [.inl s1, .inr 113]) m' Q)) : gx_to xs w0 (d + 1) yp_m242 142 [(0, .inr 86), (1, .inl x1), (2, .inl x2), (3, .inl x3), (5, .inl x5), (6, .inl x6)] [.inl s2, .inl s1, .inr 113] m Q := by
  refine gx_if .eq 161 (by decide +kernel) (fun c1 => ?_) (fun c1 => ?_)
  · have c1 : s2 = 0 := c1
    have e1 : gx_w (x6 + 1) = x6 + 1 := gx_w_id (by omega) (by omega)
    refine gx_blk (C := (True ∧ (0 ≤ s1 ∧ s1 < 64))) (npc := 117) (L' := [(0, .inr 86), (1, .inl x1), (2, .inl x2), (3, .inl x3), (5, .inl x5), (6, .inl (gx_w (x6 + 1)))]) (st' := []) (m' := (gx_u m 113 (s1).toNat 0)) [((161, .iconst 0, 1, 0, 0, 0, 0), (0, 0, 0)), ((162, .iastore, 1, 0, 0, 0, 0), (0, 113, 64)), ((163, .iinc 6 1, 3, 0, 0, 0, 0), (0, 0, 0)), ((166, .goto (-49), 3, 0, 0, 0, 0), (0, 0, 0))] (by decide +kernel) rfl ⟨trivial, (by omega)⟩ ?_
    rw [e1]
    exact gx_to_pick [0, 1, 2, 3, 5, 6] (h1 c1)
  · have c1 : s2 ≠ 0 := c1
    have f2 := gx_I_at hI 112 (z := x5) 0 5 0 39 (by decide +kernel) (by omega) (by omega)
    refine gx_blk (C := (True ∧ (0 ≤ x5 ∧ x5 < 8))) (npc := 155) (L' := [(0, .inr 86), (1, .inl x1), (2, .inl x2), (3, .inl x3), (5, .inl x5), (6, .inl x6)]) (st' := [.inl x6, .inl (m 112 (x5).toNat), .inr 86, .inl s1, .inr 113]) (m' := m) [((145, .aload_n 0, 1, 0, 0, 0, 0), (0, 0, 0)), ((146, .aload_n 0, 1, 0, 0, 0, 0), (0, 0, 0)), ((147, .getfield 86, 3, 10, 39, 5152, 0), (1, 86, 112)), ((150, .iload 5, 2, 0, 0, 0, 0), (0, 0, 0)), ((152, .iaload, 1, 0, 0, 0, 0), (0, 112, 8)), ((153, .iload 6, 2, 0, 0, 0, 0), (0, 0, 0))] (by decide +kernel) rfl ⟨trivial, (by omega)⟩ ?_
    exact gx_callv (E := (155, .invokevirtual 312, 3, 224, 0, 7024, 0)) (M' := yp_m224) (c := 86) [.inl (m 112 (x5).toNat), .inl x6] [.inl s1, .inr 113] rfl (by decide +kernel) rfl ⟨rfl, rfl⟩ rfl rfl (Nat.le_of_ble_eq_true rfl) (Nat.le_of_ble_eq_true rfl) (by decide +kernel) (gx_to_mono (h2 c1) (fun r m' h' => gx_to_pick [0, 1, 2, 3, 5, 6] h'))

/-- sold from 158 on -/
theorem gt242_158 {xs : List Int32} {w0 : sx_W} {d : Nat} {Q : gx_Q} {m : gx_M} {x1 x2 x3 x5 x6 s1 s2 : Int} (r_x1 : 1 ≤ x1 ∧ x1 ≤ 6) (r_x5 : 0 ≤ x5 ∧ x5 ≤ 5) (r_x6 : 0 ≤ x6 ∧ x6 ≤ 7) (r_s1 : 0 ≤ s1 ∧ s1 ≤ 63)
    (h1 : gx_to xs w0 d yp_m242 117 [(0, .inr 86), (1, .inl x1), (2, .inl x2), (3, .inl x3), (5, .inl x5), (6, .inl (x6 + 1))] [] (gx_u m 113 (s1).toNat s2) Q) : gx_to xs w0 d yp_m242 158 [(0, .inr 86), (1, .inl x1), (2, .inl x2), (3, .inl x3), (5, .inl x5), (6, .inl x6)] [.inl s2, .inl s1, .inr 113] m Q := by
  have e1 : gx_w (x6 + 1) = x6 + 1 := gx_w_id (by omega) (by omega)
  refine gx_blk (C := (True ∧ (0 ≤ s1 ∧ s1 < 64))) (npc := 117) (L' := [(0, .inr 86), (1, .inl x1), (2, .inl x2), (3, .inl x3), (5, .inl x5), (6, .inl (gx_w (x6 + 1)))]) (st' := []) (m' := (gx_u m 113 (s1).toNat s2)) [((158, .goto 4, 3, 0, 0, 0, 0), (0, 0, 0)), ((162, .iastore, 1, 0, 0, 0, 0), (0, 113, 64)), ((163, .iinc 6 1, 3, 0, 0, 0, 0), (0, 0, 0)), ((166, .goto (-49), 3, 0, 0, 0, 0), (0, 0, 0))] (by decide +kernel) rfl ⟨trivial, (by omega)⟩ ?_
  rw [e1]
  exact gx_to_pick [0, 1, 2, 3, 5, 6] h1

/-- sold from 190 on -/
theorem gt242_190 {xs : List Int32} {w0 : sx_W} {d : Nat} {Q : gx_Q} {m : gx_M} {s0 : Int}
    (h1 : Q (some s0) m) : gx_to xs w0 d yp_m242 190 [] [.inl s0] m Q := by
  exact gx_reti (by decide +kernel) h1

/-- sold from 196 on -/
theorem gt242_196 {xs : List Int32} {w0 : sx_W} {d : Nat} {Q : gx_Q} {m : gx_M} {x3 s0 : Int}
    (h1 : (x3 ≠ 10) → gx_to xs w0 d yp_m247 0 [(0, .inr 86), (1, .inl x3)] [] m (fun r m' => gx_to xs w0 (d + 1) yp_m242 214 [] (gx_rs r ++ []) m' Q))
    (h2 : (x3 = 10) → gx_to xs w0 (d + 1) yp_m242 214 [] [.inl s0] m Q) : gx_to xs w0 (d + 1) yp_m242 196 [(0, .inr 86), (3, .inl x3)] [.inl s0] m Q := by
  refine gx_blk (C := True) (npc := 201) (L' := [(0, .inr 86), (3, .inl x3), (5, .inl s0)]) (st' := [.inl 10, .inl x3]) (m' := m) [((196, .istore 5, 2, 0, 0, 0, 0), (0, 0, 0)), ((198, .iload_n 3, 1, 0, 0, 0, 0), (0, 0, 0)), ((199, .bipush 10, 2, 0, 0, 0, 0), (0, 0, 0))] (by decide +kernel) rfl trivial ?_
  refine gx_cmp .ne 209 (by decide +kernel) (fun c1 => ?_) (fun c1 => ?_)
  · have c1 : x3 ≠ 10 := c1
    refine gx_blk (C := True) (npc := 211) (L' := [(0, .inr 86), (3, .inl x3), (5, .inl s0)]) (st' := [.inl x3, .inr 86]) (m' := m) [((209, .aload_n 0, 1, 0, 0, 0, 0), (0, 0, 0)), ((210, .iload_n 3, 1, 0, 0, 0, 0), (0, 0, 0))] (by decide +kernel) rfl trivial ?_
    exact gx_callv (E := (211, .invokevirtual 358, 3, 247, 0, 7115, 0)) (M' := yp_m247) (c := 86) [.inl x3] [] rfl (by decide +kernel) rfl ⟨rfl, rfl⟩ rfl rfl (Nat.le_of_ble_eq_true rfl) (Nat.le_of_ble_eq_true rfl) (by decide +kernel) (gx_to_mono (h1 c1) (fun r m' h' => gx_to_pick [] h'))
  · have c1 : x3 = 10 := by have h : ¬ (x3 ≠ 10) := c1; omega
    refine gx_blk (C := True) (npc := 214) (L' := [(0, .inr 86), (3, .inl x3), (5, .inl s0)]) (st' := [.inl s0]) (m' := m) [((204, .iload 5, 2, 0, 0, 0, 0), (0, 0, 0)), ((206, .goto 8, 3, 0, 0, 0, 0), (0, 0, 0))] (by decide +kernel) rfl trivial ?_
    exact gx_to_pick [] (h2 c1)

/-- sold from 214 on -/
theorem gt242_214 {xs : List Int32} {w0 : sx_W} {d : Nat} {Q : gx_Q} {m : gx_M} {s0 : Int}
    (h1 : Q (some s0) m) : gx_to xs w0 d yp_m242 214 [] [.inl s0] m Q := by
  exact gx_reti (by decide +kernel) h1

