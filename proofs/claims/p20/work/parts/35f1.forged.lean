/-! forged: the reference -/
/-- mostMarked from 0 on -/
theorem hr255_0 {xs : List Int32} {n : Nat} {Q : hQ} {m : gx_M} {x1 : Int}
    (h1 : hxn xs n yp_m255 4 [(0, .inr (.inl 86)), (1, .inl x1), (2, .inl 0), (3, .inl 0)] [] m Q) : hxn xs (n + 1) yp_m255 0 [(0, .inr (.inl 86)), (1, .inl x1)] [] m Q := by
  refine hx_blks (npc := 4) (L' := [(0, .inr (.inl 86)), (1, .inl x1), (2, .inl 0), (3, .inl 0)]) (st' := []) (m' := m) ((0, .iconst 0, 1, 0, 0, 0, 0), (0, 0, 0)) [((1, .istore_n 2, 1, 0, 0, 0, 0), (0, 0, 0)), ((2, .iconst 0, 1, 0, 0, 0, 0), (0, 0, 0)), ((3, .istore_n 3, 1, 0, 0, 0, 0), (0, 0, 0))] (by decide +kernel) rfl ?_
  exact hx_pick [0, 1, 2, 3] h1

/-- mostMarked from 4 on -/
theorem hr255_4 {xs : List Int32} {n : Nat} {Q : hQ} {m : gx_M} {x1 x2 x3 : Int} (r_x3 : 0 ≤ x3 ∧ x3 ≤ 10)
    (h1 : (10 ≤ x3) → Q (some (.inl x2)) m)
    (h2 : (x3 < 10) → (((fmk (m 87) x1 x3 : Nat) : Int) ≤ x2) → hxn xs n yp_m255 4 [(0, .inr (.inl 86)), (1, .inl x1), (2, .inl x2), (3, .inl (x3 + 1))] [] m Q)
    (h3 : (x3 < 10) → (x2 < ((fmk (m 87) x1 x3 : Nat) : Int)) → hxn xs n yp_m255 4 [(0, .inr (.inl 86)), (1, .inl x1), (2, .inl ((fmk (m 87) x1 x3 : Nat) : Int)), (3, .inl (x3 + 1))] [] m Q) : hxn xs (n + 1) yp_m255 4 [(0, .inr (.inl 86)), (1, .inl x1), (2, .inl x2), (3, .inl x3)] [] m Q := by
  refine hx_blks (npc := 7) (L' := [(0, .inr (.inl 86)), (1, .inl x1), (2, .inl x2), (3, .inl x3)]) (st' := [.inl 10, .inl x3]) (m' := m) ((4, .iload_n 3, 1, 0, 0, 0, 0), (0, 0, 0)) [((5, .bipush 10, 2, 0, 0, 0, 0), (0, 0, 0))] (by decide +kernel) rfl ?_
  refine hx_cmp .ge 37 (by decide +kernel) (fun c1 => ?_) (fun c1 => ?_)
  · have c1 : 10 ≤ x3 := c1
    refine hx_blk (npc := 38) (L' := [(0, .inr (.inl 86)), (1, .inl x1), (2, .inl x2), (3, .inl x3)]) (st' := [.inl x2]) (m' := m) [((37, .iload_n 2, 1, 0, 0, 0, 0), (0, 0, 0))] (by decide +kernel) rfl ?_
    exact hx_reti (by decide +kernel) (h1 c1)
  · have c1 : x3 < 10 := by have h : ¬ (10 ≤ x3) := c1; omega
    refine hx_blk (npc := 13) (L' := [(0, .inr (.inl 86)), (1, .inl x1), (2, .inl x2), (3, .inl x3)]) (st' := [.inl x3, .inl x1, .inr (.inl 86)]) (m' := m) [((10, .aload_n 0, 1, 0, 0, 0, 0), (0, 0, 0)), ((11, .iload_n 1, 1, 0, 0, 0, 0), (0, 0, 0)), ((12, .iload_n 3, 1, 0, 0, 0, 0), (0, 0, 0))] (by decide +kernel) rfl ?_
    refine hx_call (E := (13, .invokevirtual 376, 3, 254, 0, 7144, 0)) (M' := yp_m254) [.inr (.inl 86), .inl x1, .inl x3] [] rfl (by decide +kernel) rfl ⟨rfl, rfl⟩ rfl rfl (hs254 ?_)
    have f1 := fmk_bd (m 87) x1 x3
    show hxn xs n yp_m255 16 [(0, .inr (.inl 86)), (1, .inl x1), (2, .inl x2), (3, .inl x3)] [.inl ((fmk (m 87) x1 x3 : Nat) : Int)] m Q
    refine hx_blk (npc := 17) (L' := [(0, .inr (.inl 86)), (1, .inl x1), (2, .inl x2), (3, .inl x3)]) (st' := [.inl x2, .inl ((fmk (m 87) x1 x3 : Nat) : Int)]) (m' := m) [((16, .iload_n 2, 1, 0, 0, 0, 0), (0, 0, 0))] (by decide +kernel) rfl ?_
    refine hx_cmp .le 29 (by decide +kernel) (fun c2 => ?_) (fun c2 => ?_)
    · have c2 : ((fmk (m 87) x1 x3 : Nat) : Int) ≤ x2 := c2
      have e2 : gx_w (x3 + 1) = x3 + 1 := gx_w_id (by omega) (by omega)
      refine hx_blk (npc := 4) (L' := [(0, .inr (.inl 86)), (1, .inl x1), (2, .inl x2), (3, .inl (gx_w (x3 + 1)))]) (st' := []) (m' := m) [((29, .iload_n 2, 1, 0, 0, 0, 0), (0, 0, 0)), ((30, .istore_n 2, 1, 0, 0, 0, 0), (0, 0, 0)), ((31, .iinc 3 1, 3, 0, 0, 0, 0), (0, 0, 0)), ((34, .goto (-30), 3, 0, 0, 0, 0), (0, 0, 0))] (by decide +kernel) rfl ?_
      rw [e2]
      exact hx_pick [0, 1, 2, 3] (h2 c1 c2)
    · have c2 : x2 < ((fmk (m 87) x1 x3 : Nat) : Int) := by have h : ¬ (((fmk (m 87) x1 x3 : Nat) : Int) ≤ x2) := c2; omega
      refine hx_blk (npc := 23) (L' := [(0, .inr (.inl 86)), (1, .inl x1), (2, .inl x2), (3, .inl x3)]) (st' := [.inl x3, .inl x1, .inr (.inl 86)]) (m' := m) [((20, .aload_n 0, 1, 0, 0, 0, 0), (0, 0, 0)), ((21, .iload_n 1, 1, 0, 0, 0, 0), (0, 0, 0)), ((22, .iload_n 3, 1, 0, 0, 0, 0), (0, 0, 0))] (by decide +kernel) rfl ?_
      refine hx_call (E := (23, .invokevirtual 376, 3, 254, 0, 7144, 0)) (M' := yp_m254) [.inr (.inl 86), .inl x1, .inl x3] [] rfl (by decide +kernel) rfl ⟨rfl, rfl⟩ rfl rfl (hs254 ?_)
      have f3 := fmk_bd (m 87) x1 x3
      show hxn xs n yp_m255 26 [(0, .inr (.inl 86)), (1, .inl x1), (2, .inl x2), (3, .inl x3)] [.inl ((fmk (m 87) x1 x3 : Nat) : Int)] m Q
      have e4 : gx_w (x3 + 1) = x3 + 1 := gx_w_id (by omega) (by omega)
      refine hx_blk (npc := 4) (L' := [(0, .inr (.inl 86)), (1, .inl x1), (2, .inl ((fmk (m 87) x1 x3 : Nat) : Int)), (3, .inl (gx_w (x3 + 1)))]) (st' := []) (m' := m) [((26, .goto 4, 3, 0, 0, 0, 0), (0, 0, 0)), ((30, .istore_n 2, 1, 0, 0, 0, 0), (0, 0, 0)), ((31, .iinc 3 1, 3, 0, 0, 0, 0), (0, 0, 0)), ((34, .goto (-30), 3, 0, 0, 0, 0), (0, 0, 0))] (by decide +kernel) rfl ?_
      rw [e4]
      exact hx_pick [0, 1, 2, 3] (h3 c1 c2)

/-- yearsAt from 0 on -/
theorem hr256_0 {xs : List Int32} {n : Nat} {Q : hQ} {m : gx_M} {x1 : Int}
    (h1 : hxn xs n yp_m256 4 [(0, .inr (.inl 86)), (1, .inl x1), (2, .inl 0), (3, .inl 0)] [] m Q) : hxn xs (n + 1) yp_m256 0 [(0, .inr (.inl 86)), (1, .inl x1)] [] m Q := by
  refine hx_blks (npc := 4) (L' := [(0, .inr (.inl 86)), (1, .inl x1), (2, .inl 0), (3, .inl 0)]) (st' := []) (m' := m) ((0, .iconst 0, 1, 0, 0, 0, 0), (0, 0, 0)) [((1, .istore_n 2, 1, 0, 0, 0, 0), (0, 0, 0)), ((2, .iconst 0, 1, 0, 0, 0, 0), (0, 0, 0)), ((3, .istore_n 3, 1, 0, 0, 0, 0), (0, 0, 0))] (by decide +kernel) rfl ?_
  exact hx_pick [0, 1, 2, 3] h1

/-- yearsAt from 4 on -/
theorem hr256_4 {xs : List Int32} {n : Nat} {Q : hQ} {m : gx_M} {x1 x2 x3 : Int} (r_x2 : 0 ≤ x2 ∧ x2 ≤ 400) (r_x3 : 0 ≤ x3 ∧ x3 ≤ 10)
    (h1 : (10 ≤ x3) → Q (some (.inl x2)) m)
    (h2 : (x3 < 10) → hxn xs n yp_m256 4 [(0, .inr (.inl 86)), (1, .inl x1), (2, .inl (x2 + ((fmk (m 87) x1 x3 : Nat) : Int))), (3, .inl (x3 + 1))] [] m Q) : hxn xs (n + 1) yp_m256 4 [(0, .inr (.inl 86)), (1, .inl x1), (2, .inl x2), (3, .inl x3)] [] m Q := by
  refine hx_blks (npc := 7) (L' := [(0, .inr (.inl 86)), (1, .inl x1), (2, .inl x2), (3, .inl x3)]) (st' := [.inl 10, .inl x3]) (m' := m) ((4, .iload_n 3, 1, 0, 0, 0, 0), (0, 0, 0)) [((5, .bipush 10, 2, 0, 0, 0, 0), (0, 0, 0))] (by decide +kernel) rfl ?_
  refine hx_cmp .ge 25 (by decide +kernel) (fun c1 => ?_) (fun c1 => ?_)
  · have c1 : 10 ≤ x3 := c1
    refine hx_blk (npc := 26) (L' := [(0, .inr (.inl 86)), (1, .inl x1), (2, .inl x2), (3, .inl x3)]) (st' := [.inl x2]) (m' := m) [((25, .iload_n 2, 1, 0, 0, 0, 0), (0, 0, 0))] (by decide +kernel) rfl ?_
    exact hx_reti (by decide +kernel) (h1 c1)
  · have c1 : x3 < 10 := by have h : ¬ (10 ≤ x3) := c1; omega
    refine hx_blk (npc := 14) (L' := [(0, .inr (.inl 86)), (1, .inl x1), (2, .inl x2), (3, .inl x3)]) (st' := [.inl x3, .inl x1, .inr (.inl 86), .inl x2]) (m' := m) [((10, .iload_n 2, 1, 0, 0, 0, 0), (0, 0, 0)), ((11, .aload_n 0, 1, 0, 0, 0, 0), (0, 0, 0)), ((12, .iload_n 1, 1, 0, 0, 0, 0), (0, 0, 0)), ((13, .iload_n 3, 1, 0, 0, 0, 0), (0, 0, 0))] (by decide +kernel) rfl ?_
    refine hx_call (E := (14, .invokevirtual 376, 3, 254, 0, 7144, 0)) (M' := yp_m254) [.inr (.inl 86), .inl x1, .inl x3] [.inl x2] rfl (by decide +kernel) rfl ⟨rfl, rfl⟩ rfl rfl (hs254 ?_)
    have f1 := fmk_bd (m 87) x1 x3
    show hxn xs n yp_m256 17 [(0, .inr (.inl 86)), (1, .inl x1), (2, .inl x2), (3, .inl x3)] [.inl ((fmk (m 87) x1 x3 : Nat) : Int), .inl x2] m Q
    have e2 : gx_w (x2 + ((fmk (m 87) x1 x3 : Nat) : Int)) = x2 + ((fmk (m 87) x1 x3 : Nat) : Int) := gx_w_id (by omega) (by omega)
    have e3 : gx_w (x3 + 1) = x3 + 1 := gx_w_id (by omega) (by omega)
    refine hx_blk (npc := 4) (L' := [(0, .inr (.inl 86)), (1, .inl x1), (2, .inl (gx_w (x2 + ((fmk (m 87) x1 x3 : Nat) : Int)))), (3, .inl (gx_w (x3 + 1)))]) (st' := []) (m' := m) [((17, .iadd, 1, 0, 0, 0, 0), (0, 0, 0)), ((18, .istore_n 2, 1, 0, 0, 0, 0), (0, 0, 0)), ((19, .iinc 3 1, 3, 0, 0, 0, 0), (0, 0, 0)), ((22, .goto (-18), 3, 0, 0, 0, 0), (0, 0, 0))] (by decide +kernel) rfl ?_
    rw [e2, e3]
    exact hx_pick [0, 1, 2, 3] (h2 c1)

theorem hl255 {xs : List Int32} {n : Nat} {Q : hQ} {m : gx_M} {a : Int} (h : Q (some (.inl (fmx (m 87) a 10))) m) : ∀ d k : Nat, k + d = 10 → hxn xs n yp_m255 4 [(0, .inr (.inl 86)), (1, .inl a), (2, .inl (fmx (m 87) a k)), (3, .inl (k : Int))] [] m Q := by
  intro d
  induction d with
  | zero =>
    intro k hk
    have e : k = 10 := by omega
    subst e
    exact hx_dn (hr255_4 (by omega) (fun _ => h) (fun c => absurd c (by omega)) (fun c => absurd c (by omega)))
  | succ d ih =>
    intro k hk
    refine hx_dn (hr255_4 (by omega) (fun c => absurd c (by omega)) (fun _ c => ?_) (fun _ c => ?_))
    · have e : fmx (m 87) a (k + 1) = fmx (m 87) a k := if_neg (by omega)
      have := ih (k + 1) (by omega)
      rw [e] at this
      exact this
    · have e : fmx (m 87) a (k + 1) = ((fmk (m 87) a (k : Int) : Nat) : Int) := if_pos c
      have := ih (k + 1) (by omega)
      rw [e] at this
      exact this
theorem hs255 {xs : List Int32} {n : Nat} {Q : hQ} {m : gx_M} {a : Int} (h : Q (some (.inl (fmx (m 87) a 10))) m) : hxn xs n yp_m255 0 [(0, .inr (.inl 86)), (1, .inl a)] [] m Q := hx_dn (hr255_0 (hl255 h 10 0 rfl))
theorem fsm_le (s : Nat → Int) (d : Int) : ∀ k : Nat, fsm s d k ≤ 40 * k
  | 0 => Nat.le_refl _
  | k + 1 => by
    have h1 := fsm_le s d k
    have h2 := fmk_bd s d (k : Int)
    show fsm s d k + fmk s d (k : Int) ≤ _
    omega
theorem hl256 {xs : List Int32} {n : Nat} {Q : hQ} {m : gx_M} {a : Int} (h : Q (some (.inl ((fsm (m 87) a 10 : Nat) : Int))) m) : ∀ d k : Nat, k + d = 10 → hxn xs n yp_m256 4 [(0, .inr (.inl 86)), (1, .inl a), (2, .inl ((fsm (m 87) a k : Nat) : Int)), (3, .inl (k : Int))] [] m Q := by
  intro d
  induction d with
  | zero =>
    intro k hk
    have e : k = 10 := by omega
    subst e
    have := fsm_le (m 87) a 10
    exact hx_dn (hr256_4 (by omega) (by omega) (fun _ => h) (fun c => absurd c (by omega)))
  | succ d ih =>
    intro k hk
    have := fsm_le (m 87) a k
    refine hx_dn (hr256_4 (by omega) (by omega) (fun c => absurd c (by omega)) (fun _ => ?_))
    have e : ((fsm (m 87) a (k + 1) : Nat) : Int) = ((fsm (m 87) a k : Nat) : Int) + ((fmk (m 87) a (k : Int) : Nat) : Int) := by
      show ((fsm (m 87) a k + fmk (m 87) a (k : Int) : Nat) : Int) = _
      omega
    rw [← e]
    exact ih (k + 1) (by omega)
theorem hs256 {xs : List Int32} {n : Nat} {Q : hQ} {m : gx_M} {a : Int} (h : Q (some (.inl ((fsm (m 87) a 10 : Nat) : Int))) m) : hxn xs n yp_m256 0 [(0, .inr (.inl 86)), (1, .inl a)] [] m Q := hx_dn (hr256_0 (hl256 h 10 0 rfl))
/-- bestMarks from 0 on -/
theorem hr253_0 {xs : List Int32} {n : Nat} {Q : hQ} {m : gx_M} {x1 : Int}
    (h1 : hxn xs n yp_m253 4 [(0, .inr (.inl 86)), (1, .inl x1), (2, .inl 0), (3, .inl 0)] [] m Q) : hxn xs (n + 1) yp_m253 0 [(0, .inr (.inl 86)), (1, .inl x1)] [] m Q := by
  refine hx_blks (npc := 4) (L' := [(0, .inr (.inl 86)), (1, .inl x1), (2, .inl 0), (3, .inl 0)]) (st' := []) (m' := m) ((0, .iconst 0, 1, 0, 0, 0, 0), (0, 0, 0)) [((1, .istore_n 2, 1, 0, 0, 0, 0), (0, 0, 0)), ((2, .iconst 0, 1, 0, 0, 0, 0), (0, 0, 0)), ((3, .istore_n 3, 1, 0, 0, 0, 0), (0, 0, 0))] (by decide +kernel) rfl ?_
  exact hx_pick [0, 1, 2, 3] h1

/-- bestMarks from 4 on -/
theorem hr253_4 {xs : List Int32} {n : Nat} {Q : hQ} {m : gx_M} {x1 x2 x3 : Int} (r_x2 : 0 ≤ x2 ∧ x2 ≤ 10) (r_x3 : 0 ≤ x3 ∧ x3 ≤ 10)
    (h1 : (10 ≤ x3) → Q (some (.inl x2)) m)
    (h2 : (x3 < 10) → (((fmk (m 87) x1 x3 : Nat) : Int) ≠ (fmx (m 87) x1 10)) → hxn xs n yp_m253 4 [(0, .inr (.inl 86)), (1, .inl x1), (2, .inl (x2 + 0)), (3, .inl (x3 + 1))] [] m Q)
    (h3 : (x3 < 10) → (((fmk (m 87) x1 x3 : Nat) : Int) = (fmx (m 87) x1 10)) → hxn xs n yp_m253 4 [(0, .inr (.inl 86)), (1, .inl x1), (2, .inl (x2 + 1)), (3, .inl (x3 + 1))] [] m Q) : hxn xs (n + 1) yp_m253 4 [(0, .inr (.inl 86)), (1, .inl x1), (2, .inl x2), (3, .inl x3)] [] m Q := by
  refine hx_blks (npc := 7) (L' := [(0, .inr (.inl 86)), (1, .inl x1), (2, .inl x2), (3, .inl x3)]) (st' := [.inl 10, .inl x3]) (m' := m) ((4, .iload_n 3, 1, 0, 0, 0, 0), (0, 0, 0)) [((5, .bipush 10, 2, 0, 0, 0, 0), (0, 0, 0))] (by decide +kernel) rfl ?_
  refine hx_cmp .ge 38 (by decide +kernel) (fun c1 => ?_) (fun c1 => ?_)
  · have c1 : 10 ≤ x3 := c1
    refine hx_blk (npc := 39) (L' := [(0, .inr (.inl 86)), (1, .inl x1), (2, .inl x2), (3, .inl x3)]) (st' := [.inl x2]) (m' := m) [((38, .iload_n 2, 1, 0, 0, 0, 0), (0, 0, 0))] (by decide +kernel) rfl ?_
    exact hx_reti (by decide +kernel) (h1 c1)
  · have c1 : x3 < 10 := by have h : ¬ (10 ≤ x3) := c1; omega
    refine hx_blk (npc := 14) (L' := [(0, .inr (.inl 86)), (1, .inl x1), (2, .inl x2), (3, .inl x3)]) (st' := [.inl x3, .inl x1, .inr (.inl 86), .inl x2]) (m' := m) [((10, .iload_n 2, 1, 0, 0, 0, 0), (0, 0, 0)), ((11, .aload_n 0, 1, 0, 0, 0, 0), (0, 0, 0)), ((12, .iload_n 1, 1, 0, 0, 0, 0), (0, 0, 0)), ((13, .iload_n 3, 1, 0, 0, 0, 0), (0, 0, 0))] (by decide +kernel) rfl ?_
    refine hx_call (E := (14, .invokevirtual 376, 3, 254, 0, 7144, 0)) (M' := yp_m254) [.inr (.inl 86), .inl x1, .inl x3] [.inl x2] rfl (by decide +kernel) rfl ⟨rfl, rfl⟩ rfl rfl (hs254 ?_)
    have f1 := fmk_bd (m 87) x1 x3
    show hxn xs n yp_m253 17 [(0, .inr (.inl 86)), (1, .inl x1), (2, .inl x2), (3, .inl x3)] [.inl ((fmk (m 87) x1 x3 : Nat) : Int), .inl x2] m Q
    refine hx_blk (npc := 19) (L' := [(0, .inr (.inl 86)), (1, .inl x1), (2, .inl x2), (3, .inl x3)]) (st' := [.inl x1, .inr (.inl 86), .inl ((fmk (m 87) x1 x3 : Nat) : Int), .inl x2]) (m' := m) [((17, .aload_n 0, 1, 0, 0, 0, 0), (0, 0, 0)), ((18, .iload_n 1, 1, 0, 0, 0, 0), (0, 0, 0))] (by decide +kernel) rfl ?_
    refine hx_call (E := (19, .invokevirtual 379, 3, 255, 0, 7148, 0)) (M' := yp_m255) [.inr (.inl 86), .inl x1] [.inl ((fmk (m 87) x1 x3 : Nat) : Int), .inl x2] rfl (by decide +kernel) rfl ⟨rfl, rfl⟩ rfl rfl (hs255 ?_)
    show hxn xs n yp_m253 22 [(0, .inr (.inl 86)), (1, .inl x1), (2, .inl x2), (3, .inl x3)] [.inl (fmx (m 87) x1 10), .inl ((fmk (m 87) x1 x3 : Nat) : Int), .inl x2] m Q
    refine hx_cmp .ne 29 (by decide +kernel) (fun c2 => ?_) (fun c2 => ?_)
    · have c2 : ((fmk (m 87) x1 x3 : Nat) : Int) ≠ (fmx (m 87) x1 10) := c2
      have e2 : gx_w (x2 + 0) = x2 + 0 := gx_w_id (by omega) (by omega)
      have e3 : gx_w (x3 + 1) = x3 + 1 := gx_w_id (by omega) (by omega)
      refine hx_blk (npc := 4) (L' := [(0, .inr (.inl 86)), (1, .inl x1), (2, .inl (gx_w (x2 + 0))), (3, .inl (gx_w (x3 + 1)))]) (st' := []) (m' := m) [((29, .iconst 0, 1, 0, 0, 0, 0), (0, 0, 0)), ((30, .iadd, 1, 0, 0, 0, 0), (0, 0, 0)), ((31, .istore_n 2, 1, 0, 0, 0, 0), (0, 0, 0)), ((32, .iinc 3 1, 3, 0, 0, 0, 0), (0, 0, 0)), ((35, .goto (-31), 3, 0, 0, 0, 0), (0, 0, 0))] (by decide +kernel) rfl ?_
      rw [e2, e3]
      exact hx_pick [0, 1, 2, 3] (h2 c1 c2)
    · have c2 : ((fmk (m 87) x1 x3 : Nat) : Int) = (fmx (m 87) x1 10) := by have h : ¬ (((fmk (m 87) x1 x3 : Nat) : Int) ≠ (fmx (m 87) x1 10)) := c2; omega
      have e4 : gx_w (x2 + 1) = x2 + 1 := gx_w_id (by omega) (by omega)
      have e5 : gx_w (x3 + 1) = x3 + 1 := gx_w_id (by omega) (by omega)
      refine hx_blk (npc := 4) (L' := [(0, .inr (.inl 86)), (1, .inl x1), (2, .inl (gx_w (x2 + 1))), (3, .inl (gx_w (x3 + 1)))]) (st' := []) (m' := m) [((25, .iconst 1, 1, 0, 0, 0, 0), (0, 0, 0)), ((26, .goto 4, 3, 0, 0, 0, 0), (0, 0, 0)), ((30, .iadd, 1, 0, 0, 0, 0), (0, 0, 0)), ((31, .istore_n 2, 1, 0, 0, 0, 0), (0, 0, 0)), ((32, .iinc 3 1, 3, 0, 0, 0, 0), (0, 0, 0)), ((35, .goto (-31), 3, 0, 0, 0, 0), (0, 0, 0))] (by decide +kernel) rfl ?_
      rw [e4, e5]
      exact hx_pick [0, 1, 2, 3] (h3 c1 c2)

theorem hl253 {xs : List Int32} {n : Nat} {Q : hQ} {m : gx_M} {a : Int} (h : Q (some (.inl ((fsh (m 87) a 10 : Nat) : Int))) m) : ∀ d k : Nat, k + d = 10 → hxn xs n yp_m253 4 [(0, .inr (.inl 86)), (1, .inl a), (2, .inl ((fsh (m 87) a k : Nat) : Int)), (3, .inl (k : Int))] [] m Q := by
  intro d
  induction d with
  | zero =>
    intro k hk
    have e : k = 10 := by omega
    subst e
    have : fsh (m 87) a 10 ≤ 10 := hcnt_le _ 10
    exact hx_dn (hr253_4 (by omega) (by omega) (fun _ => h) (fun c => absurd c (by omega)) (fun c => absurd c (by omega)))
  | succ d ih =>
    intro k hk
    have : fsh (m 87) a k ≤ k := hcnt_le _ k
    refine hx_dn (hr253_4 (by omega) (by omega) (fun c => absurd c (by omega)) (fun _ c => ?_) (fun _ c => ?_))
    · have e : ((fsh (m 87) a (k + 1) : Nat) : Int) = ((fsh (m 87) a k : Nat) : Int) + 0 := hcnt_f (decide_eq_false c)
      rw [← e]
      exact ih (k + 1) (by omega)
    · have e : ((fsh (m 87) a (k + 1) : Nat) : Int) = ((fsh (m 87) a k : Nat) : Int) + 1 := hcnt_t (decide_eq_true c)
      rw [← e]
      exact ih (k + 1) (by omega)
theorem hs253 {xs : List Int32} {n : Nat} {Q : hQ} {m : gx_M} {a : Int} (h : Q (some (.inl ((fsh (m 87) a 10 : Nat) : Int))) m) : hxn xs n yp_m253 0 [(0, .inr (.inl 86)), (1, .inl a)] [] m Q := hx_dn (hr253_0 (hl253 h 10 0 rfl))
/-- forged from 0 on -/
theorem hr252_0 {xs : List Int32} {n : Nat} {Q : hQ} {m : gx_M} {x1 x2 : Int}
    (h1 : (0 ≤ x2 ∧ x2 ≤ 2) → (x2 ≠ 2) → (x2 ≠ 2) → hxn xs n yp_m252 98 [(0, .inr (.inl 86)), (2, .inl x2), (3, .inr (.inr 0)), (5, .inr (.inr 1)), (7, .inl 0)] [] m Q)
    (h2 : (0 ≤ x2 ∧ x2 ≤ 2) → (x2 ≠ 2) → (x2 = 2) → (1 < ((fsh (m 87) (m 87 (gx_w (0 + x1)).toNat) 10 : Nat) : Int)) → Q (some (.inr (.inr 1))) m)
    (h3 : (0 ≤ x2 ∧ x2 ≤ 2) → (x2 ≠ 2) → (x2 = 2) → (((fsh (m 87) (m 87 (gx_w (0 + x1)).toNat) 10 : Nat) : Int) ≤ 1) → ((fmx (m 87) (m 87 (gx_w (0 + x1)).toNat) 10) ≤ ((fmk (m 87) (m 87 (gx_w (0 + x1)).toNat) (m 87 (gx_w (200 + x1)).toNat) : Nat) : Int)) → Q (some (.inr (.inr 0))) m)
    (h4 : (0 ≤ x2 ∧ x2 ≤ 2) → (x2 ≠ 2) → (x2 = 2) → (((fsh (m 87) (m 87 (gx_w (0 + x1)).toNat) 10 : Nat) : Int) ≤ 1) → (((fmk (m 87) (m 87 (gx_w (0 + x1)).toNat) (m 87 (gx_w (200 + x1)).toNat) : Nat) : Int) < (fmx (m 87) (m 87 (gx_w (0 + x1)).toNat) 10)) → Q (some (.inr (.inr 1))) m)
    (h5 : (0 ≤ x2 ∧ x2 ≤ 2) → (x2 = 2) → (aYear (m 87) x1) → (x2 = 2) → (1 < ((fsh (m 87) (m 87 (gx_w (0 + x1)).toNat) 10 : Nat) : Int)) → Q (some (.inr (.inr 1))) m)
    (h6 : (0 ≤ x2 ∧ x2 ≤ 2) → (x2 = 2) → (aYear (m 87) x1) → (x2 = 2) → (((fsh (m 87) (m 87 (gx_w (0 + x1)).toNat) 10 : Nat) : Int) ≤ 1) → ((fmx (m 87) (m 87 (gx_w (0 + x1)).toNat) 10) ≤ ((fmk (m 87) (m 87 (gx_w (0 + x1)).toNat) (m 87 (gx_w (200 + x1)).toNat) : Nat) : Int)) → Q (some (.inr (.inr 0))) m)
    (h7 : (0 ≤ x2 ∧ x2 ≤ 2) → (x2 = 2) → (aYear (m 87) x1) → (x2 = 2) → (((fsh (m 87) (m 87 (gx_w (0 + x1)).toNat) 10 : Nat) : Int) ≤ 1) → (((fmk (m 87) (m 87 (gx_w (0 + x1)).toNat) (m 87 (gx_w (200 + x1)).toNat) : Nat) : Int) < (fmx (m 87) (m 87 (gx_w (0 + x1)).toNat) 10)) → Q (some (.inr (.inr 1))) m)
    (h8 : (0 ≤ x2 ∧ x2 ≤ 2) → (x2 = 2) → (¬ (aYear (m 87) x1)) → Q (some (.inr (.inr (-1)))) m)
    (h9 : (¬ (0 ≤ x2 ∧ x2 ≤ 2)) → Q (some (.inr (.inr (-1)))) m) : hxn xs (n + 1) yp_m252 0 [(0, .inr (.inl 86)), (1, .inl x1), (2, .inl x2)] [] m Q := by
  refine hx_blks (npc := 3) (L' := [(0, .inr (.inl 86)), (1, .inl x1), (2, .inl x2)]) (st' := [.inl 2, .inl 0, .inl x2]) (m' := m) ((0, .iload_n 2, 1, 0, 0, 0, 0), (0, 0, 0)) [((1, .iconst 0, 1, 0, 0, 0, 0), (0, 0, 0)), ((2, .iconst 2, 1, 0, 0, 0, 0), (0, 0, 0))] (by decide +kernel) rfl ?_
  refine hx_call (E := (3, .invokestatic 108, 3, 162, 0, 6023, 0)) (M' := yp_m162) [.inl x2, .inl 0, .inl 2] [] rfl (by decide +kernel) rfl ⟨rfl, rfl⟩ rfl rfl (hs162 (fun c1 => ?_) (fun c1 => ?_))
  · have c1 : 0 ≤ x2 ∧ x2 ≤ 2 := c1
    show hxn xs n yp_m252 6 [(0, .inr (.inl 86)), (1, .inl x1), (2, .inl x2)] [.inl 1] m Q
    refine hx_if .eq 22 (by decide +kernel) (fun c2 => ?_) (fun c2 => ?_)
    · have c2 : (1 : Int) = 0 := c2
      exfalso; omega
    · have c2 : (1 : Int) ≠ 0 := c2
      refine hx_blk (npc := 11) (L' := [(0, .inr (.inl 86)), (1, .inl x1), (2, .inl x2)]) (st' := [.inl 2, .inl x2]) (m' := m) [((9, .iload_n 2, 1, 0, 0, 0, 0), (0, 0, 0)), ((10, .iconst 2, 1, 0, 0, 0, 0), (0, 0, 0))] (by decide +kernel) rfl ?_
      refine hx_cmp .ne 26 (by decide +kernel) (fun c2 => ?_) (fun c2 => ?_)
      · have c2 : x2 ≠ 2 := c2
        refine hx_blk (npc := 28) (L' := [(0, .inr (.inl 86)), (1, .inl x1), (2, .inl x2)]) (st' := [.inl 2, .inl x2]) (m' := m) [((26, .iload_n 2, 1, 0, 0, 0, 0), (0, 0, 0)), ((27, .iconst 2, 1, 0, 0, 0, 0), (0, 0, 0))] (by decide +kernel) rfl ?_
        refine hx_cmp .ne 90 (by decide +kernel) (fun c3 => ?_) (fun c3 => ?_)
        · have c3 : x2 ≠ 2 := c3
          refine hx_blk (npc := 98) (L' := [(0, .inr (.inl 86)), (1, .inl x1), (2, .inl x2), (3, .inr (.inr 0)), (5, .inr (.inr 1)), (7, .inl 0)]) (st' := []) (m' := m) [((90, .lconst 0, 1, 0, 0, 0, 0), (0, 0, 0)), ((91, .lstore_n 3, 1, 0, 0, 0, 0), (0, 0, 0)), ((92, .lconst 1, 1, 0, 0, 0, 0), (0, 0, 0)), ((93, .lstore 5, 2, 0, 0, 0, 0), (0, 0, 0)), ((95, .iconst 0, 1, 0, 0, 0, 0), (0, 0, 0)), ((96, .istore 7, 2, 0, 0, 0, 0), (0, 0, 0))] (by decide +kernel) rfl ?_
          exact hx_pick [0, 2, 3, 5, 7] (h1 c1 c2 c3)
        · have c3 : x2 = 2 := by have h : ¬ (x2 ≠ 2) := c3; omega
          refine hx_blk (npc := 40) (L' := [(0, .inr (.inl 86)), (1, .inl x1), (2, .inl x2)]) (st' := [.inl (m 87 (gx_w (0 + x1)).toNat), .inr (.inl 86)]) (m' := m) [((31, .aload_n 0, 1, 0, 0, 0, 0), (0, 0, 0)), ((32, .aload_n 0, 1, 0, 0, 0, 0), (0, 0, 0)), ((33, .getfield 7, 3, 10, 0, 5113, 0), (1, 86, 87)), ((36, .iconst 0, 1, 0, 0, 0, 0), (0, 0, 0)), ((37, .iload_n 1, 1, 0, 0, 0, 0), (0, 0, 0)), ((38, .iadd, 1, 0, 0, 0, 0), (0, 0, 0)), ((39, .iaload, 1, 0, 0, 0, 0), (0, 87, 0))] (by decide +kernel) rfl ?_
          refine hx_call (E := (40, .invokevirtual 384, 3, 253, 0, 7140, 0)) (M' := yp_m253) [.inr (.inl 86), .inl (m 87 (gx_w (0 + x1)).toNat)] [] rfl (by decide +kernel) rfl ⟨rfl, rfl⟩ rfl rfl (hs253 ?_)
          show hxn xs n yp_m252 43 [(0, .inr (.inl 86)), (1, .inl x1), (2, .inl x2)] [.inl ((fsh (m 87) (m 87 (gx_w (0 + x1)).toNat) 10 : Nat) : Int)] m Q
          refine hx_blk (npc := 44) (L' := [(0, .inr (.inl 86)), (1, .inl x1), (2, .inl x2)]) (st' := [.inl 1, .inl ((fsh (m 87) (m 87 (gx_w (0 + x1)).toNat) 10 : Nat) : Int)]) (m' := m) [((43, .iconst 1, 1, 0, 0, 0, 0), (0, 0, 0))] (by decide +kernel) rfl ?_
          refine hx_cmp .gt 84 (by decide +kernel) (fun c4 => ?_) (fun c4 => ?_)
          · have c4 : 1 < ((fsh (m 87) (m 87 (gx_w (0 + x1)).toNat) 10 : Nat) : Int) := c4
            refine hx_blk (npc := 89) (L' := [(0, .inr (.inl 86)), (1, .inl x1), (2, .inl x2)]) (st' := [.inr (.inr 1)]) (m' := m) [((84, .lconst 1, 1, 0, 0, 0, 0), (0, 0, 0)), ((85, .goto 4, 3, 0, 0, 0, 0), (0, 0, 0))] (by decide +kernel) rfl ?_
            exact hx_retl (by decide +kernel) (h2 c1 c2 c3 c4)
          · have c4 : ((fsh (m 87) (m 87 (gx_w (0 + x1)).toNat) 10 : Nat) : Int) ≤ 1 := by have h : ¬ (1 < ((fsh (m 87) (m 87 (gx_w (0 + x1)).toNat) 10 : Nat) : Int)) := c4; omega
            refine hx_blk (npc := 66) (L' := [(0, .inr (.inl 86)), (1, .inl x1), (2, .inl x2)]) (st' := [.inl (m 87 (gx_w (200 + x1)).toNat), .inl (m 87 (gx_w (0 + x1)).toNat), .inr (.inl 86)]) (m' := m) [((47, .aload_n 0, 1, 0, 0, 0, 0), (0, 0, 0)), ((48, .aload_n 0, 1, 0, 0, 0, 0), (0, 0, 0)), ((49, .getfield 7, 3, 10, 0, 5113, 0), (1, 86, 87)), ((52, .iconst 0, 1, 0, 0, 0, 0), (0, 0, 0)), ((53, .iload_n 1, 1, 0, 0, 0, 0), (0, 0, 0)), ((54, .iadd, 1, 0, 0, 0, 0), (0, 0, 0)), ((55, .iaload, 1, 0, 0, 0, 0), (0, 87, 0)), ((56, .aload_n 0, 1, 0, 0, 0, 0), (0, 0, 0)), ((57, .getfield 7, 3, 10, 0, 5113, 0), (1, 86, 87)), ((60, .sipush 200, 3, 0, 0, 0, 0), (0, 0, 0)), ((63, .iload_n 1, 1, 0, 0, 0, 0), (0, 0, 0)), ((64, .iadd, 1, 0, 0, 0, 0), (0, 0, 0)), ((65, .iaload, 1, 0, 0, 0, 0), (0, 87, 0))] (by decide +kernel) rfl ?_
            refine hx_call (E := (66, .invokevirtual 376, 3, 254, 0, 7144, 0)) (M' := yp_m254) [.inr (.inl 86), .inl (m 87 (gx_w (0 + x1)).toNat), .inl (m 87 (gx_w (200 + x1)).toNat)] [] rfl (by decide +kernel) rfl ⟨rfl, rfl⟩ rfl rfl (hs254 ?_)
            have f1 := fmk_bd (m 87) (m 87 (gx_w (0 + x1)).toNat) (m 87 (gx_w (200 + x1)).toNat)
            show hxn xs n yp_m252 69 [(0, .inr (.inl 86)), (1, .inl x1), (2, .inl x2)] [.inl ((fmk (m 87) (m 87 (gx_w (0 + x1)).toNat) (m 87 (gx_w (200 + x1)).toNat) : Nat) : Int)] m Q
            refine hx_blk (npc := 78) (L' := [(0, .inr (.inl 86)), (1, .inl x1), (2, .inl x2)]) (st' := [.inl (m 87 (gx_w (0 + x1)).toNat), .inr (.inl 86), .inl ((fmk (m 87) (m 87 (gx_w (0 + x1)).toNat) (m 87 (gx_w (200 + x1)).toNat) : Nat) : Int)]) (m' := m) [((69, .aload_n 0, 1, 0, 0, 0, 0), (0, 0, 0)), ((70, .aload_n 0, 1, 0, 0, 0, 0), (0, 0, 0)), ((71, .getfield 7, 3, 10, 0, 5113, 0), (1, 86, 87)), ((74, .iconst 0, 1, 0, 0, 0, 0), (0, 0, 0)), ((75, .iload_n 1, 1, 0, 0, 0, 0), (0, 0, 0)), ((76, .iadd, 1, 0, 0, 0, 0), (0, 0, 0)), ((77, .iaload, 1, 0, 0, 0, 0), (0, 87, 0))] (by decide +kernel) rfl ?_
            refine hx_call (E := (78, .invokevirtual 379, 3, 255, 0, 7148, 0)) (M' := yp_m255) [.inr (.inl 86), .inl (m 87 (gx_w (0 + x1)).toNat)] [.inl ((fmk (m 87) (m 87 (gx_w (0 + x1)).toNat) (m 87 (gx_w (200 + x1)).toNat) : Nat) : Int)] rfl (by decide +kernel) rfl ⟨rfl, rfl⟩ rfl rfl (hs255 ?_)
            show hxn xs n yp_m252 81 [(0, .inr (.inl 86)), (1, .inl x1), (2, .inl x2)] [.inl (fmx (m 87) (m 87 (gx_w (0 + x1)).toNat) 10), .inl ((fmk (m 87) (m 87 (gx_w (0 + x1)).toNat) (m 87 (gx_w (200 + x1)).toNat) : Nat) : Int)] m Q
            refine hx_cmp .ge 88 (by decide +kernel) (fun c5 => ?_) (fun c5 => ?_)
            · have c5 : (fmx (m 87) (m 87 (gx_w (0 + x1)).toNat) 10) ≤ ((fmk (m 87) (m 87 (gx_w (0 + x1)).toNat) (m 87 (gx_w (200 + x1)).toNat) : Nat) : Int) := c5
              refine hx_blk (npc := 89) (L' := [(0, .inr (.inl 86)), (1, .inl x1), (2, .inl x2)]) (st' := [.inr (.inr 0)]) (m' := m) [((88, .lconst 0, 1, 0, 0, 0, 0), (0, 0, 0))] (by decide +kernel) rfl ?_
              exact hx_retl (by decide +kernel) (h3 c1 c2 c3 c4 c5)
            · have c5 : ((fmk (m 87) (m 87 (gx_w (0 + x1)).toNat) (m 87 (gx_w (200 + x1)).toNat) : Nat) : Int) < (fmx (m 87) (m 87 (gx_w (0 + x1)).toNat) 10) := by have h : ¬ ((fmx (m 87) (m 87 (gx_w (0 + x1)).toNat) 10) ≤ ((fmk (m 87) (m 87 (gx_w (0 + x1)).toNat) (m 87 (gx_w (200 + x1)).toNat) : Nat) : Int)) := c5; omega
              refine hx_blk (npc := 89) (L' := [(0, .inr (.inl 86)), (1, .inl x1), (2, .inl x2)]) (st' := [.inr (.inr 1)]) (m' := m) [((84, .lconst 1, 1, 0, 0, 0, 0), (0, 0, 0)), ((85, .goto 4, 3, 0, 0, 0, 0), (0, 0, 0))] (by decide +kernel) rfl ?_
              exact hx_retl (by decide +kernel) (h4 c1 c2 c3 c4 c5)
      · have c2 : x2 = 2 := by have h : ¬ (x2 ≠ 2) := c2; omega
        refine hx_blk (npc := 16) (L' := [(0, .inr (.inl 86)), (1, .inl x1), (2, .inl x2)]) (st' := [.inl x1, .inr (.inl 86)]) (m' := m) [((14, .aload_n 0, 1, 0, 0, 0, 0), (0, 0, 0)), ((15, .iload_n 1, 1, 0, 0, 0, 0), (0, 0, 0))] (by decide +kernel) rfl ?_
        refine hx_call (E := (16, .invokevirtual 269, 3, 196, 0, 6156, 0)) (M' := yp_m196) [.inr (.inl 86), .inl x1] [] rfl (by decide +kernel) rfl ⟨rfl, rfl⟩ rfl rfl (hs196 (fun c3 => ?_) (fun c3 => ?_))
        · have c3 : aYear (m 87) x1 := c3
          show hxn xs n yp_m252 19 [(0, .inr (.inl 86)), (1, .inl x1), (2, .inl x2)] [.inl 1] m Q
          refine hx_if .ne 26 (by decide +kernel) (fun c4 => ?_) (fun c4 => ?_)
          · have c4 : (1 : Int) ≠ 0 := c4
            refine hx_blk (npc := 28) (L' := [(0, .inr (.inl 86)), (1, .inl x1), (2, .inl x2)]) (st' := [.inl 2, .inl x2]) (m' := m) [((26, .iload_n 2, 1, 0, 0, 0, 0), (0, 0, 0)), ((27, .iconst 2, 1, 0, 0, 0, 0), (0, 0, 0))] (by decide +kernel) rfl ?_
            refine hx_cmp .ne 90 (by decide +kernel) (fun c4 => ?_) (fun c4 => ?_)
            · have c4 : x2 ≠ 2 := c4
              exfalso; omega
            · have c4 : x2 = 2 := by have h : ¬ (x2 ≠ 2) := c4; omega
              refine hx_blk (npc := 40) (L' := [(0, .inr (.inl 86)), (1, .inl x1), (2, .inl x2)]) (st' := [.inl (m 87 (gx_w (0 + x1)).toNat), .inr (.inl 86)]) (m' := m) [((31, .aload_n 0, 1, 0, 0, 0, 0), (0, 0, 0)), ((32, .aload_n 0, 1, 0, 0, 0, 0), (0, 0, 0)), ((33, .getfield 7, 3, 10, 0, 5113, 0), (1, 86, 87)), ((36, .iconst 0, 1, 0, 0, 0, 0), (0, 0, 0)), ((37, .iload_n 1, 1, 0, 0, 0, 0), (0, 0, 0)), ((38, .iadd, 1, 0, 0, 0, 0), (0, 0, 0)), ((39, .iaload, 1, 0, 0, 0, 0), (0, 87, 0))] (by decide +kernel) rfl ?_
              refine hx_call (E := (40, .invokevirtual 384, 3, 253, 0, 7140, 0)) (M' := yp_m253) [.inr (.inl 86), .inl (m 87 (gx_w (0 + x1)).toNat)] [] rfl (by decide +kernel) rfl ⟨rfl, rfl⟩ rfl rfl (hs253 ?_)
              show hxn xs n yp_m252 43 [(0, .inr (.inl 86)), (1, .inl x1), (2, .inl x2)] [.inl ((fsh (m 87) (m 87 (gx_w (0 + x1)).toNat) 10 : Nat) : Int)] m Q
              refine hx_blk (npc := 44) (L' := [(0, .inr (.inl 86)), (1, .inl x1), (2, .inl x2)]) (st' := [.inl 1, .inl ((fsh (m 87) (m 87 (gx_w (0 + x1)).toNat) 10 : Nat) : Int)]) (m' := m) [((43, .iconst 1, 1, 0, 0, 0, 0), (0, 0, 0))] (by decide +kernel) rfl ?_
              refine hx_cmp .gt 84 (by decide +kernel) (fun c5 => ?_) (fun c5 => ?_)
              · have c5 : 1 < ((fsh (m 87) (m 87 (gx_w (0 + x1)).toNat) 10 : Nat) : Int) := c5
                refine hx_blk (npc := 89) (L' := [(0, .inr (.inl 86)), (1, .inl x1), (2, .inl x2)]) (st' := [.inr (.inr 1)]) (m' := m) [((84, .lconst 1, 1, 0, 0, 0, 0), (0, 0, 0)), ((85, .goto 4, 3, 0, 0, 0, 0), (0, 0, 0))] (by decide +kernel) rfl ?_
                exact hx_retl (by decide +kernel) (h5 c1 c2 c3 c4 c5)
              · have c5 : ((fsh (m 87) (m 87 (gx_w (0 + x1)).toNat) 10 : Nat) : Int) ≤ 1 := by have h : ¬ (1 < ((fsh (m 87) (m 87 (gx_w (0 + x1)).toNat) 10 : Nat) : Int)) := c5; omega
                refine hx_blk (npc := 66) (L' := [(0, .inr (.inl 86)), (1, .inl x1), (2, .inl x2)]) (st' := [.inl (m 87 (gx_w (200 + x1)).toNat), .inl (m 87 (gx_w (0 + x1)).toNat), .inr (.inl 86)]) (m' := m) [((47, .aload_n 0, 1, 0, 0, 0, 0), (0, 0, 0)), ((48, .aload_n 0, 1, 0, 0, 0, 0), (0, 0, 0)), ((49, .getfield 7, 3, 10, 0, 5113, 0), (1, 86, 87)), ((52, .iconst 0, 1, 0, 0, 0, 0), (0, 0, 0)), ((53, .iload_n 1, 1, 0, 0, 0, 0), (0, 0, 0)), ((54, .iadd, 1, 0, 0, 0, 0), (0, 0, 0)), ((55, .iaload, 1, 0, 0, 0, 0), (0, 87, 0)), ((56, .aload_n 0, 1, 0, 0, 0, 0), (0, 0, 0)), ((57, .getfield 7, 3, 10, 0, 5113, 0), (1, 86, 87)), ((60, .sipush 200, 3, 0, 0, 0, 0), (0, 0, 0)), ((63, .iload_n 1, 1, 0, 0, 0, 0), (0, 0, 0)), ((64, .iadd, 1, 0, 0, 0, 0), (0, 0, 0)), ((65, .iaload, 1, 0, 0, 0, 0), (0, 87, 0))] (by decide +kernel) rfl ?_
                refine hx_call (E := (66, .invokevirtual 376, 3, 254, 0, 7144, 0)) (M' := yp_m254) [.inr (.inl 86), .inl (m 87 (gx_w (0 + x1)).toNat), .inl (m 87 (gx_w (200 + x1)).toNat)] [] rfl (by decide +kernel) rfl ⟨rfl, rfl⟩ rfl rfl (hs254 ?_)
                have f2 := fmk_bd (m 87) (m 87 (gx_w (0 + x1)).toNat) (m 87 (gx_w (200 + x1)).toNat)
                show hxn xs n yp_m252 69 [(0, .inr (.inl 86)), (1, .inl x1), (2, .inl x2)] [.inl ((fmk (m 87) (m 87 (gx_w (0 + x1)).toNat) (m 87 (gx_w (200 + x1)).toNat) : Nat) : Int)] m Q
                refine hx_blk (npc := 78) (L' := [(0, .inr (.inl 86)), (1, .inl x1), (2, .inl x2)]) (st' := [.inl (m 87 (gx_w (0 + x1)).toNat), .inr (.inl 86), .inl ((fmk (m 87) (m 87 (gx_w (0 + x1)).toNat) (m 87 (gx_w (200 + x1)).toNat) : Nat) : Int)]) (m' := m) [((69, .aload_n 0, 1, 0, 0, 0, 0), (0, 0, 0)), ((70, .aload_n 0, 1, 0, 0, 0, 0), (0, 0, 0)), ((71, .getfield 7, 3, 10, 0, 5113, 0), (1, 86, 87)), ((74, .iconst 0, 1, 0, 0, 0, 0), (0, 0, 0)), ((75, .iload_n 1, 1, 0, 0, 0, 0), (0, 0, 0)), ((76, .iadd, 1, 0, 0, 0, 0), (0, 0, 0)), ((77, .iaload, 1, 0, 0, 0, 0), (0, 87, 0))] (by decide +kernel) rfl ?_
                refine hx_call (E := (78, .invokevirtual 379, 3, 255, 0, 7148, 0)) (M' := yp_m255) [.inr (.inl 86), .inl (m 87 (gx_w (0 + x1)).toNat)] [.inl ((fmk (m 87) (m 87 (gx_w (0 + x1)).toNat) (m 87 (gx_w (200 + x1)).toNat) : Nat) : Int)] rfl (by decide +kernel) rfl ⟨rfl, rfl⟩ rfl rfl (hs255 ?_)
                show hxn xs n yp_m252 81 [(0, .inr (.inl 86)), (1, .inl x1), (2, .inl x2)] [.inl (fmx (m 87) (m 87 (gx_w (0 + x1)).toNat) 10), .inl ((fmk (m 87) (m 87 (gx_w (0 + x1)).toNat) (m 87 (gx_w (200 + x1)).toNat) : Nat) : Int)] m Q
                refine hx_cmp .ge 88 (by decide +kernel) (fun c6 => ?_) (fun c6 => ?_)
                · have c6 : (fmx (m 87) (m 87 (gx_w (0 + x1)).toNat) 10) ≤ ((fmk (m 87) (m 87 (gx_w (0 + x1)).toNat) (m 87 (gx_w (200 + x1)).toNat) : Nat) : Int) := c6
                  refine hx_blk (npc := 89) (L' := [(0, .inr (.inl 86)), (1, .inl x1), (2, .inl x2)]) (st' := [.inr (.inr 0)]) (m' := m) [((88, .lconst 0, 1, 0, 0, 0, 0), (0, 0, 0))] (by decide +kernel) rfl ?_
                  exact hx_retl (by decide +kernel) (h6 c1 c2 c3 c4 c5 c6)
                · have c6 : ((fmk (m 87) (m 87 (gx_w (0 + x1)).toNat) (m 87 (gx_w (200 + x1)).toNat) : Nat) : Int) < (fmx (m 87) (m 87 (gx_w (0 + x1)).toNat) 10) := by have h : ¬ ((fmx (m 87) (m 87 (gx_w (0 + x1)).toNat) 10) ≤ ((fmk (m 87) (m 87 (gx_w (0 + x1)).toNat) (m 87 (gx_w (200 + x1)).toNat) : Nat) : Int)) := c6; omega
                  refine hx_blk (npc := 89) (L' := [(0, .inr (.inl 86)), (1, .inl x1), (2, .inl x2)]) (st' := [.inr (.inr 1)]) (m' := m) [((84, .lconst 1, 1, 0, 0, 0, 0), (0, 0, 0)), ((85, .goto 4, 3, 0, 0, 0, 0), (0, 0, 0))] (by decide +kernel) rfl ?_
                  exact hx_retl (by decide +kernel) (h7 c1 c2 c3 c4 c5 c6)
          · have c4 : (1 : Int) = 0 := by have h : ¬ ((1 : Int) ≠ 0) := c4; omega
            exfalso; omega
        · have c3 : ¬ (aYear (m 87) x1) := c3
          show hxn xs n yp_m252 19 [(0, .inr (.inl 86)), (1, .inl x1), (2, .inl x2)] [.inl 0] m Q
          refine hx_if .ne 26 (by decide +kernel) (fun c4 => ?_) (fun c4 => ?_)
          · have c4 : (0 : Int) ≠ 0 := c4
            exfalso; omega
          · have c4 : (0 : Int) = 0 := by have h : ¬ ((0 : Int) ≠ 0) := c4; omega
            refine hx_blk (npc := 25) (L' := [(0, .inr (.inl 86)), (1, .inl x1), (2, .inl x2)]) (st' := [.inr (.inr (-1))]) (m' := m) [((22, .ldc2_w 382, 3, 0, 0, 7139, (-1)), (0, 0, 0))] (by decide +kernel) rfl ?_
            exact hx_retl (by decide +kernel) (h8 c1 c2 c3)
  · have c1 : ¬ (0 ≤ x2 ∧ x2 ≤ 2) := c1
    show hxn xs n yp_m252 6 [(0, .inr (.inl 86)), (1, .inl x1), (2, .inl x2)] [.inl 0] m Q
    refine hx_if .eq 22 (by decide +kernel) (fun c2 => ?_) (fun c2 => ?_)
    · have c2 : (0 : Int) = 0 := c2
      refine hx_blk (npc := 25) (L' := [(0, .inr (.inl 86)), (1, .inl x1), (2, .inl x2)]) (st' := [.inr (.inr (-1))]) (m' := m) [((22, .ldc2_w 382, 3, 0, 0, 7139, (-1)), (0, 0, 0))] (by decide +kernel) rfl ?_
      exact hx_retl (by decide +kernel) (h9 c1)
    · have c2 : (0 : Int) ≠ 0 := c2
      exfalso; omega

/-- forged from 98 on -/
theorem hr252_98 {xs : List Int32} {n : Nat} {Q : hQ} {m : gx_M} {x2 x3 x5 x7 : Int} (r_x7 : 0 ≤ x7 ∧ x7 ≤ 100)
    (h1 : (100 ≤ x7) → (x2 ≠ 0) → Q (some (.inr (.inr x5))) m)
    (h2 : (100 ≤ x7) → (x2 = 0) → Q (some (.inr (.inr x3))) m)
    (h3 : (x7 < 100) → (((fsm (m 87) x7 10 : Nat) : Int) ≠ 0) → hxn xs n yp_m252 98 [(0, .inr (.inl 86)), (2, .inl x2), (3, .inr (.inr (hlw ((hlw (x3 + ((fsm (m 87) x7 10 : Nat) : Int))) - (fmx (m 87) x7 10))))), (5, .inr (.inr (hlw (x5 * ((fsh (m 87) x7 10 : Nat) : Int))))), (7, .inl (x7 + 1))] [] m Q)
    (h4 : (x7 < 100) → (((fsm (m 87) x7 10 : Nat) : Int) = 0) → hxn xs n yp_m252 98 [(0, .inr (.inl 86)), (2, .inl x2), (3, .inr (.inr x3)), (5, .inr (.inr x5)), (7, .inl (x7 + 1))] [] m Q) : hxn xs (n + 1) yp_m252 98 [(0, .inr (.inl 86)), (2, .inl x2), (3, .inr (.inr x3)), (5, .inr (.inr x5)), (7, .inl x7)] [] m Q := by
  refine hx_blks (npc := 102) (L' := [(0, .inr (.inl 86)), (2, .inl x2), (3, .inr (.inr x3)), (5, .inr (.inr x5)), (7, .inl x7)]) (st' := [.inl 100, .inl x7]) (m' := m) ((98, .iload 7, 2, 0, 0, 0, 0), (0, 0, 0)) [((100, .bipush 100, 2, 0, 0, 0, 0), (0, 0, 0))] (by decide +kernel) rfl ?_
  refine hx_cmp .ge 153 (by decide +kernel) (fun c1 => ?_) (fun c1 => ?_)
  · have c1 : 100 ≤ x7 := c1
    refine hx_blk (npc := 154) (L' := [(0, .inr (.inl 86)), (2, .inl x2), (3, .inr (.inr x3)), (5, .inr (.inr x5)), (7, .inl x7)]) (st' := [.inl x2]) (m' := m) [((153, .iload_n 2, 1, 0, 0, 0, 0), (0, 0, 0))] (by decide +kernel) rfl ?_
    refine hx_if .ne 161 (by decide +kernel) (fun c2 => ?_) (fun c2 => ?_)
    · have c2 : x2 ≠ 0 := c2
      refine hx_blk (npc := 163) (L' := [(0, .inr (.inl 86)), (2, .inl x2), (3, .inr (.inr x3)), (5, .inr (.inr x5)), (7, .inl x7)]) (st' := [.inr (.inr x5)]) (m' := m) [((161, .lload 5, 2, 0, 0, 0, 0), (0, 0, 0))] (by decide +kernel) rfl ?_
      exact hx_retl (by decide +kernel) (h1 c1 c2)
    · have c2 : x2 = 0 := by have h : ¬ (x2 ≠ 0) := c2; omega
      refine hx_blk (npc := 163) (L' := [(0, .inr (.inl 86)), (2, .inl x2), (3, .inr (.inr x3)), (5, .inr (.inr x5)), (7, .inl x7)]) (st' := [.inr (.inr x3)]) (m' := m) [((157, .lload_n 3, 1, 0, 0, 0, 0), (0, 0, 0)), ((158, .goto 5, 3, 0, 0, 0, 0), (0, 0, 0))] (by decide +kernel) rfl ?_
      exact hx_retl (by decide +kernel) (h2 c1 c2)
  · have c1 : x7 < 100 := by have h : ¬ (100 ≤ x7) := c1; omega
    refine hx_blk (npc := 108) (L' := [(0, .inr (.inl 86)), (2, .inl x2), (3, .inr (.inr x3)), (5, .inr (.inr x5)), (7, .inl x7)]) (st' := [.inl x7, .inr (.inl 86)]) (m' := m) [((105, .aload_n 0, 1, 0, 0, 0, 0), (0, 0, 0)), ((106, .iload 7, 2, 0, 0, 0, 0), (0, 0, 0))] (by decide +kernel) rfl ?_
    refine hx_call (E := (108, .invokevirtual 387, 3, 256, 0, 7152, 0)) (M' := yp_m256) [.inr (.inl 86), .inl x7] [] rfl (by decide +kernel) rfl ⟨rfl, rfl⟩ rfl rfl (hs256 ?_)
    show hxn xs n yp_m252 111 [(0, .inr (.inl 86)), (2, .inl x2), (3, .inr (.inr x3)), (5, .inr (.inr x5)), (7, .inl x7)] [.inl ((fsm (m 87) x7 10 : Nat) : Int)] m Q
    refine hx_if .ne 117 (by decide +kernel) (fun c2 => ?_) (fun c2 => ?_)
    · have c2 : ((fsm (m 87) x7 10 : Nat) : Int) ≠ 0 := c2
      refine hx_blk (npc := 121) (L' := [(0, .inr (.inl 86)), (2, .inl x2), (3, .inr (.inr x3)), (5, .inr (.inr x5)), (7, .inl x7)]) (st' := [.inl x7, .inr (.inl 86), .inr (.inr x3)]) (m' := m) [((117, .lload_n 3, 1, 0, 0, 0, 0), (0, 0, 0)), ((118, .aload_n 0, 1, 0, 0, 0, 0), (0, 0, 0)), ((119, .iload 7, 2, 0, 0, 0, 0), (0, 0, 0))] (by decide +kernel) rfl ?_
      refine hx_call (E := (121, .invokevirtual 387, 3, 256, 0, 7152, 0)) (M' := yp_m256) [.inr (.inl 86), .inl x7] [.inr (.inr x3)] rfl (by decide +kernel) rfl ⟨rfl, rfl⟩ rfl rfl (hs256 ?_)
      show hxn xs n yp_m252 124 [(0, .inr (.inl 86)), (2, .inl x2), (3, .inr (.inr x3)), (5, .inr (.inr x5)), (7, .inl x7)] [.inl ((fsm (m 87) x7 10 : Nat) : Int), .inr (.inr x3)] m Q
      refine hx_blk (npc := 129) (L' := [(0, .inr (.inl 86)), (2, .inl x2), (3, .inr (.inr x3)), (5, .inr (.inr x5)), (7, .inl x7)]) (st' := [.inl x7, .inr (.inl 86), .inr (.inr (hlw (x3 + ((fsm (m 87) x7 10 : Nat) : Int))))]) (m' := m) [((124, .i2l, 1, 0, 0, 0, 0), (0, 0, 0)), ((125, .ladd, 1, 0, 0, 0, 0), (0, 0, 0)), ((126, .aload_n 0, 1, 0, 0, 0, 0), (0, 0, 0)), ((127, .iload 7, 2, 0, 0, 0, 0), (0, 0, 0))] (by decide +kernel) rfl ?_
      refine hx_call (E := (129, .invokevirtual 379, 3, 255, 0, 7148, 0)) (M' := yp_m255) [.inr (.inl 86), .inl x7] [.inr (.inr (hlw (x3 + ((fsm (m 87) x7 10 : Nat) : Int))))] rfl (by decide +kernel) rfl ⟨rfl, rfl⟩ rfl rfl (hs255 ?_)
      show hxn xs n yp_m252 132 [(0, .inr (.inl 86)), (2, .inl x2), (3, .inr (.inr x3)), (5, .inr (.inr x5)), (7, .inl x7)] [.inl (fmx (m 87) x7 10), .inr (.inr (hlw (x3 + ((fsm (m 87) x7 10 : Nat) : Int))))] m Q
      refine hx_blk (npc := 140) (L' := [(0, .inr (.inl 86)), (2, .inl x2), (3, .inr (.inr (hlw ((hlw (x3 + ((fsm (m 87) x7 10 : Nat) : Int))) - (fmx (m 87) x7 10))))), (5, .inr (.inr x5)), (7, .inl x7)]) (st' := [.inl x7, .inr (.inl 86), .inr (.inr x5)]) (m' := m) [((132, .i2l, 1, 0, 0, 0, 0), (0, 0, 0)), ((133, .lsub, 1, 0, 0, 0, 0), (0, 0, 0)), ((134, .lstore_n 3, 1, 0, 0, 0, 0), (0, 0, 0)), ((135, .lload 5, 2, 0, 0, 0, 0), (0, 0, 0)), ((137, .aload_n 0, 1, 0, 0, 0, 0), (0, 0, 0)), ((138, .iload 7, 2, 0, 0, 0, 0), (0, 0, 0))] (by decide +kernel) rfl ?_
      refine hx_call (E := (140, .invokevirtual 384, 3, 253, 0, 7140, 0)) (M' := yp_m253) [.inr (.inl 86), .inl x7] [.inr (.inr x5)] rfl (by decide +kernel) rfl ⟨rfl, rfl⟩ rfl rfl (hs253 ?_)
      show hxn xs n yp_m252 143 [(0, .inr (.inl 86)), (2, .inl x2), (3, .inr (.inr (hlw ((hlw (x3 + ((fsm (m 87) x7 10 : Nat) : Int))) - (fmx (m 87) x7 10))))), (5, .inr (.inr x5)), (7, .inl x7)] [.inl ((fsh (m 87) x7 10 : Nat) : Int), .inr (.inr x5)] m Q
      have e1 : gx_w (x7 + 1) = x7 + 1 := gx_w_id (by omega) (by omega)
      refine hx_blk (npc := 98) (L' := [(0, .inr (.inl 86)), (2, .inl x2), (3, .inr (.inr (hlw ((hlw (x3 + ((fsm (m 87) x7 10 : Nat) : Int))) - (fmx (m 87) x7 10))))), (5, .inr (.inr (hlw (x5 * ((fsh (m 87) x7 10 : Nat) : Int))))), (7, .inl (gx_w (x7 + 1)))]) (st' := []) (m' := m) [((143, .i2l, 1, 0, 0, 0, 0), (0, 0, 0)), ((144, .lmul, 1, 0, 0, 0, 0), (0, 0, 0)), ((145, .lstore 5, 2, 0, 0, 0, 0), (0, 0, 0)), ((147, .iinc 7 1, 3, 0, 0, 0, 0), (0, 0, 0)), ((150, .goto (-52), 3, 0, 0, 0, 0), (0, 0, 0))] (by decide +kernel) rfl ?_
      rw [e1]
      exact hx_pick [0, 2, 3, 5, 7] (h3 c1 c2)
    · have c2 : ((fsm (m 87) x7 10 : Nat) : Int) = 0 := by have h : ¬ (((fsm (m 87) x7 10 : Nat) : Int) ≠ 0) := c2; omega
      have e2 : gx_w (x7 + 1) = x7 + 1 := gx_w_id (by omega) (by omega)
      refine hx_blk (npc := 98) (L' := [(0, .inr (.inl 86)), (2, .inl x2), (3, .inr (.inr x3)), (5, .inr (.inr x5)), (7, .inl (gx_w (x7 + 1)))]) (st' := []) (m' := m) [((114, .goto 33, 3, 0, 0, 0, 0), (0, 0, 0)), ((147, .iinc 7 1, 3, 0, 0, 0, 0), (0, 0, 0)), ((150, .goto (-52), 3, 0, 0, 0, 0), (0, 0, 0))] (by decide +kernel) rfl ?_
      rw [e2]
      exact hx_pick [0, 2, 3, 5, 7] (h4 c1 c2)

