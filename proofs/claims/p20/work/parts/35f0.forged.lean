/-! forged: roads -/
def aYear (s : Nat → Int) (y : Int) : Prop := 0 ≤ y ∧ y < 40 ∧ s (440 + y).toNat = 1
def fY (s : Nat → Int) (d k : Int) (y : Nat) : Bool := decide (s (440 + y) = 1) && (decide (s y = d) && decide (s (200 + y) = k))
def fD (s : Nat → Int) (d : Int) (y : Nat) : Bool := decide (s (440 + y) = 1) && decide (s y = d)
def fmk (s : Nat → Int) (d k : Int) : Nat := hcnt (fY s d k) 40
def fmx (s : Nat → Int) (d : Int) : Nat → Int
  | 0 => 0
  | k + 1 => if fmx s d k < ((fmk s d (k : Int) : Nat) : Int) then ((fmk s d (k : Int) : Nat) : Int) else fmx s d k
def fsK (s : Nat → Int) (d : Int) (K : Nat) : Nat → Nat
  | 0 => 0
  | k + 1 => fsK s d K k + hcnt (fY s d (k : Int)) K
def fsm (s : Nat → Int) (d : Int) (n : Nat) : Nat := fsK s d 40 n
def fsh (s : Nat → Int) (d : Int) (n : Nat) : Nat := hcnt (fun k => decide (((fmk s d (k : Int) : Nat) : Int) = fmx s d 10)) n
theorem fmk_bd (s : Nat → Int) (d k : Int) : 0 ≤ ((fmk s d k : Nat) : Int) ∧ ((fmk s d k : Nat) : Int) ≤ 40 := by
  have := hcnt_le (fY s d k) 40
  unfold fmk
  omega
/-- isYear from 0 on -/
theorem hs196 {xs : List Int32} {n : Nat} {Q : hQ} {m : gx_M} {x1 : Int}
    (h1 : aYear (m 87) x1 → Q (some (.inl 1)) m) (h0 : ¬ (aYear (m 87) x1) → Q (some (.inl 0)) m) : hxn xs n yp_m196 0 [(0, .inr (.inl 86)), (1, .inl x1)] [] m Q := by
  refine hx_dn ?_
  refine hx_blks (npc := 1) (L' := [(0, .inr (.inl 86)), (1, .inl x1)]) (st' := [.inl x1]) (m' := m) ((0, .iload_n 1, 1, 0, 0, 0, 0), (0, 0, 0)) [] (by decide +kernel) rfl ?_
  refine hx_if .lt 28 (by decide +kernel) (fun c1 => ?_) (fun c1 => ?_)
  · have c1 : x1 < 0 := c1
    refine hx_blk (npc := 29) (L' := [(0, .inr (.inl 86)), (1, .inl x1)]) (st' := [.inl 0]) (m' := m) [((28, .iconst 0, 1, 0, 0, 0, 0), (0, 0, 0))] (by decide +kernel) rfl ?_
    exact hx_reti (by decide +kernel) (h0 (by unfold aYear; omega))
  · have c1 : 0 ≤ x1 := by have h : ¬ (x1 < 0) := c1; omega
    refine hx_blk (npc := 7) (L' := [(0, .inr (.inl 86)), (1, .inl x1)]) (st' := [.inl 40, .inl x1]) (m' := m) [((4, .iload_n 1, 1, 0, 0, 0, 0), (0, 0, 0)), ((5, .bipush 40, 2, 0, 0, 0, 0), (0, 0, 0))] (by decide +kernel) rfl ?_
    refine hx_cmp .ge 28 (by decide +kernel) (fun c2 => ?_) (fun c2 => ?_)
    · have c2 : 40 ≤ x1 := c2
      refine hx_blk (npc := 29) (L' := [(0, .inr (.inl 86)), (1, .inl x1)]) (st' := [.inl 0]) (m' := m) [((28, .iconst 0, 1, 0, 0, 0, 0), (0, 0, 0))] (by decide +kernel) rfl ?_
      exact hx_reti (by decide +kernel) (h0 (by unfold aYear; omega))
    · have c2 : x1 < 40 := by have h : ¬ (40 ≤ x1) := c2; omega
      have e1 : gx_w (440 + x1) = 440 + x1 := gx_w_id (by omega) (by omega)
      refine hx_blk (npc := 21) (L' := [(0, .inr (.inl 86)), (1, .inl x1)]) (st' := [.inl 1, .inl (m 87 (gx_w (440 + x1)).toNat)]) (m' := m) [((10, .aload_n 0, 1, 0, 0, 0, 0), (0, 0, 0)), ((11, .getfield 7, 3, 10, 0, 5113, 0), (1, 86, 87)), ((14, .sipush 440, 3, 0, 0, 0, 0), (0, 0, 0)), ((17, .iload_n 1, 1, 0, 0, 0, 0), (0, 0, 0)), ((18, .iadd, 1, 0, 0, 0, 0), (0, 0, 0)), ((19, .iaload, 1, 0, 0, 0, 0), (0, 87, 0)), ((20, .iconst 1, 1, 0, 0, 0, 0), (0, 0, 0))] (by decide +kernel) rfl ?_
      rw [e1]
      refine hx_cmp .ne 28 (by decide +kernel) (fun c3 => ?_) (fun c3 => ?_)
      · have c3 : (m 87 (440 + x1).toNat) ≠ 1 := c3
        refine hx_blk (npc := 29) (L' := [(0, .inr (.inl 86)), (1, .inl x1)]) (st' := [.inl 0]) (m' := m) [((28, .iconst 0, 1, 0, 0, 0, 0), (0, 0, 0))] (by decide +kernel) rfl ?_
        exact hx_reti (by decide +kernel) (h0 (by unfold aYear; omega))
      · have c3 : (m 87 (440 + x1).toNat) = 1 := by have h : ¬ ((m 87 (440 + x1).toNat) ≠ 1) := c3; omega
        refine hx_blk (npc := 29) (L' := [(0, .inr (.inl 86)), (1, .inl x1)]) (st' := [.inl 1]) (m' := m) [((24, .iconst 1, 1, 0, 0, 0, 0), (0, 0, 0)), ((25, .goto 4, 3, 0, 0, 0, 0), (0, 0, 0))] (by decide +kernel) rfl ?_
        exact hx_reti (by decide +kernel) (h1 (by unfold aYear; omega))

/-- marked from 0 on -/
theorem hr254_0 {xs : List Int32} {n : Nat} {Q : hQ} {m : gx_M} {x1 x2 : Int}
    (h1 : hxn xs n yp_m254 5 [(0, .inr (.inl 86)), (1, .inl x1), (2, .inl x2), (3, .inl 0), (4, .inl 0)] [] m Q) : hxn xs (n + 1) yp_m254 0 [(0, .inr (.inl 86)), (1, .inl x1), (2, .inl x2)] [] m Q := by
  refine hx_blks (npc := 5) (L' := [(0, .inr (.inl 86)), (1, .inl x1), (2, .inl x2), (3, .inl 0), (4, .inl 0)]) (st' := []) (m' := m) ((0, .iconst 0, 1, 0, 0, 0, 0), (0, 0, 0)) [((1, .istore_n 3, 1, 0, 0, 0, 0), (0, 0, 0)), ((2, .iconst 0, 1, 0, 0, 0, 0), (0, 0, 0)), ((3, .istore 4, 2, 0, 0, 0, 0), (0, 0, 0))] (by decide +kernel) rfl ?_
  exact hx_pick [0, 1, 2, 3, 4] h1

/-- marked from 5 on -/
theorem hr254_5 {xs : List Int32} {n : Nat} {Q : hQ} {m : gx_M} {x1 x2 x3 x4 : Int} (r_x3 : 0 ≤ x3 ∧ x3 ≤ 40) (r_x4 : 0 ≤ x4 ∧ x4 ≤ 40)
    (h1 : (40 ≤ x4) → Q (some (.inl x3)) m)
    (h2 : (x4 < 40) → (aYear (m 87) x4) → ((m 87 (0 + x4).toNat) ≠ x1) → hxn xs n yp_m254 5 [(0, .inr (.inl 86)), (1, .inl x1), (2, .inl x2), (3, .inl (x3 + 0)), (4, .inl (x4 + 1))] [] m Q)
    (h3 : (x4 < 40) → (aYear (m 87) x4) → ((m 87 (0 + x4).toNat) = x1) → ((m 87 (200 + x4).toNat) ≠ x2) → hxn xs n yp_m254 5 [(0, .inr (.inl 86)), (1, .inl x1), (2, .inl x2), (3, .inl (x3 + 0)), (4, .inl (x4 + 1))] [] m Q)
    (h4 : (x4 < 40) → (aYear (m 87) x4) → ((m 87 (0 + x4).toNat) = x1) → ((m 87 (200 + x4).toNat) = x2) → hxn xs n yp_m254 5 [(0, .inr (.inl 86)), (1, .inl x1), (2, .inl x2), (3, .inl (x3 + 1)), (4, .inl (x4 + 1))] [] m Q)
    (h5 : (x4 < 40) → (¬ (aYear (m 87) x4)) → hxn xs n yp_m254 5 [(0, .inr (.inl 86)), (1, .inl x1), (2, .inl x2), (3, .inl (x3 + 0)), (4, .inl (x4 + 1))] [] m Q) : hxn xs (n + 1) yp_m254 5 [(0, .inr (.inl 86)), (1, .inl x1), (2, .inl x2), (3, .inl x3), (4, .inl x4)] [] m Q := by
  refine hx_blks (npc := 9) (L' := [(0, .inr (.inl 86)), (1, .inl x1), (2, .inl x2), (3, .inl x3), (4, .inl x4)]) (st' := [.inl 40, .inl x4]) (m' := m) ((5, .iload 4, 2, 0, 0, 0, 0), (0, 0, 0)) [((7, .bipush 40, 2, 0, 0, 0, 0), (0, 0, 0))] (by decide +kernel) rfl ?_
  refine hx_cmp .ge 63 (by decide +kernel) (fun c1 => ?_) (fun c1 => ?_)
  · have c1 : 40 ≤ x4 := c1
    refine hx_blk (npc := 64) (L' := [(0, .inr (.inl 86)), (1, .inl x1), (2, .inl x2), (3, .inl x3), (4, .inl x4)]) (st' := [.inl x3]) (m' := m) [((63, .iload_n 3, 1, 0, 0, 0, 0), (0, 0, 0))] (by decide +kernel) rfl ?_
    exact hx_reti (by decide +kernel) (h1 c1)
  · have c1 : x4 < 40 := by have h : ¬ (40 ≤ x4) := c1; omega
    refine hx_blk (npc := 16) (L' := [(0, .inr (.inl 86)), (1, .inl x1), (2, .inl x2), (3, .inl x3), (4, .inl x4)]) (st' := [.inl x4, .inr (.inl 86), .inl x3]) (m' := m) [((12, .iload_n 3, 1, 0, 0, 0, 0), (0, 0, 0)), ((13, .aload_n 0, 1, 0, 0, 0, 0), (0, 0, 0)), ((14, .iload 4, 2, 0, 0, 0, 0), (0, 0, 0))] (by decide +kernel) rfl ?_
    refine hx_call (E := (16, .invokevirtual 269, 3, 196, 0, 6156, 0)) (M' := yp_m196) [.inr (.inl 86), .inl x4] [.inl x3] rfl (by decide +kernel) rfl ⟨rfl, rfl⟩ rfl rfl (hs196 (fun c2 => ?_) (fun c2 => ?_))
    · have c2 : aYear (m 87) x4 := c2
      show hxn xs n yp_m254 19 [(0, .inr (.inl 86)), (1, .inl x1), (2, .inl x2), (3, .inl x3), (4, .inl x4)] [.inl 1, .inl x3] m Q
      refine hx_if .eq 54 (by decide +kernel) (fun c3 => ?_) (fun c3 => ?_)
      · have c3 : (1 : Int) = 0 := c3
        exfalso; omega
      · have c3 : (1 : Int) ≠ 0 := c3
        have e1 : gx_w (0 + x4) = 0 + x4 := gx_w_id (by omega) (by omega)
        refine hx_blk (npc := 32) (L' := [(0, .inr (.inl 86)), (1, .inl x1), (2, .inl x2), (3, .inl x3), (4, .inl x4)]) (st' := [.inl x1, .inl (m 87 (gx_w (0 + x4)).toNat), .inl x3]) (m' := m) [((22, .aload_n 0, 1, 0, 0, 0, 0), (0, 0, 0)), ((23, .getfield 7, 3, 10, 0, 5113, 0), (1, 86, 87)), ((26, .iconst 0, 1, 0, 0, 0, 0), (0, 0, 0)), ((27, .iload 4, 2, 0, 0, 0, 0), (0, 0, 0)), ((29, .iadd, 1, 0, 0, 0, 0), (0, 0, 0)), ((30, .iaload, 1, 0, 0, 0, 0), (0, 87, 0)), ((31, .iload_n 1, 1, 0, 0, 0, 0), (0, 0, 0))] (by decide +kernel) rfl ?_
        rw [e1]
        refine hx_cmp .ne 54 (by decide +kernel) (fun c3 => ?_) (fun c3 => ?_)
        · have c3 : (m 87 (0 + x4).toNat) ≠ x1 := c3
          have e2 : gx_w (x3 + 0) = x3 + 0 := gx_w_id (by omega) (by omega)
          have e3 : gx_w (x4 + 1) = x4 + 1 := gx_w_id (by omega) (by omega)
          refine hx_blk (npc := 5) (L' := [(0, .inr (.inl 86)), (1, .inl x1), (2, .inl x2), (3, .inl (gx_w (x3 + 0))), (4, .inl (gx_w (x4 + 1)))]) (st' := []) (m' := m) [((54, .iconst 0, 1, 0, 0, 0, 0), (0, 0, 0)), ((55, .iadd, 1, 0, 0, 0, 0), (0, 0, 0)), ((56, .istore_n 3, 1, 0, 0, 0, 0), (0, 0, 0)), ((57, .iinc 4 1, 3, 0, 0, 0, 0), (0, 0, 0)), ((60, .goto (-55), 3, 0, 0, 0, 0), (0, 0, 0))] (by decide +kernel) rfl ?_
          rw [e2, e3]
          exact hx_pick [0, 1, 2, 3, 4] (h2 c1 c2 c3)
        · have c3 : (m 87 (0 + x4).toNat) = x1 := by have h : ¬ ((m 87 (0 + x4).toNat) ≠ x1) := c3; omega
          have e4 : gx_w (200 + x4) = 200 + x4 := gx_w_id (by omega) (by omega)
          refine hx_blk (npc := 47) (L' := [(0, .inr (.inl 86)), (1, .inl x1), (2, .inl x2), (3, .inl x3), (4, .inl x4)]) (st' := [.inl x2, .inl (m 87 (gx_w (200 + x4)).toNat), .inl x3]) (m' := m) [((35, .aload_n 0, 1, 0, 0, 0, 0), (0, 0, 0)), ((36, .getfield 7, 3, 10, 0, 5113, 0), (1, 86, 87)), ((39, .sipush 200, 3, 0, 0, 0, 0), (0, 0, 0)), ((42, .iload 4, 2, 0, 0, 0, 0), (0, 0, 0)), ((44, .iadd, 1, 0, 0, 0, 0), (0, 0, 0)), ((45, .iaload, 1, 0, 0, 0, 0), (0, 87, 0)), ((46, .iload_n 2, 1, 0, 0, 0, 0), (0, 0, 0))] (by decide +kernel) rfl ?_
          rw [e4]
          refine hx_cmp .ne 54 (by decide +kernel) (fun c4 => ?_) (fun c4 => ?_)
          · have c4 : (m 87 (200 + x4).toNat) ≠ x2 := c4
            have e5 : gx_w (x3 + 0) = x3 + 0 := gx_w_id (by omega) (by omega)
            have e6 : gx_w (x4 + 1) = x4 + 1 := gx_w_id (by omega) (by omega)
            refine hx_blk (npc := 5) (L' := [(0, .inr (.inl 86)), (1, .inl x1), (2, .inl x2), (3, .inl (gx_w (x3 + 0))), (4, .inl (gx_w (x4 + 1)))]) (st' := []) (m' := m) [((54, .iconst 0, 1, 0, 0, 0, 0), (0, 0, 0)), ((55, .iadd, 1, 0, 0, 0, 0), (0, 0, 0)), ((56, .istore_n 3, 1, 0, 0, 0, 0), (0, 0, 0)), ((57, .iinc 4 1, 3, 0, 0, 0, 0), (0, 0, 0)), ((60, .goto (-55), 3, 0, 0, 0, 0), (0, 0, 0))] (by decide +kernel) rfl ?_
            rw [e5, e6]
            exact hx_pick [0, 1, 2, 3, 4] (h3 c1 c2 c3 c4)
          · have c4 : (m 87 (200 + x4).toNat) = x2 := by have h : ¬ ((m 87 (200 + x4).toNat) ≠ x2) := c4; omega
            have e7 : gx_w (x3 + 1) = x3 + 1 := gx_w_id (by omega) (by omega)
            have e8 : gx_w (x4 + 1) = x4 + 1 := gx_w_id (by omega) (by omega)
            refine hx_blk (npc := 5) (L' := [(0, .inr (.inl 86)), (1, .inl x1), (2, .inl x2), (3, .inl (gx_w (x3 + 1))), (4, .inl (gx_w (x4 + 1)))]) (st' := []) (m' := m) [((50, .iconst 1, 1, 0, 0, 0, 0), (0, 0, 0)), ((51, .goto 4, 3, 0, 0, 0, 0), (0, 0, 0)), ((55, .iadd, 1, 0, 0, 0, 0), (0, 0, 0)), ((56, .istore_n 3, 1, 0, 0, 0, 0), (0, 0, 0)), ((57, .iinc 4 1, 3, 0, 0, 0, 0), (0, 0, 0)), ((60, .goto (-55), 3, 0, 0, 0, 0), (0, 0, 0))] (by decide +kernel) rfl ?_
            rw [e7, e8]
            exact hx_pick [0, 1, 2, 3, 4] (h4 c1 c2 c3 c4)
    · have c2 : ¬ (aYear (m 87) x4) := c2
      show hxn xs n yp_m254 19 [(0, .inr (.inl 86)), (1, .inl x1), (2, .inl x2), (3, .inl x3), (4, .inl x4)] [.inl 0, .inl x3] m Q
      refine hx_if .eq 54 (by decide +kernel) (fun c3 => ?_) (fun c3 => ?_)
      · have c3 : (0 : Int) = 0 := c3
        have e9 : gx_w (x3 + 0) = x3 + 0 := gx_w_id (by omega) (by omega)
        have e10 : gx_w (x4 + 1) = x4 + 1 := gx_w_id (by omega) (by omega)
        refine hx_blk (npc := 5) (L' := [(0, .inr (.inl 86)), (1, .inl x1), (2, .inl x2), (3, .inl (gx_w (x3 + 0))), (4, .inl (gx_w (x4 + 1)))]) (st' := []) (m' := m) [((54, .iconst 0, 1, 0, 0, 0, 0), (0, 0, 0)), ((55, .iadd, 1, 0, 0, 0, 0), (0, 0, 0)), ((56, .istore_n 3, 1, 0, 0, 0, 0), (0, 0, 0)), ((57, .iinc 4 1, 3, 0, 0, 0, 0), (0, 0, 0)), ((60, .goto (-55), 3, 0, 0, 0, 0), (0, 0, 0))] (by decide +kernel) rfl ?_
        rw [e9, e10]
        exact hx_pick [0, 1, 2, 3, 4] (h5 c1 c2)
      · have c3 : (0 : Int) ≠ 0 := c3
        exfalso; omega

theorem aYear_nat {s : Nat → Int} {k : Nat} : aYear s (k : Int) ↔ k < 40 ∧ s (440 + k) = 1 := by
  unfold aYear
  have e : (440 + (k : Int)).toNat = 440 + k := by omega
  rw [e]
  constructor
  · exact fun ⟨_, h2, h3⟩ => ⟨by omega, h3⟩
  · exact fun ⟨h2, h3⟩ => ⟨by omega, by omega, h3⟩
theorem hcnt_t {f : Nat → Bool} {k : Nat} (h : f k = true) : ((hcnt f (k + 1) : Nat) : Int) = ((hcnt f k : Nat) : Int) + 1 := by
  show ((hcnt f k + (if f k = true then 1 else 0) : Nat) : Int) = _
  rw [if_pos h]
  omega
theorem hcnt_f {f : Nat → Bool} {k : Nat} (h : f k = false) : ((hcnt f (k + 1) : Nat) : Int) = ((hcnt f k : Nat) : Int) + 0 := by
  show ((hcnt f k + (if f k = true then 1 else 0) : Nat) : Int) = _
  rw [if_neg (by rw [h]; decide)]
  omega
theorem hcnt_f0 {f : Nat → Bool} {k : Nat} (h : f k = false) : ((hcnt f (k + 1) : Nat) : Int) = ((hcnt f k : Nat) : Int) := by
  have := hcnt_f h
  omega
theorem hl254 {xs : List Int32} {n : Nat} {Q : hQ} {m : gx_M} {a b : Int} (h : Q (some (.inl ((fmk (m 87) a b : Nat) : Int))) m) : ∀ d k : Nat, k + d = 40 → hxn xs n yp_m254 5 [(0, .inr (.inl 86)), (1, .inl a), (2, .inl b), (3, .inl ((hcnt (fY (m 87) a b) k : Nat) : Int)), (4, .inl (k : Int))] [] m Q := by
  intro d
  induction d with
  | zero =>
    intro k hk
    have e : k = 40 := by omega
    subst e
    have := hcnt_le (fY (m 87) a b) 40
    exact hx_dn (hr254_5 (by omega) (by omega) (fun _ => h) (fun c => absurd c (by omega)) (fun c => absurd c (by omega)) (fun c => absurd c (by omega)) (fun c => absurd c (by omega)))
  | succ d ih =>
    intro k hk
    have hle := hcnt_le (fY (m 87) a b) k
    have e0 : (0 + (k : Int)).toNat = k := by omega
    have e2 : (200 + (k : Int)).toNat = 200 + k := by omega
    have no : fY (m 87) a b k = false → hxn xs n yp_m254 5 [(0, .inr (.inl 86)), (1, .inl a), (2, .inl b), (3, .inl (((hcnt (fY (m 87) a b) k : Nat) : Int) + 0)), (4, .inl ((k : Int) + 1))] [] m Q := fun hf => by
      rw [← hcnt_f hf]
      exact ih (k + 1) (by omega)
    refine hx_dn (hr254_5 (by omega) (by omega) (fun c => absurd c (by omega)) (fun _ _ c => no ?_) (fun _ _ _ c => no ?_) (fun _ c1 c2 c3 => ?_) (fun _ c => no ?_))
    · rw [e0] at c
      unfold fY
      rw [decide_eq_false c, Bool.false_and, Bool.and_false]
    · rw [e2] at c
      unfold fY
      rw [decide_eq_false c, Bool.and_false, Bool.and_false]
    · rw [e0] at c2
      rw [e2] at c3
      have hf : fY (m 87) a b k = true := by
        unfold fY
        rw [decide_eq_true (aYear_nat.mp c1).2, decide_eq_true c2, decide_eq_true c3]
        rfl
      rw [← hcnt_t hf]
      exact ih (k + 1) (by omega)
    · have h1 : ¬ m 87 (440 + k) = 1 := fun h1 => c (aYear_nat.mpr ⟨by omega, h1⟩)
      unfold fY
      rw [decide_eq_false h1, Bool.false_and]
theorem hs254 {xs : List Int32} {n : Nat} {Q : hQ} {m : gx_M} {a b : Int} (h : Q (some (.inl ((fmk (m 87) a b : Nat) : Int))) m) : hxn xs n yp_m254 0 [(0, .inr (.inl 86)), (1, .inl a), (2, .inl b)] [] m Q := hx_dn (hr254_0 (hl254 h 40 0 rfl))
