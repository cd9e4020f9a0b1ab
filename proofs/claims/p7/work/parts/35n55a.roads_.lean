section
/-! what a code comes to: roads -/
def lre (s x y : Int) : Int := if s = 43 then gx_w (x + y) else if s = 45 then gx_w (x - y) else if s = 42 then gx_w (x * y) else if s = 47 then (if y = 0 then 0 else gx_w (Int.tdiv x y)) else if s = 37 then (if y = 0 then 0 else Int.tmod x y) else if s = 60 then (if x < y then 1 else 0) else if s = 62 then (if y < x then 1 else 0) else if x = y then 1 else 0
def lrr (a x y : Int) : Int := if a = 2 then gx_w (x + y) else if a = 3 then gx_w (x - y) else if a = 4 then gx_w (x * y) else if a = 5 then gx_w (Int.tdiv x y) else if a = 6 then Int.tmod x y else if a = 7 then (if x < y then 1 else 0) else if a = 8 then (if y < x then 1 else 0) else if x = y then 1 else 0
def rfd (s y : Int) : Prop := (s = 47 ∨ s = 37) ∧ y = 0
/-- reckoned from 0 on -/
theorem hs66 {xs : List Int32} {n : Nat} {Q : hQ} {m : gx_M} {x0 x1 x2 : Int}
    (h : Q (some (.inl (lre x0 x1 x2))) m) : hxn xs n yp_m66 0 [(0, .inl x0), (1, .inl x1), (2, .inl x2)] [] m Q := by
  refine hx_dn ?_
  refine hx_blks (npc := 1) (L' := [(0, .inl x0), (1, .inl x1), (2, .inl x2)]) (st' := [.inl x0]) (m' := m) ((0, .iload_n 0, 1, 0, 0, 0, 0), (0, 0, 0)) [] (by decide +kernel) rfl ?_
  refine hx_lsw 126 [(37, 92), (42, 76), (43, 68), (45, 72), (47, 80), (60, 104), (62, 115)] (by decide +kernel) ?_
  refine hsw_c (fun c1 => ?_) (fun c1 => ?_)
  · have c1 : x0 = 37 := c1
    refine hx_blk (npc := 93) (L' := [(0, .inl x0), (1, .inl x1), (2, .inl x2)]) (st' := [.inl x2]) (m' := m) [((92, .iload_n 2, 1, 0, 0, 0, 0), (0, 0, 0))] (by decide +kernel) rfl ?_
    refine hx_if .ne 100 (by decide +kernel) (fun c2 => ?_) (fun c2 => ?_)
    · have c2 : x2 ≠ 0 := c2
      refine hx_blk (npc := 103) (L' := [(0, .inl x0), (1, .inl x1), (2, .inl x2)]) (st' := [.inl (Int.tmod x1 x2)]) (m' := m) [((100, .iload_n 1, 1, 0, 0, 0, 0), (0, 0, 0)), ((101, .iload_n 2, 1, 0, 0, 0, 0), (0, 0, 0)), ((102, .irem, 1, 0, 0, 0, 0), (0, 0, 0))] (by decide +kernel) rfl ?_
      exact hx_reti (by decide +kernel) (by have e : lre x0 x1 x2 = (Int.tmod x1 x2) := (by unfold lre; (repeat' split) <;> omega); rw [e] at h; exact h)
    · have c2 : x2 = 0 := by have h : ¬ (x2 ≠ 0) := c2; omega
      refine hx_blk (npc := 103) (L' := [(0, .inl x0), (1, .inl x1), (2, .inl x2)]) (st' := [.inl 0]) (m' := m) [((96, .iconst 0, 1, 0, 0, 0, 0), (0, 0, 0)), ((97, .goto 6, 3, 0, 0, 0, 0), (0, 0, 0))] (by decide +kernel) rfl ?_
      exact hx_reti (by decide +kernel) (by have e : lre x0 x1 x2 = 0 := (by unfold lre; (repeat' split) <;> omega); rw [e] at h; exact h)
  refine hsw_c (fun c2 => ?_) (fun c2 => ?_)
  · have c2 : x0 = 42 := c2
    refine hx_blk (npc := 79) (L' := [(0, .inl x0), (1, .inl x1), (2, .inl x2)]) (st' := [.inl (gx_w (x1 * x2))]) (m' := m) [((76, .iload_n 1, 1, 0, 0, 0, 0), (0, 0, 0)), ((77, .iload_n 2, 1, 0, 0, 0, 0), (0, 0, 0)), ((78, .imul, 1, 0, 0, 0, 0), (0, 0, 0))] (by decide +kernel) rfl ?_
    exact hx_reti (by decide +kernel) (by have e : lre x0 x1 x2 = (gx_w (x1 * x2)) := (by unfold lre; (repeat' split) <;> omega); rw [e] at h; exact h)
  refine hsw_c (fun c3 => ?_) (fun c3 => ?_)
  · have c3 : x0 = 43 := c3
    refine hx_blk (npc := 71) (L' := [(0, .inl x0), (1, .inl x1), (2, .inl x2)]) (st' := [.inl (gx_w (x1 + x2))]) (m' := m) [((68, .iload_n 1, 1, 0, 0, 0, 0), (0, 0, 0)), ((69, .iload_n 2, 1, 0, 0, 0, 0), (0, 0, 0)), ((70, .iadd, 1, 0, 0, 0, 0), (0, 0, 0))] (by decide +kernel) rfl ?_
    exact hx_reti (by decide +kernel) (by have e : lre x0 x1 x2 = (gx_w (x1 + x2)) := (by unfold lre; (repeat' split) <;> omega); rw [e] at h; exact h)
  refine hsw_c (fun c4 => ?_) (fun c4 => ?_)
  · have c4 : x0 = 45 := c4
    refine hx_blk (npc := 75) (L' := [(0, .inl x0), (1, .inl x1), (2, .inl x2)]) (st' := [.inl (gx_w (x1 - x2))]) (m' := m) [((72, .iload_n 1, 1, 0, 0, 0, 0), (0, 0, 0)), ((73, .iload_n 2, 1, 0, 0, 0, 0), (0, 0, 0)), ((74, .isub, 1, 0, 0, 0, 0), (0, 0, 0))] (by decide +kernel) rfl ?_
    exact hx_reti (by decide +kernel) (by have e : lre x0 x1 x2 = (gx_w (x1 - x2)) := (by unfold lre; (repeat' split) <;> omega); rw [e] at h; exact h)
  refine hsw_c (fun c5 => ?_) (fun c5 => ?_)
  · have c5 : x0 = 47 := c5
    refine hx_blk (npc := 81) (L' := [(0, .inl x0), (1, .inl x1), (2, .inl x2)]) (st' := [.inl x2]) (m' := m) [((80, .iload_n 2, 1, 0, 0, 0, 0), (0, 0, 0))] (by decide +kernel) rfl ?_
    refine hx_if .ne 88 (by decide +kernel) (fun c6 => ?_) (fun c6 => ?_)
    · have c6 : x2 ≠ 0 := c6
      refine hx_blk (npc := 91) (L' := [(0, .inl x0), (1, .inl x1), (2, .inl x2)]) (st' := [.inl (gx_w (Int.tdiv x1 x2))]) (m' := m) [((88, .iload_n 1, 1, 0, 0, 0, 0), (0, 0, 0)), ((89, .iload_n 2, 1, 0, 0, 0, 0), (0, 0, 0)), ((90, .idiv, 1, 0, 0, 0, 0), (0, 0, 0))] (by decide +kernel) rfl ?_
      exact hx_reti (by decide +kernel) (by have e : lre x0 x1 x2 = (gx_w (Int.tdiv x1 x2)) := (by unfold lre; (repeat' split) <;> omega); rw [e] at h; exact h)
    · have c6 : x2 = 0 := by have h : ¬ (x2 ≠ 0) := c6; omega
      refine hx_blk (npc := 91) (L' := [(0, .inl x0), (1, .inl x1), (2, .inl x2)]) (st' := [.inl 0]) (m' := m) [((84, .iconst 0, 1, 0, 0, 0, 0), (0, 0, 0)), ((85, .goto 6, 3, 0, 0, 0, 0), (0, 0, 0))] (by decide +kernel) rfl ?_
      exact hx_reti (by decide +kernel) (by have e : lre x0 x1 x2 = 0 := (by unfold lre; (repeat' split) <;> omega); rw [e] at h; exact h)
  refine hsw_c (fun c6 => ?_) (fun c6 => ?_)
  · have c6 : x0 = 60 := c6
    refine hx_blk (npc := 106) (L' := [(0, .inl x0), (1, .inl x1), (2, .inl x2)]) (st' := [.inl x2, .inl x1]) (m' := m) [((104, .iload_n 1, 1, 0, 0, 0, 0), (0, 0, 0)), ((105, .iload_n 2, 1, 0, 0, 0, 0), (0, 0, 0))] (by decide +kernel) rfl ?_
    refine hx_cmp .ge 113 (by decide +kernel) (fun c7 => ?_) (fun c7 => ?_)
    · have c7 : x2 ≤ x1 := c7
      refine hx_blk (npc := 114) (L' := [(0, .inl x0), (1, .inl x1), (2, .inl x2)]) (st' := [.inl 0]) (m' := m) [((113, .iconst 0, 1, 0, 0, 0, 0), (0, 0, 0))] (by decide +kernel) rfl ?_
      exact hx_reti (by decide +kernel) (by have e : lre x0 x1 x2 = 0 := (by unfold lre; (repeat' split) <;> omega); rw [e] at h; exact h)
    · have c7 : x1 < x2 := by have h : ¬ (x2 ≤ x1) := c7; omega
      refine hx_blk (npc := 114) (L' := [(0, .inl x0), (1, .inl x1), (2, .inl x2)]) (st' := [.inl 1]) (m' := m) [((109, .iconst 1, 1, 0, 0, 0, 0), (0, 0, 0)), ((110, .goto 4, 3, 0, 0, 0, 0), (0, 0, 0))] (by decide +kernel) rfl ?_
      exact hx_reti (by decide +kernel) (by have e : lre x0 x1 x2 = 1 := (by unfold lre; (repeat' split) <;> omega); rw [e] at h; exact h)
  refine hsw_c (fun c7 => ?_) (fun c7 => ?_)
  · have c7 : x0 = 62 := c7
    refine hx_blk (npc := 117) (L' := [(0, .inl x0), (1, .inl x1), (2, .inl x2)]) (st' := [.inl x2, .inl x1]) (m' := m) [((115, .iload_n 1, 1, 0, 0, 0, 0), (0, 0, 0)), ((116, .iload_n 2, 1, 0, 0, 0, 0), (0, 0, 0))] (by decide +kernel) rfl ?_
    refine hx_cmp .le 124 (by decide +kernel) (fun c8 => ?_) (fun c8 => ?_)
    · have c8 : x1 ≤ x2 := c8
      refine hx_blk (npc := 125) (L' := [(0, .inl x0), (1, .inl x1), (2, .inl x2)]) (st' := [.inl 0]) (m' := m) [((124, .iconst 0, 1, 0, 0, 0, 0), (0, 0, 0))] (by decide +kernel) rfl ?_
      exact hx_reti (by decide +kernel) (by have e : lre x0 x1 x2 = 0 := (by unfold lre; (repeat' split) <;> omega); rw [e] at h; exact h)
    · have c8 : x2 < x1 := by have h : ¬ (x1 ≤ x2) := c8; omega
      refine hx_blk (npc := 125) (L' := [(0, .inl x0), (1, .inl x1), (2, .inl x2)]) (st' := [.inl 1]) (m' := m) [((120, .iconst 1, 1, 0, 0, 0, 0), (0, 0, 0)), ((121, .goto 4, 3, 0, 0, 0, 0), (0, 0, 0))] (by decide +kernel) rfl ?_
      exact hx_reti (by decide +kernel) (by have e : lre x0 x1 x2 = 1 := (by unfold lre; (repeat' split) <;> omega); rw [e] at h; exact h)
  refine hsw_n ?_
  refine hx_blk (npc := 128) (L' := [(0, .inl x0), (1, .inl x1), (2, .inl x2)]) (st' := [.inl x2, .inl x1]) (m' := m) [((126, .iload_n 1, 1, 0, 0, 0, 0), (0, 0, 0)), ((127, .iload_n 2, 1, 0, 0, 0, 0), (0, 0, 0))] (by decide +kernel) rfl ?_
  refine hx_cmp .ne 135 (by decide +kernel) (fun c8 => ?_) (fun c8 => ?_)
  · have c8 : x1 ≠ x2 := c8
    refine hx_blk (npc := 136) (L' := [(0, .inl x0), (1, .inl x1), (2, .inl x2)]) (st' := [.inl 0]) (m' := m) [((135, .iconst 0, 1, 0, 0, 0, 0), (0, 0, 0))] (by decide +kernel) rfl ?_
    exact hx_reti (by decide +kernel) (by have e : lre x0 x1 x2 = 0 := (by unfold lre; (repeat' split) <;> omega); rw [e] at h; exact h)
  · have c8 : x1 = x2 := by have h : ¬ (x1 ≠ x2) := c8; omega
    refine hx_blk (npc := 136) (L' := [(0, .inl x0), (1, .inl x1), (2, .inl x2)]) (st' := [.inl 1]) (m' := m) [((131, .iconst 1, 1, 0, 0, 0, 0), (0, 0, 0)), ((132, .goto 4, 3, 0, 0, 0, 0), (0, 0, 0))] (by decide +kernel) rfl ?_
    exact hx_reti (by decide +kernel) (by have e : lre x0 x1 x2 = 1 := (by unfold lre; (repeat' split) <;> omega); rw [e] at h; exact h)

/-- reckon from 0 on -/
theorem hs209 {xs : List Int32} {n : Nat} {Q : hQ} {m : gx_M} {x0 x1 x2 : Int}
    (h : Q (some (.inl (lrr x0 x1 x2))) m) : hxn xs n yp_m209 0 [(0, .inl x0), (1, .inl x1), (2, .inl x2)] [] m Q := by
  refine hx_dn ?_
  refine hx_blks (npc := 1) (L' := [(0, .inl x0), (1, .inl x1), (2, .inl x2)]) (st' := [.inl x0]) (m' := m) ((0, .iload_n 0, 1, 0, 0, 0, 0), (0, 0, 0)) [] (by decide +kernel) rfl ?_
  refine hx_tsw 86 [(2, 44), (3, 48), (4, 52), (5, 56), (6, 60), (7, 64), (8, 75)] (by decide +kernel) ?_
  refine hsw_c (fun c1 => ?_) (fun c1 => ?_)
  · have c1 : x0 = 2 := c1
    refine hx_blk (npc := 47) (L' := [(0, .inl x0), (1, .inl x1), (2, .inl x2)]) (st' := [.inl (gx_w (x1 + x2))]) (m' := m) [((44, .iload_n 1, 1, 0, 0, 0, 0), (0, 0, 0)), ((45, .iload_n 2, 1, 0, 0, 0, 0), (0, 0, 0)), ((46, .iadd, 1, 0, 0, 0, 0), (0, 0, 0))] (by decide +kernel) rfl ?_
    exact hx_reti (by decide +kernel) (by have e : lrr x0 x1 x2 = (gx_w (x1 + x2)) := (by unfold lrr; (repeat' split) <;> omega); rw [e] at h; exact h)
  refine hsw_c (fun c2 => ?_) (fun c2 => ?_)
  · have c2 : x0 = 3 := c2
    refine hx_blk (npc := 51) (L' := [(0, .inl x0), (1, .inl x1), (2, .inl x2)]) (st' := [.inl (gx_w (x1 - x2))]) (m' := m) [((48, .iload_n 1, 1, 0, 0, 0, 0), (0, 0, 0)), ((49, .iload_n 2, 1, 0, 0, 0, 0), (0, 0, 0)), ((50, .isub, 1, 0, 0, 0, 0), (0, 0, 0))] (by decide +kernel) rfl ?_
    exact hx_reti (by decide +kernel) (by have e : lrr x0 x1 x2 = (gx_w (x1 - x2)) := (by unfold lrr; (repeat' split) <;> omega); rw [e] at h; exact h)
  refine hsw_c (fun c3 => ?_) (fun c3 => ?_)
  · have c3 : x0 = 4 := c3
    refine hx_blk (npc := 55) (L' := [(0, .inl x0), (1, .inl x1), (2, .inl x2)]) (st' := [.inl (gx_w (x1 * x2))]) (m' := m) [((52, .iload_n 1, 1, 0, 0, 0, 0), (0, 0, 0)), ((53, .iload_n 2, 1, 0, 0, 0, 0), (0, 0, 0)), ((54, .imul, 1, 0, 0, 0, 0), (0, 0, 0))] (by decide +kernel) rfl ?_
    exact hx_reti (by decide +kernel) (by have e : lrr x0 x1 x2 = (gx_w (x1 * x2)) := (by unfold lrr; (repeat' split) <;> omega); rw [e] at h; exact h)
  refine hsw_c (fun c4 => ?_) (fun c4 => ?_)
  · have c4 : x0 = 5 := c4
    refine hx_blk (npc := 59) (L' := [(0, .inl x0), (1, .inl x1), (2, .inl x2)]) (st' := [.inl (gx_w (Int.tdiv x1 x2))]) (m' := m) [((56, .iload_n 1, 1, 0, 0, 0, 0), (0, 0, 0)), ((57, .iload_n 2, 1, 0, 0, 0, 0), (0, 0, 0)), ((58, .idiv, 1, 0, 0, 0, 0), (0, 0, 0))] (by decide +kernel) rfl ?_
    exact hx_reti (by decide +kernel) (by have e : lrr x0 x1 x2 = (gx_w (Int.tdiv x1 x2)) := (by unfold lrr; (repeat' split) <;> omega); rw [e] at h; exact h)
  refine hsw_c (fun c5 => ?_) (fun c5 => ?_)
  · have c5 : x0 = 6 := c5
    refine hx_blk (npc := 63) (L' := [(0, .inl x0), (1, .inl x1), (2, .inl x2)]) (st' := [.inl (Int.tmod x1 x2)]) (m' := m) [((60, .iload_n 1, 1, 0, 0, 0, 0), (0, 0, 0)), ((61, .iload_n 2, 1, 0, 0, 0, 0), (0, 0, 0)), ((62, .irem, 1, 0, 0, 0, 0), (0, 0, 0))] (by decide +kernel) rfl ?_
    exact hx_reti (by decide +kernel) (by have e : lrr x0 x1 x2 = (Int.tmod x1 x2) := (by unfold lrr; (repeat' split) <;> omega); rw [e] at h; exact h)
  refine hsw_c (fun c6 => ?_) (fun c6 => ?_)
  · have c6 : x0 = 7 := c6
    refine hx_blk (npc := 66) (L' := [(0, .inl x0), (1, .inl x1), (2, .inl x2)]) (st' := [.inl x2, .inl x1]) (m' := m) [((64, .iload_n 1, 1, 0, 0, 0, 0), (0, 0, 0)), ((65, .iload_n 2, 1, 0, 0, 0, 0), (0, 0, 0))] (by decide +kernel) rfl ?_
    refine hx_cmp .ge 73 (by decide +kernel) (fun c7 => ?_) (fun c7 => ?_)
    · have c7 : x2 ≤ x1 := c7
      refine hx_blk (npc := 74) (L' := [(0, .inl x0), (1, .inl x1), (2, .inl x2)]) (st' := [.inl 0]) (m' := m) [((73, .iconst 0, 1, 0, 0, 0, 0), (0, 0, 0))] (by decide +kernel) rfl ?_
      exact hx_reti (by decide +kernel) (by have e : lrr x0 x1 x2 = 0 := (by unfold lrr; (repeat' split) <;> omega); rw [e] at h; exact h)
    · have c7 : x1 < x2 := by have h : ¬ (x2 ≤ x1) := c7; omega
      refine hx_blk (npc := 74) (L' := [(0, .inl x0), (1, .inl x1), (2, .inl x2)]) (st' := [.inl 1]) (m' := m) [((69, .iconst 1, 1, 0, 0, 0, 0), (0, 0, 0)), ((70, .goto 4, 3, 0, 0, 0, 0), (0, 0, 0))] (by decide +kernel) rfl ?_
      exact hx_reti (by decide +kernel) (by have e : lrr x0 x1 x2 = 1 := (by unfold lrr; (repeat' split) <;> omega); rw [e] at h; exact h)
  refine hsw_c (fun c7 => ?_) (fun c7 => ?_)
  · have c7 : x0 = 8 := c7
    refine hx_blk (npc := 77) (L' := [(0, .inl x0), (1, .inl x1), (2, .inl x2)]) (st' := [.inl x2, .inl x1]) (m' := m) [((75, .iload_n 1, 1, 0, 0, 0, 0), (0, 0, 0)), ((76, .iload_n 2, 1, 0, 0, 0, 0), (0, 0, 0))] (by decide +kernel) rfl ?_
    refine hx_cmp .le 84 (by decide +kernel) (fun c8 => ?_) (fun c8 => ?_)
    · have c8 : x1 ≤ x2 := c8
      refine hx_blk (npc := 85) (L' := [(0, .inl x0), (1, .inl x1), (2, .inl x2)]) (st' := [.inl 0]) (m' := m) [((84, .iconst 0, 1, 0, 0, 0, 0), (0, 0, 0))] (by decide +kernel) rfl ?_
      exact hx_reti (by decide +kernel) (by have e : lrr x0 x1 x2 = 0 := (by unfold lrr; (repeat' split) <;> omega); rw [e] at h; exact h)
    · have c8 : x2 < x1 := by have h : ¬ (x1 ≤ x2) := c8; omega
      refine hx_blk (npc := 85) (L' := [(0, .inl x0), (1, .inl x1), (2, .inl x2)]) (st' := [.inl 1]) (m' := m) [((80, .iconst 1, 1, 0, 0, 0, 0), (0, 0, 0)), ((81, .goto 4, 3, 0, 0, 0, 0), (0, 0, 0))] (by decide +kernel) rfl ?_
      exact hx_reti (by decide +kernel) (by have e : lrr x0 x1 x2 = 1 := (by unfold lrr; (repeat' split) <;> omega); rw [e] at h; exact h)
  refine hsw_n ?_
  refine hx_blk (npc := 88) (L' := [(0, .inl x0), (1, .inl x1), (2, .inl x2)]) (st' := [.inl x2, .inl x1]) (m' := m) [((86, .iload_n 1, 1, 0, 0, 0, 0), (0, 0, 0)), ((87, .iload_n 2, 1, 0, 0, 0, 0), (0, 0, 0))] (by decide +kernel) rfl ?_
  refine hx_cmp .ne 95 (by decide +kernel) (fun c8 => ?_) (fun c8 => ?_)
  · have c8 : x1 ≠ x2 := c8
    refine hx_blk (npc := 96) (L' := [(0, .inl x0), (1, .inl x1), (2, .inl x2)]) (st' := [.inl 0]) (m' := m) [((95, .iconst 0, 1, 0, 0, 0, 0), (0, 0, 0))] (by decide +kernel) rfl ?_
    exact hx_reti (by decide +kernel) (by have e : lrr x0 x1 x2 = 0 := (by unfold lrr; (repeat' split) <;> omega); rw [e] at h; exact h)
  · have c8 : x1 = x2 := by have h : ¬ (x1 ≠ x2) := c8; omega
    refine hx_blk (npc := 96) (L' := [(0, .inl x0), (1, .inl x1), (2, .inl x2)]) (st' := [.inl 1]) (m' := m) [((91, .iconst 1, 1, 0, 0, 0, 0), (0, 0, 0)), ((92, .goto 4, 3, 0, 0, 0, 0), (0, 0, 0))] (by decide +kernel) rfl ?_
    exact hx_reti (by decide +kernel) (by have e : lrr x0 x1 x2 = 1 := (by unfold lrr; (repeat' split) <;> omega); rw [e] at h; exact h)

/-- isDividedByZero from 0 on -/
theorem hs65 {xs : List Int32} {n : Nat} {Q : hQ} {m : gx_M} {x0 x1 : Int}
    (h1 : rfd x0 x1 → Q (some (.inl 1)) m) (h0 : ¬ (rfd x0 x1) → Q (some (.inl 0)) m) : hxn xs n yp_m65 0 [(0, .inl x0), (1, .inl x1)] [] m Q := by
  refine hx_dn ?_
  refine hx_blks (npc := 1) (L' := [(0, .inl x0), (1, .inl x1)]) (st' := [.inl x1]) (m' := m) ((0, .iload_n 1, 1, 0, 0, 0, 0), (0, 0, 0)) [] (by decide +kernel) rfl ?_
  refine hx_if .ne 20 (by decide +kernel) (fun c1 => ?_) (fun c1 => ?_)
  · have c1 : x1 ≠ 0 := c1
    refine hx_blk (npc := 21) (L' := [(0, .inl x0), (1, .inl x1)]) (st' := [.inl 0]) (m' := m) [((20, .iconst 0, 1, 0, 0, 0, 0), (0, 0, 0))] (by decide +kernel) rfl ?_
    exact hx_reti (by decide +kernel) (h0 (by unfold rfd; omega))
  · have c1 : x1 = 0 := by have h : ¬ (x1 ≠ 0) := c1; omega
    refine hx_blk (npc := 7) (L' := [(0, .inl x0), (1, .inl x1)]) (st' := [.inl 47, .inl x0]) (m' := m) [((4, .iload_n 0, 1, 0, 0, 0, 0), (0, 0, 0)), ((5, .bipush 47, 2, 0, 0, 0, 0), (0, 0, 0))] (by decide +kernel) rfl ?_
    refine hx_cmp .eq 16 (by decide +kernel) (fun c2 => ?_) (fun c2 => ?_)
    · have c2 : x0 = 47 := c2
      refine hx_blk (npc := 21) (L' := [(0, .inl x0), (1, .inl x1)]) (st' := [.inl 1]) (m' := m) [((16, .iconst 1, 1, 0, 0, 0, 0), (0, 0, 0)), ((17, .goto 4, 3, 0, 0, 0, 0), (0, 0, 0))] (by decide +kernel) rfl ?_
      exact hx_reti (by decide +kernel) (h1 (by unfold rfd; omega))
    · have c2 : x0 ≠ 47 := c2
      refine hx_blk (npc := 13) (L' := [(0, .inl x0), (1, .inl x1)]) (st' := [.inl 37, .inl x0]) (m' := m) [((10, .iload_n 0, 1, 0, 0, 0, 0), (0, 0, 0)), ((11, .bipush 37, 2, 0, 0, 0, 0), (0, 0, 0))] (by decide +kernel) rfl ?_
      refine hx_cmp .ne 20 (by decide +kernel) (fun c3 => ?_) (fun c3 => ?_)
      · have c3 : x0 ≠ 37 := c3
        refine hx_blk (npc := 21) (L' := [(0, .inl x0), (1, .inl x1)]) (st' := [.inl 0]) (m' := m) [((20, .iconst 0, 1, 0, 0, 0, 0), (0, 0, 0))] (by decide +kernel) rfl ?_
        exact hx_reti (by decide +kernel) (h0 (by unfold rfd; omega))
      · have c3 : x0 = 37 := by have h : ¬ (x0 ≠ 37) := c3; omega
        refine hx_blk (npc := 21) (L' := [(0, .inl x0), (1, .inl x1)]) (st' := [.inl 1]) (m' := m) [((16, .iconst 1, 1, 0, 0, 0, 0), (0, 0, 0)), ((17, .goto 4, 3, 0, 0, 0, 0), (0, 0, 0))] (by decide +kernel) rfl ?_
        exact hx_reti (by decide +kernel) (h1 (by unfold rfd; omega))

/-- run from 0 on -/
theorem hr58_0 {xs : List Int32} {n : Nat} {Q : hQ} {m : gx_M} {b : Nat} {x2 x3 : Int}
    (h1 : hxn xs n yp_m58 10 [(0, .inr (.inl 44)), (1, .inr (.inl b)), (3, .inl x3), (4, .inl 0), (5, .inl (if 0 < x2 then x2 else 0))] [] m Q) : hxn xs (n + 1) yp_m58 0 [(0, .inr (.inl 44)), (1, .inr (.inl b)), (2, .inl x2), (3, .inl x3)] [] m Q := by
  refine hx_blks (npc := 10) (L' := [(0, .inr (.inl 44)), (1, .inr (.inl b)), (2, .inl x2), (3, .inl x3), (4, .inl 0), (5, .inl (if 0 < x2 then x2 else 0))]) (st' := []) (m' := m) ((0, .iconst 0, 1, 0, 0, 0, 0), (0, 0, 0)) [((1, .istore 4, 2, 0, 0, 0, 0), (0, 0, 0)), ((3, .iconst 0, 1, 0, 0, 0, 0), (0, 0, 0)), ((4, .iload_n 2, 1, 0, 0, 0, 0), (0, 0, 0)), ((5, .invokestatic 68, 3, 1002, 2224, 3135, 1013002225), (0, 0, 0)), ((8, .istore 5, 2, 0, 0, 0, 0), (0, 0, 0))] (by decide +kernel) rfl ?_
  exact hx_pick [0, 1, 3, 4, 5] h1

/-- run from 10 on -/
theorem hr58_10 {xs : List Int32} {n : Nat} {Q : hQ} {m : gx_M} {b : Nat} {x3 x4 x5 : Int}
    (h1 : (x3 ≤ x5) → (x4 ≤ 0) → Q (some (.inl 0)) m)
    (h2 : (x3 ≤ x5) → (0 < x4) → Q (some (.inl (m 51 (gx_w (x4 - 1)).toNat))) m)
    (h3 : (x5 < x3) → (240 ≤ x5) → (x4 ≤ 0) → Q (some (.inl 0)) m)
    (h4 : (x5 < x3) → (240 ≤ x5) → (0 < x4) → Q (some (.inl (m 51 (gx_w (x4 - 1)).toNat))) m)
    (h5 : (x5 < x3) → (x5 < 240) → ((m 45 (x5).toNat) = 0) → (x4 < 64) → ((m 45 (x5).toNat) = 0) → hxn xs n yp_m58 10 [(0, .inr (.inl 44)), (1, .inr (.inl b)), (3, .inl x3), (4, .inl (gx_w (x4 + 1))), (5, .inl (gx_w (x5 + 1)))] [] (gx_u m 51 (x4).toNat (m 46 (x5).toNat)) Q)
    (h6 : (x5 < x3) → (x5 < 240) → ((m 45 (x5).toNat) = 0) → (64 ≤ x4) → Q (some (.inl 0)) m)
    (h7 : (x5 < x3) → (x5 < 240) → ((m 45 (x5).toNat) ≠ 0) → ((m 45 (x5).toNat) ≠ 1) → ((m 45 (x5).toNat) = 38) → (1 ≤ x4) → ((m 51 (gx_w (x4 - 1)).toNat) = 0) → ((m 45 (x5).toNat) ≠ 124) → hxn xs n yp_m58 10 [(0, .inr (.inl 44)), (1, .inr (.inl b)), (3, .inl x3), (4, .inl x4), (5, .inl (gx_w ((if x5 < (gx_w ((m 46 (x5).toNat) - 1)) then (gx_w ((m 46 (x5).toNat) - 1)) else x5) + 1)))] [] m Q)
    (h8 : (x5 < x3) → (x5 < 240) → ((m 45 (x5).toNat) ≠ 0) → ((m 45 (x5).toNat) ≠ 1) → ((m 45 (x5).toNat) = 38) → (1 ≤ x4) → ((m 51 (gx_w (x4 - 1)).toNat) ≠ 0) → ((m 45 (x5).toNat) ≠ 124) → hxn xs n yp_m58 10 [(0, .inr (.inl 44)), (1, .inr (.inl b)), (3, .inl x3), (4, .inl (gx_w (x4 + (-1)))), (5, .inl (gx_w (x5 + 1)))] [] m Q)
    (h9 : (x5 < x3) → (x5 < 240) → ((m 45 (x5).toNat) ≠ 0) → ((m 45 (x5).toNat) ≠ 1) → ((m 45 (x5).toNat) = 38) → (x4 < 1) → Q (some (.inl 0)) m)
    (h10 : (x5 < x3) → (x5 < 240) → ((m 45 (x5).toNat) ≠ 0) → ((m 45 (x5).toNat) ≠ 1) → ((m 45 (x5).toNat) ≠ 38) → ((m 45 (x5).toNat) ≠ 124) → ((m 45 (x5).toNat) ≠ 33) → (x4 < 2) → Q (some (.inl 0)) m)
    (h11 : (x5 < x3) → (x5 < 240) → ((m 45 (x5).toNat) ≠ 0) → ((m 45 (x5).toNat) ≠ 1) → ((m 45 (x5).toNat) ≠ 38) → ((m 45 (x5).toNat) ≠ 124) → ((m 45 (x5).toNat) ≠ 33) → (2 ≤ x4) → (rfd (m 45 (x5).toNat) (m 51 (gx_w (x4 - 1)).toNat)) → Q (some (.inl 0)) m)
    (h12 : (x5 < x3) → (x5 < 240) → ((m 45 (x5).toNat) ≠ 0) → ((m 45 (x5).toNat) ≠ 1) → ((m 45 (x5).toNat) ≠ 38) → ((m 45 (x5).toNat) ≠ 124) → ((m 45 (x5).toNat) ≠ 33) → (2 ≤ x4) → (¬ (rfd (m 45 (x5).toNat) (m 51 (gx_w (x4 - 1)).toNat))) → hxn xs n yp_m58 10 [(0, .inr (.inl 44)), (1, .inr (.inl b)), (3, .inl x3), (4, .inl (gx_w (x4 + (-1)))), (5, .inl (gx_w (x5 + 1)))] [] (gx_u m 51 (gx_w ((gx_w (x4 + (-1))) - 1)).toNat (lre (m 45 (x5).toNat) (m 51 (gx_w ((gx_w (x4 + (-1))) - 1)).toNat) (m 51 (gx_w (x4 + (-1))).toNat))) Q)
    (h13 : (x5 < x3) → (x5 < 240) → ((m 45 (x5).toNat) ≠ 0) → ((m 45 (x5).toNat) ≠ 1) → ((m 45 (x5).toNat) ≠ 38) → ((m 45 (x5).toNat) ≠ 124) → ((m 45 (x5).toNat) = 33) → (1 ≤ x4) → hxn xs n yp_m58 10 [(0, .inr (.inl 44)), (1, .inr (.inl b)), (3, .inl x3), (4, .inl x4), (5, .inl (gx_w (x5 + 1)))] [] (gx_u m 51 (gx_w (x4 - 1)).toNat (gx_w (1 - (m 51 (gx_w (x4 - 1)).toNat)))) Q)
    (h14 : (x5 < x3) → (x5 < 240) → ((m 45 (x5).toNat) ≠ 0) → ((m 45 (x5).toNat) ≠ 1) → ((m 45 (x5).toNat) ≠ 38) → ((m 45 (x5).toNat) ≠ 124) → ((m 45 (x5).toNat) = 33) → (x4 < 1) → Q (some (.inl 0)) m)
    (h15 : (x5 < x3) → (x5 < 240) → ((m 45 (x5).toNat) ≠ 0) → ((m 45 (x5).toNat) ≠ 1) → ((m 45 (x5).toNat) ≠ 38) → ((m 45 (x5).toNat) = 124) → (1 ≤ x4) → ((m 51 (gx_w (x4 - 1)).toNat) = 0) → ((m 45 (x5).toNat) = 124) → hxn xs n yp_m58 10 [(0, .inr (.inl 44)), (1, .inr (.inl b)), (3, .inl x3), (4, .inl (gx_w (x4 + (-1)))), (5, .inl (gx_w (x5 + 1)))] [] m Q)
    (h16 : (x5 < x3) → (x5 < 240) → ((m 45 (x5).toNat) ≠ 0) → ((m 45 (x5).toNat) ≠ 1) → ((m 45 (x5).toNat) ≠ 38) → ((m 45 (x5).toNat) = 124) → (1 ≤ x4) → ((m 51 (gx_w (x4 - 1)).toNat) ≠ 0) → ((m 45 (x5).toNat) = 124) → hxn xs n yp_m58 10 [(0, .inr (.inl 44)), (1, .inr (.inl b)), (3, .inl x3), (4, .inl x4), (5, .inl (gx_w ((if x5 < (gx_w ((m 46 (x5).toNat) - 1)) then (gx_w ((m 46 (x5).toNat) - 1)) else x5) + 1)))] [] m Q)
    (h17 : (x5 < x3) → (x5 < 240) → ((m 45 (x5).toNat) ≠ 0) → ((m 45 (x5).toNat) ≠ 1) → ((m 45 (x5).toNat) ≠ 38) → ((m 45 (x5).toNat) = 124) → (x4 < 1) → Q (some (.inl 0)) m)
    (h18 : (x5 < x3) → (x5 < 240) → ((m 45 (x5).toNat) ≠ 0) → ((m 45 (x5).toNat) = 1) → (x4 < 64) → ((m 45 (x5).toNat) ≠ 0) → hxn xs n yp_m59 0 [(0, .inr (.inl 44)), (1, .inr (.inl b)), (2, .inl (m 46 (x5).toNat))] [] m (fun r m' => hxn xs n yp_m58 89 [(0, .inr (.inl 44)), (1, .inr (.inl b)), (3, .inl x3), (4, .inl (gx_w (x4 + 1))), (5, .inl x5)] (hrs r ++ [.inl x4, .inr (.inl 51)]) m' Q))
    (h19 : (x5 < x3) → (x5 < 240) → ((m 45 (x5).toNat) ≠ 0) → ((m 45 (x5).toNat) = 1) → (64 ≤ x4) → Q (some (.inl 0)) m) : hxn xs (n + 1) yp_m58 10 [(0, .inr (.inl 44)), (1, .inr (.inl b)), (3, .inl x3), (4, .inl x4), (5, .inl x5)] [] m Q := by
  refine hx_blks (npc := 13) (L' := [(0, .inr (.inl 44)), (1, .inr (.inl b)), (3, .inl x3), (4, .inl x4), (5, .inl x5)]) (st' := [.inl x3, .inl x5]) (m' := m) ((10, .iload 5, 2, 0, 0, 0, 0), (0, 0, 0)) [((12, .iload_n 3, 1, 0, 0, 0, 0), (0, 0, 0))] (by decide +kernel) rfl ?_
  refine hx_cmp .ge 278 (by decide +kernel) (fun c1 => ?_) (fun c1 => ?_)
  · have c1 : x3 ≤ x5 := c1
    refine hx_blk (npc := 280) (L' := [(0, .inr (.inl 44)), (1, .inr (.inl b)), (3, .inl x3), (4, .inl x4), (5, .inl x5)]) (st' := [.inl x4]) (m' := m) [((278, .iload 4, 2, 0, 0, 0, 0), (0, 0, 0))] (by decide +kernel) rfl ?_
    refine hx_if .le 295 (by decide +kernel) (fun c2 => ?_) (fun c2 => ?_)
    · have c2 : x4 ≤ 0 := c2
      refine hx_blk (npc := 296) (L' := [(0, .inr (.inl 44)), (1, .inr (.inl b)), (3, .inl x3), (4, .inl x4), (5, .inl x5)]) (st' := [.inl 0]) (m' := m) [((295, .iconst 0, 1, 0, 0, 0, 0), (0, 0, 0))] (by decide +kernel) rfl ?_
      exact hx_reti (by decide +kernel) (h1 c1 c2)
    · have c2 : 0 < x4 := by have h : ¬ (x4 ≤ 0) := c2; omega
      refine hx_blk (npc := 296) (L' := [(0, .inr (.inl 44)), (1, .inr (.inl b)), (3, .inl x3), (4, .inl x4), (5, .inl x5)]) (st' := [.inl (m 51 (gx_w (x4 - 1)).toNat)]) (m' := m) [((283, .aload_n 0, 1, 0, 0, 0, 0), (0, 0, 0)), ((284, .getfield 30, 3, 3, 8, 1189, 0), (1, 44, 51)), ((287, .iload 4, 2, 0, 0, 0, 0), (0, 0, 0)), ((289, .iconst 1, 1, 0, 0, 0, 0), (0, 0, 0)), ((290, .isub, 1, 0, 0, 0, 0), (0, 0, 0)), ((291, .iaload, 1, 0, 0, 0, 0), (0, 51, 0)), ((292, .goto 4, 3, 0, 0, 0, 0), (0, 0, 0))] (by decide +kernel) rfl ?_
      exact hx_reti (by decide +kernel) (h2 c1 c2)
  · have c1 : x5 < x3 := by have h : ¬ (x3 ≤ x5) := c1; omega
    refine hx_blk (npc := 21) (L' := [(0, .inr (.inl 44)), (1, .inr (.inl b)), (3, .inl x3), (4, .inl x4), (5, .inl x5)]) (st' := [.inl 240, .inl x5]) (m' := m) [((16, .iload 5, 2, 0, 0, 0, 0), (0, 0, 0)), ((18, .sipush 240, 3, 0, 0, 0, 0), (0, 0, 0))] (by decide +kernel) rfl ?_
    refine hx_cmp .ge 278 (by decide +kernel) (fun c2 => ?_) (fun c2 => ?_)
    · have c2 : 240 ≤ x5 := c2
      refine hx_blk (npc := 280) (L' := [(0, .inr (.inl 44)), (1, .inr (.inl b)), (3, .inl x3), (4, .inl x4), (5, .inl x5)]) (st' := [.inl x4]) (m' := m) [((278, .iload 4, 2, 0, 0, 0, 0), (0, 0, 0))] (by decide +kernel) rfl ?_
      refine hx_if .le 295 (by decide +kernel) (fun c3 => ?_) (fun c3 => ?_)
      · have c3 : x4 ≤ 0 := c3
        refine hx_blk (npc := 296) (L' := [(0, .inr (.inl 44)), (1, .inr (.inl b)), (3, .inl x3), (4, .inl x4), (5, .inl x5)]) (st' := [.inl 0]) (m' := m) [((295, .iconst 0, 1, 0, 0, 0, 0), (0, 0, 0))] (by decide +kernel) rfl ?_
        exact hx_reti (by decide +kernel) (h3 c1 c2 c3)
      · have c3 : 0 < x4 := by have h : ¬ (x4 ≤ 0) := c3; omega
        refine hx_blk (npc := 296) (L' := [(0, .inr (.inl 44)), (1, .inr (.inl b)), (3, .inl x3), (4, .inl x4), (5, .inl x5)]) (st' := [.inl (m 51 (gx_w (x4 - 1)).toNat)]) (m' := m) [((283, .aload_n 0, 1, 0, 0, 0, 0), (0, 0, 0)), ((284, .getfield 30, 3, 3, 8, 1189, 0), (1, 44, 51)), ((287, .iload 4, 2, 0, 0, 0, 0), (0, 0, 0)), ((289, .iconst 1, 1, 0, 0, 0, 0), (0, 0, 0)), ((290, .isub, 1, 0, 0, 0, 0), (0, 0, 0)), ((291, .iaload, 1, 0, 0, 0, 0), (0, 51, 0)), ((292, .goto 4, 3, 0, 0, 0, 0), (0, 0, 0))] (by decide +kernel) rfl ?_
        exact hx_reti (by decide +kernel) (h4 c1 c2 c3)
    · have c2 : x5 < 240 := by have h : ¬ (240 ≤ x5) := c2; omega
      refine hx_blk (npc := 35) (L' := [(0, .inr (.inl 44)), (1, .inr (.inl b)), (3, .inl x3), (4, .inl x4), (5, .inl x5), (6, .inl (m 45 (x5).toNat))]) (st' := [.inl (m 45 (x5).toNat)]) (m' := m) [((24, .aload_n 0, 1, 0, 0, 0, 0), (0, 0, 0)), ((25, .getfield 9, 3, 3, 0, 1178, 0), (1, 44, 45)), ((28, .iload 5, 2, 0, 0, 0, 0), (0, 0, 0)), ((30, .iaload, 1, 0, 0, 0, 0), (0, 45, 0)), ((31, .istore 6, 2, 0, 0, 0, 0), (0, 0, 0)), ((33, .iload 6, 2, 0, 0, 0, 0), (0, 0, 0))] (by decide +kernel) rfl ?_
      refine hx_if .eq 44 (by decide +kernel) (fun c3 => ?_) (fun c3 => ?_)
      · have c3 : (m 45 (x5).toNat) = 0 := c3
        refine hx_blk (npc := 48) (L' := [(0, .inr (.inl 44)), (1, .inr (.inl b)), (3, .inl x3), (4, .inl x4), (5, .inl x5), (6, .inl (m 45 (x5).toNat))]) (st' := [.inl 64, .inl x4]) (m' := m) [((44, .iload 4, 2, 0, 0, 0, 0), (0, 0, 0)), ((46, .bipush 64, 2, 0, 0, 0, 0), (0, 0, 0))] (by decide +kernel) rfl ?_
        refine hx_cmp .lt 53 (by decide +kernel) (fun c4 => ?_) (fun c4 => ?_)
        · have c4 : x4 < 64 := c4
          refine hx_blk (npc := 64) (L' := [(0, .inr (.inl 44)), (1, .inr (.inl b)), (3, .inl x3), (4, .inl (gx_w (x4 + 1))), (5, .inl x5), (6, .inl (m 45 (x5).toNat))]) (st' := [.inl (m 45 (x5).toNat), .inl x4, .inr (.inl 51)]) (m' := m) [((53, .aload_n 0, 1, 0, 0, 0, 0), (0, 0, 0)), ((54, .getfield 30, 3, 3, 8, 1189, 0), (1, 44, 51)), ((57, .iload 4, 2, 0, 0, 0, 0), (0, 0, 0)), ((59, .iinc 4 1, 3, 0, 0, 0, 0), (0, 0, 0)), ((62, .iload 6, 2, 0, 0, 0, 0), (0, 0, 0))] (by decide +kernel) rfl ?_
          refine hx_if .ne 77 (by decide +kernel) (fun c5 => ?_) (fun c5 => ?_)
          · have c5 : (m 45 (x5).toNat) ≠ 0 := c5
            exfalso; omega
          · have c5 : (m 45 (x5).toNat) = 0 := by have h : ¬ ((m 45 (x5).toNat) ≠ 0) := c5; omega
            refine hx_blk (npc := 10) (L' := [(0, .inr (.inl 44)), (1, .inr (.inl b)), (3, .inl x3), (4, .inl (gx_w (x4 + 1))), (5, .inl (gx_w (x5 + 1))), (6, .inl (m 45 (x5).toNat))]) (st' := []) (m' := (gx_u m 51 (x4).toNat (m 46 (x5).toNat))) [((67, .aload_n 0, 1, 0, 0, 0, 0), (0, 0, 0)), ((68, .getfield 15, 3, 3, 1, 1179, 0), (1, 44, 46)), ((71, .iload 5, 2, 0, 0, 0, 0), (0, 0, 0)), ((73, .iaload, 1, 0, 0, 0, 0), (0, 46, 0)), ((74, .goto 15, 3, 0, 0, 0, 0), (0, 0, 0)), ((89, .iastore, 1, 0, 0, 0, 0), (0, 51, 0)), ((90, .goto 182, 3, 0, 0, 0, 0), (0, 0, 0)), ((272, .iinc 5 1, 3, 0, 0, 0, 0), (0, 0, 0)), ((275, .goto (-265), 3, 0, 0, 0, 0), (0, 0, 0))] (by decide +kernel) rfl ?_
            exact hx_pick [0, 1, 3, 4, 5] (h5 c1 c2 c3 c4 c5)
        · have c4 : 64 ≤ x4 := by have h : ¬ (x4 < 64) := c4; omega
          refine hx_blk (npc := 52) (L' := [(0, .inr (.inl 44)), (1, .inr (.inl b)), (3, .inl x3), (4, .inl x4), (5, .inl x5), (6, .inl (m 45 (x5).toNat))]) (st' := [.inl 0]) (m' := m) [((51, .iconst 0, 1, 0, 0, 0, 0), (0, 0, 0))] (by decide +kernel) rfl ?_
          exact hx_reti (by decide +kernel) (h6 c1 c2 c3 c4)
      · have c3 : (m 45 (x5).toNat) ≠ 0 := c3
        refine hx_blk (npc := 41) (L' := [(0, .inr (.inl 44)), (1, .inr (.inl b)), (3, .inl x3), (4, .inl x4), (5, .inl x5), (6, .inl (m 45 (x5).toNat))]) (st' := [.inl 1, .inl (m 45 (x5).toNat)]) (m' := m) [((38, .iload 6, 2, 0, 0, 0, 0), (0, 0, 0)), ((40, .iconst 1, 1, 0, 0, 0, 0), (0, 0, 0))] (by decide +kernel) rfl ?_
        refine hx_cmp .ne 93 (by decide +kernel) (fun c4 => ?_) (fun c4 => ?_)
        · have c4 : (m 45 (x5).toNat) ≠ 1 := c4
          refine hx_blk (npc := 97) (L' := [(0, .inr (.inl 44)), (1, .inr (.inl b)), (3, .inl x3), (4, .inl x4), (5, .inl x5), (6, .inl (m 45 (x5).toNat))]) (st' := [.inl 38, .inl (m 45 (x5).toNat)]) (m' := m) [((93, .iload 6, 2, 0, 0, 0, 0), (0, 0, 0)), ((95, .bipush 38, 2, 0, 0, 0, 0), (0, 0, 0))] (by decide +kernel) rfl ?_
          refine hx_cmp .eq 107 (by decide +kernel) (fun c5 => ?_) (fun c5 => ?_)
          · have c5 : (m 45 (x5).toNat) = 38 := c5
            refine hx_blk (npc := 110) (L' := [(0, .inr (.inl 44)), (1, .inr (.inl b)), (3, .inl x3), (4, .inl x4), (5, .inl x5), (6, .inl (m 45 (x5).toNat))]) (st' := [.inl 1, .inl x4]) (m' := m) [((107, .iload 4, 2, 0, 0, 0, 0), (0, 0, 0)), ((109, .iconst 1, 1, 0, 0, 0, 0), (0, 0, 0))] (by decide +kernel) rfl ?_
            refine hx_cmp .ge 115 (by decide +kernel) (fun c6 => ?_) (fun c6 => ?_)
            · have c6 : 1 ≤ x4 := c6
              refine hx_blk (npc := 124) (L' := [(0, .inr (.inl 44)), (1, .inr (.inl b)), (3, .inl x3), (4, .inl x4), (5, .inl x5), (6, .inl (m 45 (x5).toNat))]) (st' := [.inl (m 51 (gx_w (x4 - 1)).toNat)]) (m' := m) [((115, .aload_n 0, 1, 0, 0, 0, 0), (0, 0, 0)), ((116, .getfield 30, 3, 3, 8, 1189, 0), (1, 44, 51)), ((119, .iload 4, 2, 0, 0, 0, 0), (0, 0, 0)), ((121, .iconst 1, 1, 0, 0, 0, 0), (0, 0, 0)), ((122, .isub, 1, 0, 0, 0, 0), (0, 0, 0)), ((123, .iaload, 1, 0, 0, 0, 0), (0, 51, 0))] (by decide +kernel) rfl ?_
              refine hx_if .eq 131 (by decide +kernel) (fun c7 => ?_) (fun c7 => ?_)
              · have c7 : (m 51 (gx_w (x4 - 1)).toNat) = 0 := c7
                refine hx_blk (npc := 140) (L' := [(0, .inr (.inl 44)), (1, .inr (.inl b)), (3, .inl x3), (4, .inl x4), (5, .inl x5), (6, .inl (m 45 (x5).toNat)), (7, .inl 0)]) (st' := [.inl 124, .inl (m 45 (x5).toNat), .inl 0]) (m' := m) [((131, .iconst 0, 1, 0, 0, 0, 0), (0, 0, 0)), ((132, .istore 7, 2, 0, 0, 0, 0), (0, 0, 0)), ((134, .iload 7, 2, 0, 0, 0, 0), (0, 0, 0)), ((136, .iload 6, 2, 0, 0, 0, 0), (0, 0, 0)), ((138, .bipush 124, 2, 0, 0, 0, 0), (0, 0, 0))] (by decide +kernel) rfl ?_
                refine hx_cmp .ne 147 (by decide +kernel) (fun c8 => ?_) (fun c8 => ?_)
                · have c8 : (m 45 (x5).toNat) ≠ 124 := c8
                  refine hx_blk (npc := 148) (L' := [(0, .inr (.inl 44)), (1, .inr (.inl b)), (3, .inl x3), (4, .inl x4), (5, .inl x5), (6, .inl (m 45 (x5).toNat)), (7, .inl 0)]) (st' := [.inl 0, .inl 0]) (m' := m) [((147, .iconst 0, 1, 0, 0, 0, 0), (0, 0, 0))] (by decide +kernel) rfl ?_
                  refine hx_cmp .ne 170 (by decide +kernel) (fun c9 => ?_) (fun c9 => ?_)
                  · have c9 : (0 : Int) ≠ 0 := c9
                    exfalso; omega
                  · have c9 : (0 : Int) = 0 := by have h : ¬ ((0 : Int) ≠ 0) := c9; omega
                    refine hx_blk (npc := 10) (L' := [(0, .inr (.inl 44)), (1, .inr (.inl b)), (3, .inl x3), (4, .inl x4), (5, .inl (gx_w ((if x5 < (gx_w ((m 46 (x5).toNat) - 1)) then (gx_w ((m 46 (x5).toNat) - 1)) else x5) + 1))), (6, .inl (m 45 (x5).toNat)), (7, .inl 0)]) (st' := []) (m' := m) [((151, .iload 5, 2, 0, 0, 0, 0), (0, 0, 0)), ((153, .aload_n 0, 1, 0, 0, 0, 0), (0, 0, 0)), ((154, .getfield 15, 3, 3, 1, 1179, 0), (1, 44, 46)), ((157, .iload 5, 2, 0, 0, 0, 0), (0, 0, 0)), ((159, .iaload, 1, 0, 0, 0, 0), (0, 46, 0)), ((160, .iconst 1, 1, 0, 0, 0, 0), (0, 0, 0)), ((161, .isub, 1, 0, 0, 0, 0), (0, 0, 0)), ((162, .invokestatic 68, 3, 1002, 2224, 3135, 1013002225), (0, 0, 0)), ((165, .istore 5, 2, 0, 0, 0, 0), (0, 0, 0)), ((167, .goto 6, 3, 0, 0, 0, 0), (0, 0, 0)), ((173, .goto 99, 3, 0, 0, 0, 0), (0, 0, 0)), ((272, .iinc 5 1, 3, 0, 0, 0, 0), (0, 0, 0)), ((275, .goto (-265), 3, 0, 0, 0, 0), (0, 0, 0))] (by decide +kernel) rfl ?_
                    exact hx_pick [0, 1, 3, 4, 5] (h7 c1 c2 c3 c4 c5 c6 c7 c8)
                · have c8 : (m 45 (x5).toNat) = 124 := by have h : ¬ ((m 45 (x5).toNat) ≠ 124) := c8; omega
                  exfalso; omega
              · have c7 : (m 51 (gx_w (x4 - 1)).toNat) ≠ 0 := c7
                refine hx_blk (npc := 140) (L' := [(0, .inr (.inl 44)), (1, .inr (.inl b)), (3, .inl x3), (4, .inl x4), (5, .inl x5), (6, .inl (m 45 (x5).toNat)), (7, .inl 1)]) (st' := [.inl 124, .inl (m 45 (x5).toNat), .inl 1]) (m' := m) [((127, .iconst 1, 1, 0, 0, 0, 0), (0, 0, 0)), ((128, .goto 4, 3, 0, 0, 0, 0), (0, 0, 0)), ((132, .istore 7, 2, 0, 0, 0, 0), (0, 0, 0)), ((134, .iload 7, 2, 0, 0, 0, 0), (0, 0, 0)), ((136, .iload 6, 2, 0, 0, 0, 0), (0, 0, 0)), ((138, .bipush 124, 2, 0, 0, 0, 0), (0, 0, 0))] (by decide +kernel) rfl ?_
                refine hx_cmp .ne 147 (by decide +kernel) (fun c8 => ?_) (fun c8 => ?_)
                · have c8 : (m 45 (x5).toNat) ≠ 124 := c8
                  refine hx_blk (npc := 148) (L' := [(0, .inr (.inl 44)), (1, .inr (.inl b)), (3, .inl x3), (4, .inl x4), (5, .inl x5), (6, .inl (m 45 (x5).toNat)), (7, .inl 1)]) (st' := [.inl 0, .inl 1]) (m' := m) [((147, .iconst 0, 1, 0, 0, 0, 0), (0, 0, 0))] (by decide +kernel) rfl ?_
                  refine hx_cmp .ne 170 (by decide +kernel) (fun c9 => ?_) (fun c9 => ?_)
                  · have c9 : (1 : Int) ≠ 0 := c9
                    refine hx_blk (npc := 10) (L' := [(0, .inr (.inl 44)), (1, .inr (.inl b)), (3, .inl x3), (4, .inl (gx_w (x4 + (-1)))), (5, .inl (gx_w (x5 + 1))), (6, .inl (m 45 (x5).toNat)), (7, .inl 1)]) (st' := []) (m' := m) [((170, .iinc 4 (-1), 3, 0, 0, 0, 0), (0, 0, 0)), ((173, .goto 99, 3, 0, 0, 0, 0), (0, 0, 0)), ((272, .iinc 5 1, 3, 0, 0, 0, 0), (0, 0, 0)), ((275, .goto (-265), 3, 0, 0, 0, 0), (0, 0, 0))] (by decide +kernel) rfl ?_
                    exact hx_pick [0, 1, 3, 4, 5] (h8 c1 c2 c3 c4 c5 c6 c7 c8)
                  · have c9 : (1 : Int) = 0 := by have h : ¬ ((1 : Int) ≠ 0) := c9; omega
                    exfalso; omega
                · have c8 : (m 45 (x5).toNat) = 124 := by have h : ¬ ((m 45 (x5).toNat) ≠ 124) := c8; omega
                  exfalso; omega
            · have c6 : x4 < 1 := by have h : ¬ (1 ≤ x4) := c6; omega
              refine hx_blk (npc := 114) (L' := [(0, .inr (.inl 44)), (1, .inr (.inl b)), (3, .inl x3), (4, .inl x4), (5, .inl x5), (6, .inl (m 45 (x5).toNat))]) (st' := [.inl 0]) (m' := m) [((113, .iconst 0, 1, 0, 0, 0, 0), (0, 0, 0))] (by decide +kernel) rfl ?_
              exact hx_reti (by decide +kernel) (h9 c1 c2 c3 c4 c5 c6)
          · have c5 : (m 45 (x5).toNat) ≠ 38 := c5
            refine hx_blk (npc := 104) (L' := [(0, .inr (.inl 44)), (1, .inr (.inl b)), (3, .inl x3), (4, .inl x4), (5, .inl x5), (6, .inl (m 45 (x5).toNat))]) (st' := [.inl 124, .inl (m 45 (x5).toNat)]) (m' := m) [((100, .iload 6, 2, 0, 0, 0, 0), (0, 0, 0)), ((102, .bipush 124, 2, 0, 0, 0, 0), (0, 0, 0))] (by decide +kernel) rfl ?_
            refine hx_cmp .ne 176 (by decide +kernel) (fun c6 => ?_) (fun c6 => ?_)
            · have c6 : (m 45 (x5).toNat) ≠ 124 := c6
              refine hx_blk (npc := 180) (L' := [(0, .inr (.inl 44)), (1, .inr (.inl b)), (3, .inl x3), (4, .inl x4), (5, .inl x5), (6, .inl (m 45 (x5).toNat))]) (st' := [.inl 33, .inl (m 45 (x5).toNat)]) (m' := m) [((176, .iload 6, 2, 0, 0, 0, 0), (0, 0, 0)), ((178, .bipush 33, 2, 0, 0, 0, 0), (0, 0, 0))] (by decide +kernel) rfl ?_
              refine hx_cmp .ne 214 (by decide +kernel) (fun c7 => ?_) (fun c7 => ?_)
              · have c7 : (m 45 (x5).toNat) ≠ 33 := c7
                refine hx_blk (npc := 217) (L' := [(0, .inr (.inl 44)), (1, .inr (.inl b)), (3, .inl x3), (4, .inl x4), (5, .inl x5), (6, .inl (m 45 (x5).toNat))]) (st' := [.inl 2, .inl x4]) (m' := m) [((214, .iload 4, 2, 0, 0, 0, 0), (0, 0, 0)), ((216, .iconst 2, 1, 0, 0, 0, 0), (0, 0, 0))] (by decide +kernel) rfl ?_
                refine hx_cmp .lt 237 (by decide +kernel) (fun c8 => ?_) (fun c8 => ?_)
                · have c8 : x4 < 2 := c8
                  refine hx_blk (npc := 238) (L' := [(0, .inr (.inl 44)), (1, .inr (.inl b)), (3, .inl x3), (4, .inl x4), (5, .inl x5), (6, .inl (m 45 (x5).toNat))]) (st' := [.inl 0]) (m' := m) [((237, .iconst 0, 1, 0, 0, 0, 0), (0, 0, 0))] (by decide +kernel) rfl ?_
                  exact hx_reti (by decide +kernel) (h10 c1 c2 c3 c4 c5 c6 c7 c8)
                · have c8 : 2 ≤ x4 := by have h : ¬ (x4 < 2) := c8; omega
                  refine hx_blk (npc := 231) (L' := [(0, .inr (.inl 44)), (1, .inr (.inl b)), (3, .inl x3), (4, .inl x4), (5, .inl x5), (6, .inl (m 45 (x5).toNat))]) (st' := [.inl (m 51 (gx_w (x4 - 1)).toNat), .inl (m 45 (x5).toNat)]) (m' := m) [((220, .iload 6, 2, 0, 0, 0, 0), (0, 0, 0)), ((222, .aload_n 0, 1, 0, 0, 0, 0), (0, 0, 0)), ((223, .getfield 30, 3, 3, 8, 1189, 0), (1, 44, 51)), ((226, .iload 4, 2, 0, 0, 0, 0), (0, 0, 0)), ((228, .iconst 1, 1, 0, 0, 0, 0), (0, 0, 0)), ((229, .isub, 1, 0, 0, 0, 0), (0, 0, 0)), ((230, .iaload, 1, 0, 0, 0, 0), (0, 51, 0))] (by decide +kernel) rfl ?_
                  refine hx_call (E := (231, .invokestatic 83, 3, 65, 0, 3165, 0)) (M' := yp_m65) [.inl (m 45 (x5).toNat), .inl (m 51 (gx_w (x4 - 1)).toNat)] [] rfl (by decide +kernel) rfl ⟨rfl, rfl⟩ rfl rfl (hs65 (fun c9 => ?_) (fun c9 => ?_))
                  · have c9 : rfd (m 45 (x5).toNat) (m 51 (gx_w (x4 - 1)).toNat) := c9
                    show hxn xs n yp_m58 234 [(0, .inr (.inl 44)), (1, .inr (.inl b)), (3, .inl x3), (4, .inl x4), (5, .inl x5), (6, .inl (m 45 (x5).toNat))] [.inl 1] m Q
                    refine hx_if .eq 239 (by decide +kernel) (fun c10 => ?_) (fun c10 => ?_)
                    · have c10 : (1 : Int) = 0 := c10
                      exfalso; omega
                    · have c10 : (1 : Int) ≠ 0 := c10
                      refine hx_blk (npc := 238) (L' := [(0, .inr (.inl 44)), (1, .inr (.inl b)), (3, .inl x3), (4, .inl x4), (5, .inl x5), (6, .inl (m 45 (x5).toNat))]) (st' := [.inl 0]) (m' := m) [((237, .iconst 0, 1, 0, 0, 0, 0), (0, 0, 0))] (by decide +kernel) rfl ?_
                      exact hx_reti (by decide +kernel) (h11 c1 c2 c3 c4 c5 c6 c7 c8 c9)
                  · have c9 : ¬ (rfd (m 45 (x5).toNat) (m 51 (gx_w (x4 - 1)).toNat)) := c9
                    show hxn xs n yp_m58 234 [(0, .inr (.inl 44)), (1, .inr (.inl b)), (3, .inl x3), (4, .inl x4), (5, .inl x5), (6, .inl (m 45 (x5).toNat))] [.inl 0] m Q
                    refine hx_if .eq 239 (by decide +kernel) (fun c10 => ?_) (fun c10 => ?_)
                    · have c10 : (0 : Int) = 0 := c10
                      refine hx_blk (npc := 268) (L' := [(0, .inr (.inl 44)), (1, .inr (.inl b)), (3, .inl x3), (4, .inl (gx_w (x4 + (-1)))), (5, .inl x5), (6, .inl (m 45 (x5).toNat))]) (st' := [.inl (m 51 (gx_w (x4 + (-1))).toNat), .inl (m 51 (gx_w ((gx_w (x4 + (-1))) - 1)).toNat), .inl (m 45 (x5).toNat), .inl (gx_w ((gx_w (x4 + (-1))) - 1)), .inr (.inl 51)]) (m' := m) [((239, .iinc 4 (-1), 3, 0, 0, 0, 0), (0, 0, 0)), ((242, .aload_n 0, 1, 0, 0, 0, 0), (0, 0, 0)), ((243, .getfield 30, 3, 3, 8, 1189, 0), (1, 44, 51)), ((246, .iload 4, 2, 0, 0, 0, 0), (0, 0, 0)), ((248, .iconst 1, 1, 0, 0, 0, 0), (0, 0, 0)), ((249, .isub, 1, 0, 0, 0, 0), (0, 0, 0)), ((250, .iload 6, 2, 0, 0, 0, 0), (0, 0, 0)), ((252, .aload_n 0, 1, 0, 0, 0, 0), (0, 0, 0)), ((253, .getfield 30, 3, 3, 8, 1189, 0), (1, 44, 51)), ((256, .iload 4, 2, 0, 0, 0, 0), (0, 0, 0)), ((258, .iconst 1, 1, 0, 0, 0, 0), (0, 0, 0)), ((259, .isub, 1, 0, 0, 0, 0), (0, 0, 0)), ((260, .iaload, 1, 0, 0, 0, 0), (0, 51, 0)), ((261, .aload_n 0, 1, 0, 0, 0, 0), (0, 0, 0)), ((262, .getfield 30, 3, 3, 8, 1189, 0), (1, 44, 51)), ((265, .iload 4, 2, 0, 0, 0, 0), (0, 0, 0)), ((267, .iaload, 1, 0, 0, 0, 0), (0, 51, 0))] (by decide +kernel) rfl ?_
                      refine hx_call (E := (268, .invokestatic 87, 3, 66, 0, 3168, 0)) (M' := yp_m66) [.inl (m 45 (x5).toNat), .inl (m 51 (gx_w ((gx_w (x4 + (-1))) - 1)).toNat), .inl (m 51 (gx_w (x4 + (-1))).toNat)] [.inl (gx_w ((gx_w (x4 + (-1))) - 1)), .inr (.inl 51)] rfl (by decide +kernel) rfl ⟨rfl, rfl⟩ rfl rfl (hs66 ?_)
                      show hxn xs n yp_m58 271 [(0, .inr (.inl 44)), (1, .inr (.inl b)), (3, .inl x3), (4, .inl (gx_w (x4 + (-1)))), (5, .inl x5), (6, .inl (m 45 (x5).toNat))] [.inl (lre (m 45 (x5).toNat) (m 51 (gx_w ((gx_w (x4 + (-1))) - 1)).toNat) (m 51 (gx_w (x4 + (-1))).toNat)), .inl (gx_w ((gx_w (x4 + (-1))) - 1)), .inr (.inl 51)] m Q
                      refine hx_blk (npc := 10) (L' := [(0, .inr (.inl 44)), (1, .inr (.inl b)), (3, .inl x3), (4, .inl (gx_w (x4 + (-1)))), (5, .inl (gx_w (x5 + 1))), (6, .inl (m 45 (x5).toNat))]) (st' := []) (m' := (gx_u m 51 (gx_w ((gx_w (x4 + (-1))) - 1)).toNat (lre (m 45 (x5).toNat) (m 51 (gx_w ((gx_w (x4 + (-1))) - 1)).toNat) (m 51 (gx_w (x4 + (-1))).toNat)))) [((271, .iastore, 1, 0, 0, 0, 0), (0, 51, 0)), ((272, .iinc 5 1, 3, 0, 0, 0, 0), (0, 0, 0)), ((275, .goto (-265), 3, 0, 0, 0, 0), (0, 0, 0))] (by decide +kernel) rfl ?_
                      exact hx_pick [0, 1, 3, 4, 5] (h12 c1 c2 c3 c4 c5 c6 c7 c8 c9)
                    · have c10 : (0 : Int) ≠ 0 := c10
                      exfalso; omega
              · have c7 : (m 45 (x5).toNat) = 33 := by have h : ¬ ((m 45 (x5).toNat) ≠ 33) := c7; omega
                refine hx_blk (npc := 186) (L' := [(0, .inr (.inl 44)), (1, .inr (.inl b)), (3, .inl x3), (4, .inl x4), (5, .inl x5), (6, .inl (m 45 (x5).toNat))]) (st' := [.inl 1, .inl x4]) (m' := m) [((183, .iload 4, 2, 0, 0, 0, 0), (0, 0, 0)), ((185, .iconst 1, 1, 0, 0, 0, 0), (0, 0, 0))] (by decide +kernel) rfl ?_
                refine hx_cmp .ge 191 (by decide +kernel) (fun c8 => ?_) (fun c8 => ?_)
                · have c8 : 1 ≤ x4 := c8
                  refine hx_blk (npc := 10) (L' := [(0, .inr (.inl 44)), (1, .inr (.inl b)), (3, .inl x3), (4, .inl x4), (5, .inl (gx_w (x5 + 1))), (6, .inl (m 45 (x5).toNat))]) (st' := []) (m' := (gx_u m 51 (gx_w (x4 - 1)).toNat (gx_w (1 - (m 51 (gx_w (x4 - 1)).toNat))))) [((191, .aload_n 0, 1, 0, 0, 0, 0), (0, 0, 0)), ((192, .getfield 30, 3, 3, 8, 1189, 0), (1, 44, 51)), ((195, .iload 4, 2, 0, 0, 0, 0), (0, 0, 0)), ((197, .iconst 1, 1, 0, 0, 0, 0), (0, 0, 0)), ((198, .isub, 1, 0, 0, 0, 0), (0, 0, 0)), ((199, .iconst 1, 1, 0, 0, 0, 0), (0, 0, 0)), ((200, .aload_n 0, 1, 0, 0, 0, 0), (0, 0, 0)), ((201, .getfield 30, 3, 3, 8, 1189, 0), (1, 44, 51)), ((204, .iload 4, 2, 0, 0, 0, 0), (0, 0, 0)), ((206, .iconst 1, 1, 0, 0, 0, 0), (0, 0, 0)), ((207, .isub, 1, 0, 0, 0, 0), (0, 0, 0)), ((208, .iaload, 1, 0, 0, 0, 0), (0, 51, 0)), ((209, .isub, 1, 0, 0, 0, 0), (0, 0, 0)), ((210, .iastore, 1, 0, 0, 0, 0), (0, 51, 0)), ((211, .goto 61, 3, 0, 0, 0, 0), (0, 0, 0)), ((272, .iinc 5 1, 3, 0, 0, 0, 0), (0, 0, 0)), ((275, .goto (-265), 3, 0, 0, 0, 0), (0, 0, 0))] (by decide +kernel) rfl ?_
                  exact hx_pick [0, 1, 3, 4, 5] (h13 c1 c2 c3 c4 c5 c6 c7 c8)
                · have c8 : x4 < 1 := by have h : ¬ (1 ≤ x4) := c8; omega
                  refine hx_blk (npc := 190) (L' := [(0, .inr (.inl 44)), (1, .inr (.inl b)), (3, .inl x3), (4, .inl x4), (5, .inl x5), (6, .inl (m 45 (x5).toNat))]) (st' := [.inl 0]) (m' := m) [((189, .iconst 0, 1, 0, 0, 0, 0), (0, 0, 0))] (by decide +kernel) rfl ?_
                  exact hx_reti (by decide +kernel) (h14 c1 c2 c3 c4 c5 c6 c7 c8)
            · have c6 : (m 45 (x5).toNat) = 124 := by have h : ¬ ((m 45 (x5).toNat) ≠ 124) := c6; omega
              refine hx_blk (npc := 110) (L' := [(0, .inr (.inl 44)), (1, .inr (.inl b)), (3, .inl x3), (4, .inl x4), (5, .inl x5), (6, .inl (m 45 (x5).toNat))]) (st' := [.inl 1, .inl x4]) (m' := m) [((107, .iload 4, 2, 0, 0, 0, 0), (0, 0, 0)), ((109, .iconst 1, 1, 0, 0, 0, 0), (0, 0, 0))] (by decide +kernel) rfl ?_
              refine hx_cmp .ge 115 (by decide +kernel) (fun c7 => ?_) (fun c7 => ?_)
              · have c7 : 1 ≤ x4 := c7
                refine hx_blk (npc := 124) (L' := [(0, .inr (.inl 44)), (1, .inr (.inl b)), (3, .inl x3), (4, .inl x4), (5, .inl x5), (6, .inl (m 45 (x5).toNat))]) (st' := [.inl (m 51 (gx_w (x4 - 1)).toNat)]) (m' := m) [((115, .aload_n 0, 1, 0, 0, 0, 0), (0, 0, 0)), ((116, .getfield 30, 3, 3, 8, 1189, 0), (1, 44, 51)), ((119, .iload 4, 2, 0, 0, 0, 0), (0, 0, 0)), ((121, .iconst 1, 1, 0, 0, 0, 0), (0, 0, 0)), ((122, .isub, 1, 0, 0, 0, 0), (0, 0, 0)), ((123, .iaload, 1, 0, 0, 0, 0), (0, 51, 0))] (by decide +kernel) rfl ?_
                refine hx_if .eq 131 (by decide +kernel) (fun c8 => ?_) (fun c8 => ?_)
                · have c8 : (m 51 (gx_w (x4 - 1)).toNat) = 0 := c8
                  refine hx_blk (npc := 140) (L' := [(0, .inr (.inl 44)), (1, .inr (.inl b)), (3, .inl x3), (4, .inl x4), (5, .inl x5), (6, .inl (m 45 (x5).toNat)), (7, .inl 0)]) (st' := [.inl 124, .inl (m 45 (x5).toNat), .inl 0]) (m' := m) [((131, .iconst 0, 1, 0, 0, 0, 0), (0, 0, 0)), ((132, .istore 7, 2, 0, 0, 0, 0), (0, 0, 0)), ((134, .iload 7, 2, 0, 0, 0, 0), (0, 0, 0)), ((136, .iload 6, 2, 0, 0, 0, 0), (0, 0, 0)), ((138, .bipush 124, 2, 0, 0, 0, 0), (0, 0, 0))] (by decide +kernel) rfl ?_
                  refine hx_cmp .ne 147 (by decide +kernel) (fun c9 => ?_) (fun c9 => ?_)
                  · have c9 : (m 45 (x5).toNat) ≠ 124 := c9
                    exfalso; omega
                  · have c9 : (m 45 (x5).toNat) = 124 := by have h : ¬ ((m 45 (x5).toNat) ≠ 124) := c9; omega
                    refine hx_blk (npc := 148) (L' := [(0, .inr (.inl 44)), (1, .inr (.inl b)), (3, .inl x3), (4, .inl x4), (5, .inl x5), (6, .inl (m 45 (x5).toNat)), (7, .inl 0)]) (st' := [.inl 1, .inl 0]) (m' := m) [((143, .iconst 1, 1, 0, 0, 0, 0), (0, 0, 0)), ((144, .goto 4, 3, 0, 0, 0, 0), (0, 0, 0))] (by decide +kernel) rfl ?_
                    refine hx_cmp .ne 170 (by decide +kernel) (fun c10 => ?_) (fun c10 => ?_)
                    · have c10 : (0 : Int) ≠ 1 := c10
                      refine hx_blk (npc := 10) (L' := [(0, .inr (.inl 44)), (1, .inr (.inl b)), (3, .inl x3), (4, .inl (gx_w (x4 + (-1)))), (5, .inl (gx_w (x5 + 1))), (6, .inl (m 45 (x5).toNat)), (7, .inl 0)]) (st' := []) (m' := m) [((170, .iinc 4 (-1), 3, 0, 0, 0, 0), (0, 0, 0)), ((173, .goto 99, 3, 0, 0, 0, 0), (0, 0, 0)), ((272, .iinc 5 1, 3, 0, 0, 0, 0), (0, 0, 0)), ((275, .goto (-265), 3, 0, 0, 0, 0), (0, 0, 0))] (by decide +kernel) rfl ?_
                      exact hx_pick [0, 1, 3, 4, 5] (h15 c1 c2 c3 c4 c5 c6 c7 c8 c9)
                    · have c10 : (0 : Int) = 1 := by have h : ¬ ((0 : Int) ≠ 1) := c10; omega
                      exfalso; omega
                · have c8 : (m 51 (gx_w (x4 - 1)).toNat) ≠ 0 := c8
                  refine hx_blk (npc := 140) (L' := [(0, .inr (.inl 44)), (1, .inr (.inl b)), (3, .inl x3), (4, .inl x4), (5, .inl x5), (6, .inl (m 45 (x5).toNat)), (7, .inl 1)]) (st' := [.inl 124, .inl (m 45 (x5).toNat), .inl 1]) (m' := m) [((127, .iconst 1, 1, 0, 0, 0, 0), (0, 0, 0)), ((128, .goto 4, 3, 0, 0, 0, 0), (0, 0, 0)), ((132, .istore 7, 2, 0, 0, 0, 0), (0, 0, 0)), ((134, .iload 7, 2, 0, 0, 0, 0), (0, 0, 0)), ((136, .iload 6, 2, 0, 0, 0, 0), (0, 0, 0)), ((138, .bipush 124, 2, 0, 0, 0, 0), (0, 0, 0))] (by decide +kernel) rfl ?_
                  refine hx_cmp .ne 147 (by decide +kernel) (fun c9 => ?_) (fun c9 => ?_)
                  · have c9 : (m 45 (x5).toNat) ≠ 124 := c9
                    exfalso; omega
                  · have c9 : (m 45 (x5).toNat) = 124 := by have h : ¬ ((m 45 (x5).toNat) ≠ 124) := c9; omega
                    refine hx_blk (npc := 148) (L' := [(0, .inr (.inl 44)), (1, .inr (.inl b)), (3, .inl x3), (4, .inl x4), (5, .inl x5), (6, .inl (m 45 (x5).toNat)), (7, .inl 1)]) (st' := [.inl 1, .inl 1]) (m' := m) [((143, .iconst 1, 1, 0, 0, 0, 0), (0, 0, 0)), ((144, .goto 4, 3, 0, 0, 0, 0), (0, 0, 0))] (by decide +kernel) rfl ?_
                    refine hx_cmp .ne 170 (by decide +kernel) (fun c10 => ?_) (fun c10 => ?_)
                    · have c10 : (1 : Int) ≠ 1 := c10
                      exfalso; omega
                    · have c10 : (1 : Int) = 1 := by have h : ¬ ((1 : Int) ≠ 1) := c10; omega
                      refine hx_blk (npc := 10) (L' := [(0, .inr (.inl 44)), (1, .inr (.inl b)), (3, .inl x3), (4, .inl x4), (5, .inl (gx_w ((if x5 < (gx_w ((m 46 (x5).toNat) - 1)) then (gx_w ((m 46 (x5).toNat) - 1)) else x5) + 1))), (6, .inl (m 45 (x5).toNat)), (7, .inl 1)]) (st' := []) (m' := m) [((151, .iload 5, 2, 0, 0, 0, 0), (0, 0, 0)), ((153, .aload_n 0, 1, 0, 0, 0, 0), (0, 0, 0)), ((154, .getfield 15, 3, 3, 1, 1179, 0), (1, 44, 46)), ((157, .iload 5, 2, 0, 0, 0, 0), (0, 0, 0)), ((159, .iaload, 1, 0, 0, 0, 0), (0, 46, 0)), ((160, .iconst 1, 1, 0, 0, 0, 0), (0, 0, 0)), ((161, .isub, 1, 0, 0, 0, 0), (0, 0, 0)), ((162, .invokestatic 68, 3, 1002, 2224, 3135, 1013002225), (0, 0, 0)), ((165, .istore 5, 2, 0, 0, 0, 0), (0, 0, 0)), ((167, .goto 6, 3, 0, 0, 0, 0), (0, 0, 0)), ((173, .goto 99, 3, 0, 0, 0, 0), (0, 0, 0)), ((272, .iinc 5 1, 3, 0, 0, 0, 0), (0, 0, 0)), ((275, .goto (-265), 3, 0, 0, 0, 0), (0, 0, 0))] (by decide +kernel) rfl ?_
                      exact hx_pick [0, 1, 3, 4, 5] (h16 c1 c2 c3 c4 c5 c6 c7 c8 c9)
              · have c7 : x4 < 1 := by have h : ¬ (1 ≤ x4) := c7; omega
                refine hx_blk (npc := 114) (L' := [(0, .inr (.inl 44)), (1, .inr (.inl b)), (3, .inl x3), (4, .inl x4), (5, .inl x5), (6, .inl (m 45 (x5).toNat))]) (st' := [.inl 0]) (m' := m) [((113, .iconst 0, 1, 0, 0, 0, 0), (0, 0, 0))] (by decide +kernel) rfl ?_
                exact hx_reti (by decide +kernel) (h17 c1 c2 c3 c4 c5 c6 c7)
        · have c4 : (m 45 (x5).toNat) = 1 := by have h : ¬ ((m 45 (x5).toNat) ≠ 1) := c4; omega
          refine hx_blk (npc := 48) (L' := [(0, .inr (.inl 44)), (1, .inr (.inl b)), (3, .inl x3), (4, .inl x4), (5, .inl x5), (6, .inl (m 45 (x5).toNat))]) (st' := [.inl 64, .inl x4]) (m' := m) [((44, .iload 4, 2, 0, 0, 0, 0), (0, 0, 0)), ((46, .bipush 64, 2, 0, 0, 0, 0), (0, 0, 0))] (by decide +kernel) rfl ?_
          refine hx_cmp .lt 53 (by decide +kernel) (fun c5 => ?_) (fun c5 => ?_)
          · have c5 : x4 < 64 := c5
            refine hx_blk (npc := 64) (L' := [(0, .inr (.inl 44)), (1, .inr (.inl b)), (3, .inl x3), (4, .inl (gx_w (x4 + 1))), (5, .inl x5), (6, .inl (m 45 (x5).toNat))]) (st' := [.inl (m 45 (x5).toNat), .inl x4, .inr (.inl 51)]) (m' := m) [((53, .aload_n 0, 1, 0, 0, 0, 0), (0, 0, 0)), ((54, .getfield 30, 3, 3, 8, 1189, 0), (1, 44, 51)), ((57, .iload 4, 2, 0, 0, 0, 0), (0, 0, 0)), ((59, .iinc 4 1, 3, 0, 0, 0, 0), (0, 0, 0)), ((62, .iload 6, 2, 0, 0, 0, 0), (0, 0, 0))] (by decide +kernel) rfl ?_
            refine hx_if .ne 77 (by decide +kernel) (fun c6 => ?_) (fun c6 => ?_)
            · have c6 : (m 45 (x5).toNat) ≠ 0 := c6
              refine hx_blk (npc := 86) (L' := [(0, .inr (.inl 44)), (1, .inr (.inl b)), (3, .inl x3), (4, .inl (gx_w (x4 + 1))), (5, .inl x5), (6, .inl (m 45 (x5).toNat))]) (st' := [.inl (m 46 (x5).toNat), .inr (.inl b), .inr (.inl 44), .inl x4, .inr (.inl 51)]) (m' := m) [((77, .aload_n 0, 1, 0, 0, 0, 0), (0, 0, 0)), ((78, .aload_n 1, 1, 0, 0, 0, 0), (0, 0, 0)), ((79, .aload_n 0, 1, 0, 0, 0, 0), (0, 0, 0)), ((80, .getfield 15, 3, 3, 1, 1179, 0), (1, 44, 46)), ((83, .iload 5, 2, 0, 0, 0, 0), (0, 0, 0)), ((85, .iaload, 1, 0, 0, 0, 0), (0, 46, 0))] (by decide +kernel) rfl ?_
              exact hx_call (E := (86, .invokevirtual 80, 3, 59, 0, 3136, 0)) (M' := yp_m59) [.inr (.inl 44), .inr (.inl b), .inl (m 46 (x5).toNat)] [.inl x4, .inr (.inl 51)] rfl (by decide +kernel) rfl ⟨rfl, rfl⟩ rfl rfl (hx_mono (h18 c1 c2 c3 c4 c5 c6) (fun r m' h' => hx_pick [0, 1, 3, 4, 5] h'))
            · have c6 : (m 45 (x5).toNat) = 0 := by have h : ¬ ((m 45 (x5).toNat) ≠ 0) := c6; omega
              exfalso; omega
          · have c5 : 64 ≤ x4 := by have h : ¬ (x4 < 64) := c5; omega
            refine hx_blk (npc := 52) (L' := [(0, .inr (.inl 44)), (1, .inr (.inl b)), (3, .inl x3), (4, .inl x4), (5, .inl x5), (6, .inl (m 45 (x5).toNat))]) (st' := [.inl 0]) (m' := m) [((51, .iconst 0, 1, 0, 0, 0, 0), (0, 0, 0))] (by decide +kernel) rfl ?_
            exact hx_reti (by decide +kernel) (h19 c1 c2 c3 c4 c5)

/-- run from 89 on -/
theorem hr58_89 {xs : List Int32} {n : Nat} {Q : hQ} {m : gx_M} {b : Nat} {x3 x4 x5 s1 s2 : Int}
    (h1 : hxn xs n yp_m58 10 [(0, .inr (.inl 44)), (1, .inr (.inl b)), (3, .inl x3), (4, .inl x4), (5, .inl (gx_w (x5 + 1)))] [] (gx_u m 51 (s1).toNat s2) Q) : hxn xs (n + 1) yp_m58 89 [(0, .inr (.inl 44)), (1, .inr (.inl b)), (3, .inl x3), (4, .inl x4), (5, .inl x5)] [.inl s2, .inl s1, .inr (.inl 51)] m Q := by
  refine hx_blks (npc := 10) (L' := [(0, .inr (.inl 44)), (1, .inr (.inl b)), (3, .inl x3), (4, .inl x4), (5, .inl (gx_w (x5 + 1)))]) (st' := []) (m' := (gx_u m 51 (s1).toNat s2)) ((89, .iastore, 1, 0, 0, 0, 0), (0, 51, 0)) [((90, .goto 182, 3, 0, 0, 0, 0), (0, 0, 0)), ((272, .iinc 5 1, 3, 0, 0, 0, 0), (0, 0, 0)), ((275, .goto (-265), 3, 0, 0, 0, 0), (0, 0, 0))] (by decide +kernel) rfl ?_
  exact hx_pick [0, 1, 3, 4, 5] h1

/-- comesTo from 0 on -/
theorem hr208_0 {xs : List Int32} {n : Nat} {Q : hQ} {m : gx_M} {x1 x2 : Int}
    (h1 : hxn xs n yp_m208 16 [(0, .inr (.inl 86)), (2, .inl x2), (3, .inl 0), (4, .inl (gx_w (260 * (gx_w (Int.tdiv x1 260))))), (5, .inl x1)] [] m Q) : hxn xs (n + 1) yp_m208 0 [(0, .inr (.inl 86)), (1, .inl x1), (2, .inl x2)] [] m Q := by
  refine hx_blks (npc := 16) (L' := [(0, .inr (.inl 86)), (1, .inl x1), (2, .inl x2), (3, .inl 0), (4, .inl (gx_w (260 * (gx_w (Int.tdiv x1 260))))), (5, .inl x1)]) (st' := []) (m' := m) ((0, .iconst 0, 1, 0, 0, 0, 0), (0, 0, 0)) [((1, .istore_n 3, 1, 0, 0, 0, 0), (0, 0, 0)), ((2, .sipush 260, 3, 0, 0, 0, 0), (0, 0, 0)), ((5, .iload_n 1, 1, 0, 0, 0, 0), (0, 0, 0)), ((6, .sipush 260, 3, 0, 0, 0, 0), (0, 0, 0)), ((9, .idiv, 1, 0, 0, 0, 0), (0, 0, 0)), ((10, .imul, 1, 0, 0, 0, 0), (0, 0, 0)), ((11, .istore 4, 2, 0, 0, 0, 0), (0, 0, 0)), ((13, .iload_n 1, 1, 0, 0, 0, 0), (0, 0, 0)), ((14, .istore 5, 2, 0, 0, 0, 0), (0, 0, 0))] (by decide +kernel) rfl ?_
  exact hx_pick [0, 2, 3, 4, 5] h1

/-- comesTo from 16 on -/
theorem hr208_16 {xs : List Int32} {n : Nat} {Q : hQ} {m : gx_M} {x2 x3 x4 x5 : Int}
    (h1 : (x2 ≤ x5) → Q (some (.inl (m 102 0))) m)
    (h2 : (x5 < x2) → ((gx_w (Int.tdiv (m 97 (x5).toNat) 1048576)) = 0) → ((gx_w (Int.tdiv (m 97 (x5).toNat) 1048576)) = 0) → hxn xs n yp_m208 16 [(0, .inr (.inl 86)), (2, .inl x2), (3, .inl (gx_w (x3 + 1))), (4, .inl x4), (5, .inl (gx_w (x5 + 1)))] [] (gx_u m 102 (x3).toNat (Int.tmod (m 97 (x5).toNat) 1048576)) Q)
    (h3 : (x5 < x2) → ((gx_w (Int.tdiv (m 97 (x5).toNat) 1048576)) ≠ 0) → ((gx_w (Int.tdiv (m 97 (x5).toNat) 1048576)) ≠ 1) → ((gx_w (Int.tdiv (m 97 (x5).toNat) 1048576)) ≠ 10) → ((gx_w (Int.tdiv (m 97 (x5).toNat) 1048576)) = 11) → ((gx_w (Int.tdiv (m 97 (x5).toNat) 1048576)) ≠ 12) → ((m 102 (gx_w (x3 - 1)).toNat) ≠ 0) → hxn xs n yp_m208 16 [(0, .inr (.inl 86)), (2, .inl x2), (3, .inl (gx_w (x3 - 1))), (4, .inl x4), (5, .inl (gx_w (x5 + 1)))] [] m Q)
    (h4 : (x5 < x2) → ((gx_w (Int.tdiv (m 97 (x5).toNat) 1048576)) ≠ 0) → ((gx_w (Int.tdiv (m 97 (x5).toNat) 1048576)) ≠ 1) → ((gx_w (Int.tdiv (m 97 (x5).toNat) 1048576)) ≠ 10) → ((gx_w (Int.tdiv (m 97 (x5).toNat) 1048576)) = 11) → ((gx_w (Int.tdiv (m 97 (x5).toNat) 1048576)) ≠ 12) → ((m 102 (gx_w (x3 - 1)).toNat) = 0) → hxn xs n yp_m208 16 [(0, .inr (.inl 86)), (2, .inl x2), (3, .inl x3), (4, .inl x4), (5, .inl (gx_w (x4 + (Int.tmod (m 97 (x5).toNat) 1048576))))] [] m Q)
    (h5 : (x5 < x2) → ((gx_w (Int.tdiv (m 97 (x5).toNat) 1048576)) ≠ 0) → ((gx_w (Int.tdiv (m 97 (x5).toNat) 1048576)) ≠ 1) → ((gx_w (Int.tdiv (m 97 (x5).toNat) 1048576)) ≠ 10) → ((gx_w (Int.tdiv (m 97 (x5).toNat) 1048576)) ≠ 11) → ((gx_w (Int.tdiv (m 97 (x5).toNat) 1048576)) ≠ 12) → ((gx_w (Int.tdiv (m 97 (x5).toNat) 1048576)) = 5) → ((m 102 (gx_w (x3 - 1)).toNat) ≠ 0) → hxn xs n yp_m208 16 [(0, .inr (.inl 86)), (2, .inl x2), (3, .inl (gx_w (x3 - 1))), (4, .inl x4), (5, .inl (gx_w (x5 + 1)))] [] (gx_u m 102 (gx_w ((gx_w (x3 - 1)) - 1)).toNat (lrr (gx_w (Int.tdiv (m 97 (x5).toNat) 1048576)) (m 102 (gx_w ((gx_w (x3 - 1)) - 1)).toNat) (m 102 (gx_w (x3 - 1)).toNat))) Q)
    (h6 : (x5 < x2) → ((gx_w (Int.tdiv (m 97 (x5).toNat) 1048576)) ≠ 0) → ((gx_w (Int.tdiv (m 97 (x5).toNat) 1048576)) ≠ 1) → ((gx_w (Int.tdiv (m 97 (x5).toNat) 1048576)) ≠ 10) → ((gx_w (Int.tdiv (m 97 (x5).toNat) 1048576)) ≠ 11) → ((gx_w (Int.tdiv (m 97 (x5).toNat) 1048576)) ≠ 12) → ((gx_w (Int.tdiv (m 97 (x5).toNat) 1048576)) = 5) → ((m 102 (gx_w (x3 - 1)).toNat) = 0) → Q (some (.inl 0)) m)
    (h7 : (x5 < x2) → ((gx_w (Int.tdiv (m 97 (x5).toNat) 1048576)) ≠ 0) → ((gx_w (Int.tdiv (m 97 (x5).toNat) 1048576)) ≠ 1) → ((gx_w (Int.tdiv (m 97 (x5).toNat) 1048576)) ≠ 10) → ((gx_w (Int.tdiv (m 97 (x5).toNat) 1048576)) ≠ 11) → ((gx_w (Int.tdiv (m 97 (x5).toNat) 1048576)) ≠ 12) → ((gx_w (Int.tdiv (m 97 (x5).toNat) 1048576)) ≠ 5) → ((gx_w (Int.tdiv (m 97 (x5).toNat) 1048576)) ≠ 6) → hxn xs n yp_m208 16 [(0, .inr (.inl 86)), (2, .inl x2), (3, .inl (gx_w (x3 - 1))), (4, .inl x4), (5, .inl (gx_w (x5 + 1)))] [] (gx_u m 102 (gx_w ((gx_w (x3 - 1)) - 1)).toNat (lrr (gx_w (Int.tdiv (m 97 (x5).toNat) 1048576)) (m 102 (gx_w ((gx_w (x3 - 1)) - 1)).toNat) (m 102 (gx_w (x3 - 1)).toNat))) Q)
    (h8 : (x5 < x2) → ((gx_w (Int.tdiv (m 97 (x5).toNat) 1048576)) ≠ 0) → ((gx_w (Int.tdiv (m 97 (x5).toNat) 1048576)) ≠ 1) → ((gx_w (Int.tdiv (m 97 (x5).toNat) 1048576)) ≠ 10) → ((gx_w (Int.tdiv (m 97 (x5).toNat) 1048576)) ≠ 11) → ((gx_w (Int.tdiv (m 97 (x5).toNat) 1048576)) ≠ 12) → ((gx_w (Int.tdiv (m 97 (x5).toNat) 1048576)) ≠ 5) → ((gx_w (Int.tdiv (m 97 (x5).toNat) 1048576)) = 6) → ((m 102 (gx_w (x3 - 1)).toNat) ≠ 0) → hxn xs n yp_m208 16 [(0, .inr (.inl 86)), (2, .inl x2), (3, .inl (gx_w (x3 - 1))), (4, .inl x4), (5, .inl (gx_w (x5 + 1)))] [] (gx_u m 102 (gx_w ((gx_w (x3 - 1)) - 1)).toNat (lrr (gx_w (Int.tdiv (m 97 (x5).toNat) 1048576)) (m 102 (gx_w ((gx_w (x3 - 1)) - 1)).toNat) (m 102 (gx_w (x3 - 1)).toNat))) Q)
    (h9 : (x5 < x2) → ((gx_w (Int.tdiv (m 97 (x5).toNat) 1048576)) ≠ 0) → ((gx_w (Int.tdiv (m 97 (x5).toNat) 1048576)) ≠ 1) → ((gx_w (Int.tdiv (m 97 (x5).toNat) 1048576)) ≠ 10) → ((gx_w (Int.tdiv (m 97 (x5).toNat) 1048576)) ≠ 11) → ((gx_w (Int.tdiv (m 97 (x5).toNat) 1048576)) ≠ 12) → ((gx_w (Int.tdiv (m 97 (x5).toNat) 1048576)) ≠ 5) → ((gx_w (Int.tdiv (m 97 (x5).toNat) 1048576)) = 6) → ((m 102 (gx_w (x3 - 1)).toNat) = 0) → Q (some (.inl 0)) m)
    (h10 : (x5 < x2) → ((gx_w (Int.tdiv (m 97 (x5).toNat) 1048576)) ≠ 0) → ((gx_w (Int.tdiv (m 97 (x5).toNat) 1048576)) ≠ 1) → ((gx_w (Int.tdiv (m 97 (x5).toNat) 1048576)) ≠ 10) → ((gx_w (Int.tdiv (m 97 (x5).toNat) 1048576)) ≠ 11) → ((gx_w (Int.tdiv (m 97 (x5).toNat) 1048576)) = 12) → ((gx_w (Int.tdiv (m 97 (x5).toNat) 1048576)) = 12) → ((m 102 (gx_w (x3 - 1)).toNat) ≠ 1) → hxn xs n yp_m208 16 [(0, .inr (.inl 86)), (2, .inl x2), (3, .inl (gx_w (x3 - 1))), (4, .inl x4), (5, .inl (gx_w (x5 + 1)))] [] m Q)
    (h11 : (x5 < x2) → ((gx_w (Int.tdiv (m 97 (x5).toNat) 1048576)) ≠ 0) → ((gx_w (Int.tdiv (m 97 (x5).toNat) 1048576)) ≠ 1) → ((gx_w (Int.tdiv (m 97 (x5).toNat) 1048576)) ≠ 10) → ((gx_w (Int.tdiv (m 97 (x5).toNat) 1048576)) ≠ 11) → ((gx_w (Int.tdiv (m 97 (x5).toNat) 1048576)) = 12) → ((gx_w (Int.tdiv (m 97 (x5).toNat) 1048576)) = 12) → ((m 102 (gx_w (x3 - 1)).toNat) = 1) → hxn xs n yp_m208 16 [(0, .inr (.inl 86)), (2, .inl x2), (3, .inl x3), (4, .inl x4), (5, .inl (gx_w (x4 + (Int.tmod (m 97 (x5).toNat) 1048576))))] [] m Q)
    (h12 : (x5 < x2) → ((gx_w (Int.tdiv (m 97 (x5).toNat) 1048576)) ≠ 0) → ((gx_w (Int.tdiv (m 97 (x5).toNat) 1048576)) ≠ 1) → ((gx_w (Int.tdiv (m 97 (x5).toNat) 1048576)) = 10) → hxn xs n yp_m208 16 [(0, .inr (.inl 86)), (2, .inl x2), (3, .inl x3), (4, .inl x4), (5, .inl (gx_w (x5 + 1)))] [] (gx_u m 102 (gx_w (x3 - 1)).toNat (gx_w (1 - (m 102 (gx_w (x3 - 1)).toNat)))) Q)
    (h13 : (x5 < x2) → ((gx_w (Int.tdiv (m 97 (x5).toNat) 1048576)) ≠ 0) → ((gx_w (Int.tdiv (m 97 (x5).toNat) 1048576)) = 1) → ((gx_w (Int.tdiv (m 97 (x5).toNat) 1048576)) ≠ 0) → hxn xs n yp_m208 16 [(0, .inr (.inl 86)), (2, .inl x2), (3, .inl (gx_w (x3 + 1))), (4, .inl x4), (5, .inl (gx_w (x5 + 1)))] [] (gx_u m 102 (x3).toNat (m 103 (Int.tmod (m 97 (x5).toNat) 1048576).toNat)) Q) : hxn xs (n + 1) yp_m208 16 [(0, .inr (.inl 86)), (2, .inl x2), (3, .inl x3), (4, .inl x4), (5, .inl x5)] [] m Q := by
  refine hx_blks (npc := 19) (L' := [(0, .inr (.inl 86)), (2, .inl x2), (3, .inl x3), (4, .inl x4), (5, .inl x5)]) (st' := [.inl x2, .inl x5]) (m' := m) ((16, .iload 5, 2, 0, 0, 0, 0), (0, 0, 0)) [((18, .iload_n 2, 1, 0, 0, 0, 0), (0, 0, 0))] (by decide +kernel) rfl ?_
  refine hx_cmp .ge 233 (by decide +kernel) (fun c1 => ?_) (fun c1 => ?_)
  · have c1 : x2 ≤ x5 := c1
    refine hx_blk (npc := 239) (L' := [(0, .inr (.inl 86)), (2, .inl x2), (3, .inl x3), (4, .inl x4), (5, .inl x5)]) (st' := [.inl (m 102 0)]) (m' := m) [((233, .aload_n 0, 1, 0, 0, 0, 0), (0, 0, 0)), ((234, .getfield 56, 3, 10, 25, 5138, 0), (1, 86, 102)), ((237, .iconst 0, 1, 0, 0, 0, 0), (0, 0, 0)), ((238, .iaload, 1, 0, 0, 0, 0), (0, 102, 0))] (by decide +kernel) rfl ?_
    exact hx_reti (by decide +kernel) (h1 c1)
  · have c1 : x5 < x2 := by have h : ¬ (x2 ≤ x5) := c1; omega
    refine hx_blk (npc := 54) (L' := [(0, .inr (.inl 86)), (2, .inl x2), (3, .inl x3), (4, .inl x4), (5, .inl (gx_w (x5 + 1))), (6, .inl (gx_w (Int.tdiv (m 97 (x5).toNat) 1048576))), (7, .inl (Int.tmod (m 97 (x5).toNat) 1048576))]) (st' := [.inl (gx_w (Int.tdiv (m 97 (x5).toNat) 1048576))]) (m' := m) [((22, .aload_n 0, 1, 0, 0, 0, 0), (0, 0, 0)), ((23, .getfield 41, 3, 10, 20, 5133, 0), (1, 86, 97)), ((26, .iload 5, 2, 0, 0, 0, 0), (0, 0, 0)), ((28, .iaload, 1, 0, 0, 0, 0), (0, 97, 0)), ((29, .ldc 158, 2, 0, 0, 6077, 1048576), (0, 0, 0)), ((31, .idiv, 1, 0, 0, 0, 0), (0, 0, 0)), ((32, .istore 6, 2, 0, 0, 0, 0), (0, 0, 0)), ((34, .aload_n 0, 1, 0, 0, 0, 0), (0, 0, 0)), ((35, .getfield 41, 3, 10, 20, 5133, 0), (1, 86, 97)), ((38, .iload 5, 2, 0, 0, 0, 0), (0, 0, 0)), ((40, .iaload, 1, 0, 0, 0, 0), (0, 97, 0)), ((41, .ldc 158, 2, 0, 0, 6077, 1048576), (0, 0, 0)), ((43, .irem, 1, 0, 0, 0, 0), (0, 0, 0)), ((44, .istore 7, 2, 0, 0, 0, 0), (0, 0, 0)), ((46, .iload 5, 2, 0, 0, 0, 0), (0, 0, 0)), ((48, .iconst 1, 1, 0, 0, 0, 0), (0, 0, 0)), ((49, .iadd, 1, 0, 0, 0, 0), (0, 0, 0)), ((50, .istore 5, 2, 0, 0, 0, 0), (0, 0, 0)), ((52, .iload 6, 2, 0, 0, 0, 0), (0, 0, 0))] (by decide +kernel) rfl ?_
    refine hx_if .eq 63 (by decide +kernel) (fun c2 => ?_) (fun c2 => ?_)
    · have c2 : (gx_w (Int.tdiv (m 97 (x5).toNat) 1048576)) = 0 := c2
      refine hx_blk (npc := 70) (L' := [(0, .inr (.inl 86)), (2, .inl x2), (3, .inl x3), (4, .inl x4), (5, .inl (gx_w (x5 + 1))), (6, .inl (gx_w (Int.tdiv (m 97 (x5).toNat) 1048576))), (7, .inl (Int.tmod (m 97 (x5).toNat) 1048576))]) (st' := [.inl (gx_w (Int.tdiv (m 97 (x5).toNat) 1048576)), .inl x3, .inr (.inl 102)]) (m' := m) [((63, .aload_n 0, 1, 0, 0, 0, 0), (0, 0, 0)), ((64, .getfield 56, 3, 10, 25, 5138, 0), (1, 86, 102)), ((67, .iload_n 3, 1, 0, 0, 0, 0), (0, 0, 0)), ((68, .iload 6, 2, 0, 0, 0, 0), (0, 0, 0))] (by decide +kernel) rfl ?_
      refine hx_if .ne 78 (by decide +kernel) (fun c3 => ?_) (fun c3 => ?_)
      · have c3 : (gx_w (Int.tdiv (m 97 (x5).toNat) 1048576)) ≠ 0 := c3
        exfalso; omega
      · have c3 : (gx_w (Int.tdiv (m 97 (x5).toNat) 1048576)) = 0 := by have h : ¬ ((gx_w (Int.tdiv (m 97 (x5).toNat) 1048576)) ≠ 0) := c3; omega
        refine hx_blk (npc := 16) (L' := [(0, .inr (.inl 86)), (2, .inl x2), (3, .inl (gx_w (x3 + 1))), (4, .inl x4), (5, .inl (gx_w (x5 + 1))), (6, .inl (gx_w (Int.tdiv (m 97 (x5).toNat) 1048576))), (7, .inl (Int.tmod (m 97 (x5).toNat) 1048576))]) (st' := []) (m' := (gx_u m 102 (x3).toNat (Int.tmod (m 97 (x5).toNat) 1048576))) [((73, .iload 7, 2, 0, 0, 0, 0), (0, 0, 0)), ((75, .goto 10, 3, 0, 0, 0, 0), (0, 0, 0)), ((85, .iastore, 1, 0, 0, 0, 0), (0, 102, 0)), ((86, .iload_n 3, 1, 0, 0, 0, 0), (0, 0, 0)), ((87, .iconst 1, 1, 0, 0, 0, 0), (0, 0, 0)), ((88, .iadd, 1, 0, 0, 0, 0), (0, 0, 0)), ((89, .istore_n 3, 1, 0, 0, 0, 0), (0, 0, 0)), ((90, .goto 140, 3, 0, 0, 0, 0), (0, 0, 0)), ((230, .goto (-214), 3, 0, 0, 0, 0), (0, 0, 0))] (by decide +kernel) rfl ?_
        exact hx_pick [0, 2, 3, 4, 5] (h2 c1 c2 c3)
    · have c2 : (gx_w (Int.tdiv (m 97 (x5).toNat) 1048576)) ≠ 0 := c2
      refine hx_blk (npc := 60) (L' := [(0, .inr (.inl 86)), (2, .inl x2), (3, .inl x3), (4, .inl x4), (5, .inl (gx_w (x5 + 1))), (6, .inl (gx_w (Int.tdiv (m 97 (x5).toNat) 1048576))), (7, .inl (Int.tmod (m 97 (x5).toNat) 1048576))]) (st' := [.inl 1, .inl (gx_w (Int.tdiv (m 97 (x5).toNat) 1048576))]) (m' := m) [((57, .iload 6, 2, 0, 0, 0, 0), (0, 0, 0)), ((59, .iconst 1, 1, 0, 0, 0, 0), (0, 0, 0))] (by decide +kernel) rfl ?_
      refine hx_cmp .ne 93 (by decide +kernel) (fun c3 => ?_) (fun c3 => ?_)
      · have c3 : (gx_w (Int.tdiv (m 97 (x5).toNat) 1048576)) ≠ 1 := c3
        refine hx_blk (npc := 97) (L' := [(0, .inr (.inl 86)), (2, .inl x2), (3, .inl x3), (4, .inl x4), (5, .inl (gx_w (x5 + 1))), (6, .inl (gx_w (Int.tdiv (m 97 (x5).toNat) 1048576))), (7, .inl (Int.tmod (m 97 (x5).toNat) 1048576))]) (st' := [.inl 10, .inl (gx_w (Int.tdiv (m 97 (x5).toNat) 1048576))]) (m' := m) [((93, .iload 6, 2, 0, 0, 0, 0), (0, 0, 0)), ((95, .bipush 10, 2, 0, 0, 0, 0), (0, 0, 0))] (by decide +kernel) rfl ?_
        refine hx_cmp .ne 121 (by decide +kernel) (fun c4 => ?_) (fun c4 => ?_)
        · have c4 : (gx_w (Int.tdiv (m 97 (x5).toNat) 1048576)) ≠ 10 := c4
          refine hx_blk (npc := 125) (L' := [(0, .inr (.inl 86)), (2, .inl x2), (3, .inl x3), (4, .inl x4), (5, .inl (gx_w (x5 + 1))), (6, .inl (gx_w (Int.tdiv (m 97 (x5).toNat) 1048576))), (7, .inl (Int.tmod (m 97 (x5).toNat) 1048576))]) (st' := [.inl 11, .inl (gx_w (Int.tdiv (m 97 (x5).toNat) 1048576))]) (m' := m) [((121, .iload 6, 2, 0, 0, 0, 0), (0, 0, 0)), ((123, .bipush 11, 2, 0, 0, 0, 0), (0, 0, 0))] (by decide +kernel) rfl ?_
          refine hx_cmp .eq 135 (by decide +kernel) (fun c5 => ?_) (fun c5 => ?_)
          · have c5 : (gx_w (Int.tdiv (m 97 (x5).toNat) 1048576)) = 11 := c5
            refine hx_blk (npc := 147) (L' := [(0, .inr (.inl 86)), (2, .inl x2), (3, .inl x3), (4, .inl x4), (5, .inl (gx_w (x5 + 1))), (6, .inl (gx_w (Int.tdiv (m 97 (x5).toNat) 1048576))), (7, .inl (Int.tmod (m 97 (x5).toNat) 1048576))]) (st' := [.inl 12, .inl (gx_w (Int.tdiv (m 97 (x5).toNat) 1048576)), .inl (m 102 (gx_w (x3 - 1)).toNat)]) (m' := m) [((135, .aload_n 0, 1, 0, 0, 0, 0), (0, 0, 0)), ((136, .getfield 56, 3, 10, 25, 5138, 0), (1, 86, 102)), ((139, .iload_n 3, 1, 0, 0, 0, 0), (0, 0, 0)), ((140, .iconst 1, 1, 0, 0, 0, 0), (0, 0, 0)), ((141, .isub, 1, 0, 0, 0, 0), (0, 0, 0)), ((142, .iaload, 1, 0, 0, 0, 0), (0, 102, 0)), ((143, .iload 6, 2, 0, 0, 0, 0), (0, 0, 0)), ((145, .bipush 12, 2, 0, 0, 0, 0), (0, 0, 0))] (by decide +kernel) rfl ?_
            refine hx_cmp .ne 154 (by decide +kernel) (fun c6 => ?_) (fun c6 => ?_)
            · have c6 : (gx_w (Int.tdiv (m 97 (x5).toNat) 1048576)) ≠ 12 := c6
              refine hx_blk (npc := 155) (L' := [(0, .inr (.inl 86)), (2, .inl x2), (3, .inl x3), (4, .inl x4), (5, .inl (gx_w (x5 + 1))), (6, .inl (gx_w (Int.tdiv (m 97 (x5).toNat) 1048576))), (7, .inl (Int.tmod (m 97 (x5).toNat) 1048576))]) (st' := [.inl 0, .inl (m 102 (gx_w (x3 - 1)).toNat)]) (m' := m) [((154, .iconst 0, 1, 0, 0, 0, 0), (0, 0, 0))] (by decide +kernel) rfl ?_
              refine hx_cmp .ne 168 (by decide +kernel) (fun c7 => ?_) (fun c7 => ?_)
              · have c7 : (m 102 (gx_w (x3 - 1)).toNat) ≠ 0 := c7
                refine hx_blk (npc := 16) (L' := [(0, .inr (.inl 86)), (2, .inl x2), (3, .inl (gx_w (x3 - 1))), (4, .inl x4), (5, .inl (gx_w (x5 + 1))), (6, .inl (gx_w (Int.tdiv (m 97 (x5).toNat) 1048576))), (7, .inl (Int.tmod (m 97 (x5).toNat) 1048576))]) (st' := []) (m' := m) [((168, .iload_n 3, 1, 0, 0, 0, 0), (0, 0, 0)), ((169, .iconst 1, 1, 0, 0, 0, 0), (0, 0, 0)), ((170, .isub, 1, 0, 0, 0, 0), (0, 0, 0)), ((171, .istore_n 3, 1, 0, 0, 0, 0), (0, 0, 0)), ((172, .goto 58, 3, 0, 0, 0, 0), (0, 0, 0)), ((230, .goto (-214), 3, 0, 0, 0, 0), (0, 0, 0))] (by decide +kernel) rfl ?_
                exact hx_pick [0, 2, 3, 4, 5] (h3 c1 c2 c3 c4 c5 c6 c7)
              · have c7 : (m 102 (gx_w (x3 - 1)).toNat) = 0 := by have h : ¬ ((m 102 (gx_w (x3 - 1)).toNat) ≠ 0) := c7; omega
                refine hx_blk (npc := 16) (L' := [(0, .inr (.inl 86)), (2, .inl x2), (3, .inl x3), (4, .inl x4), (5, .inl (gx_w (x4 + (Int.tmod (m 97 (x5).toNat) 1048576)))), (6, .inl (gx_w (Int.tdiv (m 97 (x5).toNat) 1048576))), (7, .inl (Int.tmod (m 97 (x5).toNat) 1048576))]) (st' := []) (m' := m) [((158, .iload 4, 2, 0, 0, 0, 0), (0, 0, 0)), ((160, .iload 7, 2, 0, 0, 0, 0), (0, 0, 0)), ((162, .iadd, 1, 0, 0, 0, 0), (0, 0, 0)), ((163, .istore 5, 2, 0, 0, 0, 0), (0, 0, 0)), ((165, .goto 65, 3, 0, 0, 0, 0), (0, 0, 0)), ((230, .goto (-214), 3, 0, 0, 0, 0), (0, 0, 0))] (by decide +kernel) rfl ?_
                exact hx_pick [0, 2, 3, 4, 5] (h4 c1 c2 c3 c4 c5 c6 c7)
            · have c6 : (gx_w (Int.tdiv (m 97 (x5).toNat) 1048576)) = 12 := by have h : ¬ ((gx_w (Int.tdiv (m 97 (x5).toNat) 1048576)) ≠ 12) := c6; omega
              exfalso; omega
          · have c5 : (gx_w (Int.tdiv (m 97 (x5).toNat) 1048576)) ≠ 11 := c5
            refine hx_blk (npc := 132) (L' := [(0, .inr (.inl 86)), (2, .inl x2), (3, .inl x3), (4, .inl x4), (5, .inl (gx_w (x5 + 1))), (6, .inl (gx_w (Int.tdiv (m 97 (x5).toNat) 1048576))), (7, .inl (Int.tmod (m 97 (x5).toNat) 1048576))]) (st' := [.inl 12, .inl (gx_w (Int.tdiv (m 97 (x5).toNat) 1048576))]) (m' := m) [((128, .iload 6, 2, 0, 0, 0, 0), (0, 0, 0)), ((130, .bipush 12, 2, 0, 0, 0, 0), (0, 0, 0))] (by decide +kernel) rfl ?_
            refine hx_cmp .ne 175 (by decide +kernel) (fun c6 => ?_) (fun c6 => ?_)
            · have c6 : (gx_w (Int.tdiv (m 97 (x5).toNat) 1048576)) ≠ 12 := c6
              refine hx_blk (npc := 182) (L' := [(0, .inr (.inl 86)), (2, .inl x2), (3, .inl (gx_w (x3 - 1))), (4, .inl x4), (5, .inl (gx_w (x5 + 1))), (6, .inl (gx_w (Int.tdiv (m 97 (x5).toNat) 1048576))), (7, .inl (Int.tmod (m 97 (x5).toNat) 1048576))]) (st' := [.inl 5, .inl (gx_w (Int.tdiv (m 97 (x5).toNat) 1048576))]) (m' := m) [((175, .iload_n 3, 1, 0, 0, 0, 0), (0, 0, 0)), ((176, .iconst 1, 1, 0, 0, 0, 0), (0, 0, 0)), ((177, .isub, 1, 0, 0, 0, 0), (0, 0, 0)), ((178, .istore_n 3, 1, 0, 0, 0, 0), (0, 0, 0)), ((179, .iload 6, 2, 0, 0, 0, 0), (0, 0, 0)), ((181, .iconst 5, 1, 0, 0, 0, 0), (0, 0, 0))] (by decide +kernel) rfl ?_
              refine hx_cmp .eq 192 (by decide +kernel) (fun c7 => ?_) (fun c7 => ?_)
              · have c7 : (gx_w (Int.tdiv (m 97 (x5).toNat) 1048576)) = 5 := c7
                refine hx_blk (npc := 198) (L' := [(0, .inr (.inl 86)), (2, .inl x2), (3, .inl (gx_w (x3 - 1))), (4, .inl x4), (5, .inl (gx_w (x5 + 1))), (6, .inl (gx_w (Int.tdiv (m 97 (x5).toNat) 1048576))), (7, .inl (Int.tmod (m 97 (x5).toNat) 1048576))]) (st' := [.inl (m 102 (gx_w (x3 - 1)).toNat)]) (m' := m) [((192, .aload_n 0, 1, 0, 0, 0, 0), (0, 0, 0)), ((193, .getfield 56, 3, 10, 25, 5138, 0), (1, 86, 102)), ((196, .iload_n 3, 1, 0, 0, 0, 0), (0, 0, 0)), ((197, .iaload, 1, 0, 0, 0, 0), (0, 102, 0))] (by decide +kernel) rfl ?_
                refine hx_if .ne 203 (by decide +kernel) (fun c8 => ?_) (fun c8 => ?_)
                · have c8 : (m 102 (gx_w (x3 - 1)).toNat) ≠ 0 := c8
                  refine hx_blk (npc := 226) (L' := [(0, .inr (.inl 86)), (2, .inl x2), (3, .inl (gx_w (x3 - 1))), (4, .inl x4), (5, .inl (gx_w (x5 + 1))), (6, .inl (gx_w (Int.tdiv (m 97 (x5).toNat) 1048576))), (7, .inl (Int.tmod (m 97 (x5).toNat) 1048576))]) (st' := [.inl (m 102 (gx_w (x3 - 1)).toNat), .inl (m 102 (gx_w ((gx_w (x3 - 1)) - 1)).toNat), .inl (gx_w (Int.tdiv (m 97 (x5).toNat) 1048576)), .inl (gx_w ((gx_w (x3 - 1)) - 1)), .inr (.inl 102)]) (m' := m) [((203, .aload_n 0, 1, 0, 0, 0, 0), (0, 0, 0)), ((204, .getfield 56, 3, 10, 25, 5138, 0), (1, 86, 102)), ((207, .iload_n 3, 1, 0, 0, 0, 0), (0, 0, 0)), ((208, .iconst 1, 1, 0, 0, 0, 0), (0, 0, 0)), ((209, .isub, 1, 0, 0, 0, 0), (0, 0, 0)), ((210, .iload 6, 2, 0, 0, 0, 0), (0, 0, 0)), ((212, .aload_n 0, 1, 0, 0, 0, 0), (0, 0, 0)), ((213, .getfield 56, 3, 10, 25, 5138, 0), (1, 86, 102)), ((216, .iload_n 3, 1, 0, 0, 0, 0), (0, 0, 0)), ((217, .iconst 1, 1, 0, 0, 0, 0), (0, 0, 0)), ((218, .isub, 1, 0, 0, 0, 0), (0, 0, 0)), ((219, .iaload, 1, 0, 0, 0, 0), (0, 102, 0)), ((220, .aload_n 0, 1, 0, 0, 0, 0), (0, 0, 0)), ((221, .getfield 56, 3, 10, 25, 5138, 0), (1, 86, 102)), ((224, .iload_n 3, 1, 0, 0, 0, 0), (0, 0, 0)), ((225, .iaload, 1, 0, 0, 0, 0), (0, 102, 0))] (by decide +kernel) rfl ?_
                  refine hx_call (E := (226, .invokestatic 228, 3, 209, 0, 6206, 0)) (M' := yp_m209) [.inl (gx_w (Int.tdiv (m 97 (x5).toNat) 1048576)), .inl (m 102 (gx_w ((gx_w (x3 - 1)) - 1)).toNat), .inl (m 102 (gx_w (x3 - 1)).toNat)] [.inl (gx_w ((gx_w (x3 - 1)) - 1)), .inr (.inl 102)] rfl (by decide +kernel) rfl ⟨rfl, rfl⟩ rfl rfl (hs209 ?_)
                  show hxn xs n yp_m208 229 [(0, .inr (.inl 86)), (2, .inl x2), (3, .inl (gx_w (x3 - 1))), (4, .inl x4), (5, .inl (gx_w (x5 + 1))), (6, .inl (gx_w (Int.tdiv (m 97 (x5).toNat) 1048576))), (7, .inl (Int.tmod (m 97 (x5).toNat) 1048576))] [.inl (lrr (gx_w (Int.tdiv (m 97 (x5).toNat) 1048576)) (m 102 (gx_w ((gx_w (x3 - 1)) - 1)).toNat) (m 102 (gx_w (x3 - 1)).toNat)), .inl (gx_w ((gx_w (x3 - 1)) - 1)), .inr (.inl 102)] m Q
                  refine hx_blk (npc := 16) (L' := [(0, .inr (.inl 86)), (2, .inl x2), (3, .inl (gx_w (x3 - 1))), (4, .inl x4), (5, .inl (gx_w (x5 + 1))), (6, .inl (gx_w (Int.tdiv (m 97 (x5).toNat) 1048576))), (7, .inl (Int.tmod (m 97 (x5).toNat) 1048576))]) (st' := []) (m' := (gx_u m 102 (gx_w ((gx_w (x3 - 1)) - 1)).toNat (lrr (gx_w (Int.tdiv (m 97 (x5).toNat) 1048576)) (m 102 (gx_w ((gx_w (x3 - 1)) - 1)).toNat) (m 102 (gx_w (x3 - 1)).toNat)))) [((229, .iastore, 1, 0, 0, 0, 0), (0, 102, 0)), ((230, .goto (-214), 3, 0, 0, 0, 0), (0, 0, 0))] (by decide +kernel) rfl ?_
                  exact hx_pick [0, 2, 3, 4, 5] (h5 c1 c2 c3 c4 c5 c6 c7 c8)
                · have c8 : (m 102 (gx_w (x3 - 1)).toNat) = 0 := by have h : ¬ ((m 102 (gx_w (x3 - 1)).toNat) ≠ 0) := c8; omega
                  refine hx_blk (npc := 202) (L' := [(0, .inr (.inl 86)), (2, .inl x2), (3, .inl (gx_w (x3 - 1))), (4, .inl x4), (5, .inl (gx_w (x5 + 1))), (6, .inl (gx_w (Int.tdiv (m 97 (x5).toNat) 1048576))), (7, .inl (Int.tmod (m 97 (x5).toNat) 1048576))]) (st' := [.inl 0]) (m' := m) [((201, .iconst 0, 1, 0, 0, 0, 0), (0, 0, 0))] (by decide +kernel) rfl ?_
                  exact hx_reti (by decide +kernel) (h6 c1 c2 c3 c4 c5 c6 c7 c8)
              · have c7 : (gx_w (Int.tdiv (m 97 (x5).toNat) 1048576)) ≠ 5 := c7
                refine hx_blk (npc := 189) (L' := [(0, .inr (.inl 86)), (2, .inl x2), (3, .inl (gx_w (x3 - 1))), (4, .inl x4), (5, .inl (gx_w (x5 + 1))), (6, .inl (gx_w (Int.tdiv (m 97 (x5).toNat) 1048576))), (7, .inl (Int.tmod (m 97 (x5).toNat) 1048576))]) (st' := [.inl 6, .inl (gx_w (Int.tdiv (m 97 (x5).toNat) 1048576))]) (m' := m) [((185, .iload 6, 2, 0, 0, 0, 0), (0, 0, 0)), ((187, .bipush 6, 2, 0, 0, 0, 0), (0, 0, 0))] (by decide +kernel) rfl ?_
                refine hx_cmp .ne 203 (by decide +kernel) (fun c8 => ?_) (fun c8 => ?_)
                · have c8 : (gx_w (Int.tdiv (m 97 (x5).toNat) 1048576)) ≠ 6 := c8
                  refine hx_blk (npc := 226) (L' := [(0, .inr (.inl 86)), (2, .inl x2), (3, .inl (gx_w (x3 - 1))), (4, .inl x4), (5, .inl (gx_w (x5 + 1))), (6, .inl (gx_w (Int.tdiv (m 97 (x5).toNat) 1048576))), (7, .inl (Int.tmod (m 97 (x5).toNat) 1048576))]) (st' := [.inl (m 102 (gx_w (x3 - 1)).toNat), .inl (m 102 (gx_w ((gx_w (x3 - 1)) - 1)).toNat), .inl (gx_w (Int.tdiv (m 97 (x5).toNat) 1048576)), .inl (gx_w ((gx_w (x3 - 1)) - 1)), .inr (.inl 102)]) (m' := m) [((203, .aload_n 0, 1, 0, 0, 0, 0), (0, 0, 0)), ((204, .getfield 56, 3, 10, 25, 5138, 0), (1, 86, 102)), ((207, .iload_n 3, 1, 0, 0, 0, 0), (0, 0, 0)), ((208, .iconst 1, 1, 0, 0, 0, 0), (0, 0, 0)), ((209, .isub, 1, 0, 0, 0, 0), (0, 0, 0)), ((210, .iload 6, 2, 0, 0, 0, 0), (0, 0, 0)), ((212, .aload_n 0, 1, 0, 0, 0, 0), (0, 0, 0)), ((213, .getfield 56, 3, 10, 25, 5138, 0), (1, 86, 102)), ((216, .iload_n 3, 1, 0, 0, 0, 0), (0, 0, 0)), ((217, .iconst 1, 1, 0, 0, 0, 0), (0, 0, 0)), ((218, .isub, 1, 0, 0, 0, 0), (0, 0, 0)), ((219, .iaload, 1, 0, 0, 0, 0), (0, 102, 0)), ((220, .aload_n 0, 1, 0, 0, 0, 0), (0, 0, 0)), ((221, .getfield 56, 3, 10, 25, 5138, 0), (1, 86, 102)), ((224, .iload_n 3, 1, 0, 0, 0, 0), (0, 0, 0)), ((225, .iaload, 1, 0, 0, 0, 0), (0, 102, 0))] (by decide +kernel) rfl ?_
                  refine hx_call (E := (226, .invokestatic 228, 3, 209, 0, 6206, 0)) (M' := yp_m209) [.inl (gx_w (Int.tdiv (m 97 (x5).toNat) 1048576)), .inl (m 102 (gx_w ((gx_w (x3 - 1)) - 1)).toNat), .inl (m 102 (gx_w (x3 - 1)).toNat)] [.inl (gx_w ((gx_w (x3 - 1)) - 1)), .inr (.inl 102)] rfl (by decide +kernel) rfl ⟨rfl, rfl⟩ rfl rfl (hs209 ?_)
                  show hxn xs n yp_m208 229 [(0, .inr (.inl 86)), (2, .inl x2), (3, .inl (gx_w (x3 - 1))), (4, .inl x4), (5, .inl (gx_w (x5 + 1))), (6, .inl (gx_w (Int.tdiv (m 97 (x5).toNat) 1048576))), (7, .inl (Int.tmod (m 97 (x5).toNat) 1048576))] [.inl (lrr (gx_w (Int.tdiv (m 97 (x5).toNat) 1048576)) (m 102 (gx_w ((gx_w (x3 - 1)) - 1)).toNat) (m 102 (gx_w (x3 - 1)).toNat)), .inl (gx_w ((gx_w (x3 - 1)) - 1)), .inr (.inl 102)] m Q
                  refine hx_blk (npc := 16) (L' := [(0, .inr (.inl 86)), (2, .inl x2), (3, .inl (gx_w (x3 - 1))), (4, .inl x4), (5, .inl (gx_w (x5 + 1))), (6, .inl (gx_w (Int.tdiv (m 97 (x5).toNat) 1048576))), (7, .inl (Int.tmod (m 97 (x5).toNat) 1048576))]) (st' := []) (m' := (gx_u m 102 (gx_w ((gx_w (x3 - 1)) - 1)).toNat (lrr (gx_w (Int.tdiv (m 97 (x5).toNat) 1048576)) (m 102 (gx_w ((gx_w (x3 - 1)) - 1)).toNat) (m 102 (gx_w (x3 - 1)).toNat)))) [((229, .iastore, 1, 0, 0, 0, 0), (0, 102, 0)), ((230, .goto (-214), 3, 0, 0, 0, 0), (0, 0, 0))] (by decide +kernel) rfl ?_
                  exact hx_pick [0, 2, 3, 4, 5] (h7 c1 c2 c3 c4 c5 c6 c7 c8)
                · have c8 : (gx_w (Int.tdiv (m 97 (x5).toNat) 1048576)) = 6 := by have h : ¬ ((gx_w (Int.tdiv (m 97 (x5).toNat) 1048576)) ≠ 6) := c8; omega
                  refine hx_blk (npc := 198) (L' := [(0, .inr (.inl 86)), (2, .inl x2), (3, .inl (gx_w (x3 - 1))), (4, .inl x4), (5, .inl (gx_w (x5 + 1))), (6, .inl (gx_w (Int.tdiv (m 97 (x5).toNat) 1048576))), (7, .inl (Int.tmod (m 97 (x5).toNat) 1048576))]) (st' := [.inl (m 102 (gx_w (x3 - 1)).toNat)]) (m' := m) [((192, .aload_n 0, 1, 0, 0, 0, 0), (0, 0, 0)), ((193, .getfield 56, 3, 10, 25, 5138, 0), (1, 86, 102)), ((196, .iload_n 3, 1, 0, 0, 0, 0), (0, 0, 0)), ((197, .iaload, 1, 0, 0, 0, 0), (0, 102, 0))] (by decide +kernel) rfl ?_
                  refine hx_if .ne 203 (by decide +kernel) (fun c9 => ?_) (fun c9 => ?_)
                  · have c9 : (m 102 (gx_w (x3 - 1)).toNat) ≠ 0 := c9
                    refine hx_blk (npc := 226) (L' := [(0, .inr (.inl 86)), (2, .inl x2), (3, .inl (gx_w (x3 - 1))), (4, .inl x4), (5, .inl (gx_w (x5 + 1))), (6, .inl (gx_w (Int.tdiv (m 97 (x5).toNat) 1048576))), (7, .inl (Int.tmod (m 97 (x5).toNat) 1048576))]) (st' := [.inl (m 102 (gx_w (x3 - 1)).toNat), .inl (m 102 (gx_w ((gx_w (x3 - 1)) - 1)).toNat), .inl (gx_w (Int.tdiv (m 97 (x5).toNat) 1048576)), .inl (gx_w ((gx_w (x3 - 1)) - 1)), .inr (.inl 102)]) (m' := m) [((203, .aload_n 0, 1, 0, 0, 0, 0), (0, 0, 0)), ((204, .getfield 56, 3, 10, 25, 5138, 0), (1, 86, 102)), ((207, .iload_n 3, 1, 0, 0, 0, 0), (0, 0, 0)), ((208, .iconst 1, 1, 0, 0, 0, 0), (0, 0, 0)), ((209, .isub, 1, 0, 0, 0, 0), (0, 0, 0)), ((210, .iload 6, 2, 0, 0, 0, 0), (0, 0, 0)), ((212, .aload_n 0, 1, 0, 0, 0, 0), (0, 0, 0)), ((213, .getfield 56, 3, 10, 25, 5138, 0), (1, 86, 102)), ((216, .iload_n 3, 1, 0, 0, 0, 0), (0, 0, 0)), ((217, .iconst 1, 1, 0, 0, 0, 0), (0, 0, 0)), ((218, .isub, 1, 0, 0, 0, 0), (0, 0, 0)), ((219, .iaload, 1, 0, 0, 0, 0), (0, 102, 0)), ((220, .aload_n 0, 1, 0, 0, 0, 0), (0, 0, 0)), ((221, .getfield 56, 3, 10, 25, 5138, 0), (1, 86, 102)), ((224, .iload_n 3, 1, 0, 0, 0, 0), (0, 0, 0)), ((225, .iaload, 1, 0, 0, 0, 0), (0, 102, 0))] (by decide +kernel) rfl ?_
                    refine hx_call (E := (226, .invokestatic 228, 3, 209, 0, 6206, 0)) (M' := yp_m209) [.inl (gx_w (Int.tdiv (m 97 (x5).toNat) 1048576)), .inl (m 102 (gx_w ((gx_w (x3 - 1)) - 1)).toNat), .inl (m 102 (gx_w (x3 - 1)).toNat)] [.inl (gx_w ((gx_w (x3 - 1)) - 1)), .inr (.inl 102)] rfl (by decide +kernel) rfl ⟨rfl, rfl⟩ rfl rfl (hs209 ?_)
                    show hxn xs n yp_m208 229 [(0, .inr (.inl 86)), (2, .inl x2), (3, .inl (gx_w (x3 - 1))), (4, .inl x4), (5, .inl (gx_w (x5 + 1))), (6, .inl (gx_w (Int.tdiv (m 97 (x5).toNat) 1048576))), (7, .inl (Int.tmod (m 97 (x5).toNat) 1048576))] [.inl (lrr (gx_w (Int.tdiv (m 97 (x5).toNat) 1048576)) (m 102 (gx_w ((gx_w (x3 - 1)) - 1)).toNat) (m 102 (gx_w (x3 - 1)).toNat)), .inl (gx_w ((gx_w (x3 - 1)) - 1)), .inr (.inl 102)] m Q
                    refine hx_blk (npc := 16) (L' := [(0, .inr (.inl 86)), (2, .inl x2), (3, .inl (gx_w (x3 - 1))), (4, .inl x4), (5, .inl (gx_w (x5 + 1))), (6, .inl (gx_w (Int.tdiv (m 97 (x5).toNat) 1048576))), (7, .inl (Int.tmod (m 97 (x5).toNat) 1048576))]) (st' := []) (m' := (gx_u m 102 (gx_w ((gx_w (x3 - 1)) - 1)).toNat (lrr (gx_w (Int.tdiv (m 97 (x5).toNat) 1048576)) (m 102 (gx_w ((gx_w (x3 - 1)) - 1)).toNat) (m 102 (gx_w (x3 - 1)).toNat)))) [((229, .iastore, 1, 0, 0, 0, 0), (0, 102, 0)), ((230, .goto (-214), 3, 0, 0, 0, 0), (0, 0, 0))] (by decide +kernel) rfl ?_
                    exact hx_pick [0, 2, 3, 4, 5] (h8 c1 c2 c3 c4 c5 c6 c7 c8 c9)
                  · have c9 : (m 102 (gx_w (x3 - 1)).toNat) = 0 := by have h : ¬ ((m 102 (gx_w (x3 - 1)).toNat) ≠ 0) := c9; omega
                    refine hx_blk (npc := 202) (L' := [(0, .inr (.inl 86)), (2, .inl x2), (3, .inl (gx_w (x3 - 1))), (4, .inl x4), (5, .inl (gx_w (x5 + 1))), (6, .inl (gx_w (Int.tdiv (m 97 (x5).toNat) 1048576))), (7, .inl (Int.tmod (m 97 (x5).toNat) 1048576))]) (st' := [.inl 0]) (m' := m) [((201, .iconst 0, 1, 0, 0, 0, 0), (0, 0, 0))] (by decide +kernel) rfl ?_
                    exact hx_reti (by decide +kernel) (h9 c1 c2 c3 c4 c5 c6 c7 c8 c9)
            · have c6 : (gx_w (Int.tdiv (m 97 (x5).toNat) 1048576)) = 12 := by have h : ¬ ((gx_w (Int.tdiv (m 97 (x5).toNat) 1048576)) ≠ 12) := c6; omega
              refine hx_blk (npc := 147) (L' := [(0, .inr (.inl 86)), (2, .inl x2), (3, .inl x3), (4, .inl x4), (5, .inl (gx_w (x5 + 1))), (6, .inl (gx_w (Int.tdiv (m 97 (x5).toNat) 1048576))), (7, .inl (Int.tmod (m 97 (x5).toNat) 1048576))]) (st' := [.inl 12, .inl (gx_w (Int.tdiv (m 97 (x5).toNat) 1048576)), .inl (m 102 (gx_w (x3 - 1)).toNat)]) (m' := m) [((135, .aload_n 0, 1, 0, 0, 0, 0), (0, 0, 0)), ((136, .getfield 56, 3, 10, 25, 5138, 0), (1, 86, 102)), ((139, .iload_n 3, 1, 0, 0, 0, 0), (0, 0, 0)), ((140, .iconst 1, 1, 0, 0, 0, 0), (0, 0, 0)), ((141, .isub, 1, 0, 0, 0, 0), (0, 0, 0)), ((142, .iaload, 1, 0, 0, 0, 0), (0, 102, 0)), ((143, .iload 6, 2, 0, 0, 0, 0), (0, 0, 0)), ((145, .bipush 12, 2, 0, 0, 0, 0), (0, 0, 0))] (by decide +kernel) rfl ?_
              refine hx_cmp .ne 154 (by decide +kernel) (fun c7 => ?_) (fun c7 => ?_)
              · have c7 : (gx_w (Int.tdiv (m 97 (x5).toNat) 1048576)) ≠ 12 := c7
                exfalso; omega
              · have c7 : (gx_w (Int.tdiv (m 97 (x5).toNat) 1048576)) = 12 := by have h : ¬ ((gx_w (Int.tdiv (m 97 (x5).toNat) 1048576)) ≠ 12) := c7; omega
                refine hx_blk (npc := 155) (L' := [(0, .inr (.inl 86)), (2, .inl x2), (3, .inl x3), (4, .inl x4), (5, .inl (gx_w (x5 + 1))), (6, .inl (gx_w (Int.tdiv (m 97 (x5).toNat) 1048576))), (7, .inl (Int.tmod (m 97 (x5).toNat) 1048576))]) (st' := [.inl 1, .inl (m 102 (gx_w (x3 - 1)).toNat)]) (m' := m) [((150, .iconst 1, 1, 0, 0, 0, 0), (0, 0, 0)), ((151, .goto 4, 3, 0, 0, 0, 0), (0, 0, 0))] (by decide +kernel) rfl ?_
                refine hx_cmp .ne 168 (by decide +kernel) (fun c8 => ?_) (fun c8 => ?_)
                · have c8 : (m 102 (gx_w (x3 - 1)).toNat) ≠ 1 := c8
                  refine hx_blk (npc := 16) (L' := [(0, .inr (.inl 86)), (2, .inl x2), (3, .inl (gx_w (x3 - 1))), (4, .inl x4), (5, .inl (gx_w (x5 + 1))), (6, .inl (gx_w (Int.tdiv (m 97 (x5).toNat) 1048576))), (7, .inl (Int.tmod (m 97 (x5).toNat) 1048576))]) (st' := []) (m' := m) [((168, .iload_n 3, 1, 0, 0, 0, 0), (0, 0, 0)), ((169, .iconst 1, 1, 0, 0, 0, 0), (0, 0, 0)), ((170, .isub, 1, 0, 0, 0, 0), (0, 0, 0)), ((171, .istore_n 3, 1, 0, 0, 0, 0), (0, 0, 0)), ((172, .goto 58, 3, 0, 0, 0, 0), (0, 0, 0)), ((230, .goto (-214), 3, 0, 0, 0, 0), (0, 0, 0))] (by decide +kernel) rfl ?_
                  exact hx_pick [0, 2, 3, 4, 5] (h10 c1 c2 c3 c4 c5 c6 c7 c8)
                · have c8 : (m 102 (gx_w (x3 - 1)).toNat) = 1 := by have h : ¬ ((m 102 (gx_w (x3 - 1)).toNat) ≠ 1) := c8; omega
                  refine hx_blk (npc := 16) (L' := [(0, .inr (.inl 86)), (2, .inl x2), (3, .inl x3), (4, .inl x4), (5, .inl (gx_w (x4 + (Int.tmod (m 97 (x5).toNat) 1048576)))), (6, .inl (gx_w (Int.tdiv (m 97 (x5).toNat) 1048576))), (7, .inl (Int.tmod (m 97 (x5).toNat) 1048576))]) (st' := []) (m' := m) [((158, .iload 4, 2, 0, 0, 0, 0), (0, 0, 0)), ((160, .iload 7, 2, 0, 0, 0, 0), (0, 0, 0)), ((162, .iadd, 1, 0, 0, 0, 0), (0, 0, 0)), ((163, .istore 5, 2, 0, 0, 0, 0), (0, 0, 0)), ((165, .goto 65, 3, 0, 0, 0, 0), (0, 0, 0)), ((230, .goto (-214), 3, 0, 0, 0, 0), (0, 0, 0))] (by decide +kernel) rfl ?_
                  exact hx_pick [0, 2, 3, 4, 5] (h11 c1 c2 c3 c4 c5 c6 c7 c8)
        · have c4 : (gx_w (Int.tdiv (m 97 (x5).toNat) 1048576)) = 10 := by have h : ¬ ((gx_w (Int.tdiv (m 97 (x5).toNat) 1048576)) ≠ 10) := c4; omega
          refine hx_blk (npc := 16) (L' := [(0, .inr (.inl 86)), (2, .inl x2), (3, .inl x3), (4, .inl x4), (5, .inl (gx_w (x5 + 1))), (6, .inl (gx_w (Int.tdiv (m 97 (x5).toNat) 1048576))), (7, .inl (Int.tmod (m 97 (x5).toNat) 1048576))]) (st' := []) (m' := (gx_u m 102 (gx_w (x3 - 1)).toNat (gx_w (1 - (m 102 (gx_w (x3 - 1)).toNat))))) [((100, .aload_n 0, 1, 0, 0, 0, 0), (0, 0, 0)), ((101, .getfield 56, 3, 10, 25, 5138, 0), (1, 86, 102)), ((104, .iload_n 3, 1, 0, 0, 0, 0), (0, 0, 0)), ((105, .iconst 1, 1, 0, 0, 0, 0), (0, 0, 0)), ((106, .isub, 1, 0, 0, 0, 0), (0, 0, 0)), ((107, .iconst 1, 1, 0, 0, 0, 0), (0, 0, 0)), ((108, .aload_n 0, 1, 0, 0, 0, 0), (0, 0, 0)), ((109, .getfield 56, 3, 10, 25, 5138, 0), (1, 86, 102)), ((112, .iload_n 3, 1, 0, 0, 0, 0), (0, 0, 0)), ((113, .iconst 1, 1, 0, 0, 0, 0), (0, 0, 0)), ((114, .isub, 1, 0, 0, 0, 0), (0, 0, 0)), ((115, .iaload, 1, 0, 0, 0, 0), (0, 102, 0)), ((116, .isub, 1, 0, 0, 0, 0), (0, 0, 0)), ((117, .iastore, 1, 0, 0, 0, 0), (0, 102, 0)), ((118, .goto 112, 3, 0, 0, 0, 0), (0, 0, 0)), ((230, .goto (-214), 3, 0, 0, 0, 0), (0, 0, 0))] (by decide +kernel) rfl ?_
          exact hx_pick [0, 2, 3, 4, 5] (h12 c1 c2 c3 c4)
      · have c3 : (gx_w (Int.tdiv (m 97 (x5).toNat) 1048576)) = 1 := by have h : ¬ ((gx_w (Int.tdiv (m 97 (x5).toNat) 1048576)) ≠ 1) := c3; omega
        refine hx_blk (npc := 70) (L' := [(0, .inr (.inl 86)), (2, .inl x2), (3, .inl x3), (4, .inl x4), (5, .inl (gx_w (x5 + 1))), (6, .inl (gx_w (Int.tdiv (m 97 (x5).toNat) 1048576))), (7, .inl (Int.tmod (m 97 (x5).toNat) 1048576))]) (st' := [.inl (gx_w (Int.tdiv (m 97 (x5).toNat) 1048576)), .inl x3, .inr (.inl 102)]) (m' := m) [((63, .aload_n 0, 1, 0, 0, 0, 0), (0, 0, 0)), ((64, .getfield 56, 3, 10, 25, 5138, 0), (1, 86, 102)), ((67, .iload_n 3, 1, 0, 0, 0, 0), (0, 0, 0)), ((68, .iload 6, 2, 0, 0, 0, 0), (0, 0, 0))] (by decide +kernel) rfl ?_
        refine hx_if .ne 78 (by decide +kernel) (fun c4 => ?_) (fun c4 => ?_)
        · have c4 : (gx_w (Int.tdiv (m 97 (x5).toNat) 1048576)) ≠ 0 := c4
          refine hx_blk (npc := 16) (L' := [(0, .inr (.inl 86)), (2, .inl x2), (3, .inl (gx_w (x3 + 1))), (4, .inl x4), (5, .inl (gx_w (x5 + 1))), (6, .inl (gx_w (Int.tdiv (m 97 (x5).toNat) 1048576))), (7, .inl (Int.tmod (m 97 (x5).toNat) 1048576))]) (st' := []) (m' := (gx_u m 102 (x3).toNat (m 103 (Int.tmod (m 97 (x5).toNat) 1048576).toNat))) [((78, .aload_n 0, 1, 0, 0, 0, 0), (0, 0, 0)), ((79, .getfield 59, 3, 10, 26, 5139, 0), (1, 86, 103)), ((82, .iload 7, 2, 0, 0, 0, 0), (0, 0, 0)), ((84, .iaload, 1, 0, 0, 0, 0), (0, 103, 0)), ((85, .iastore, 1, 0, 0, 0, 0), (0, 102, 0)), ((86, .iload_n 3, 1, 0, 0, 0, 0), (0, 0, 0)), ((87, .iconst 1, 1, 0, 0, 0, 0), (0, 0, 0)), ((88, .iadd, 1, 0, 0, 0, 0), (0, 0, 0)), ((89, .istore_n 3, 1, 0, 0, 0, 0), (0, 0, 0)), ((90, .goto 140, 3, 0, 0, 0, 0), (0, 0, 0)), ((230, .goto (-214), 3, 0, 0, 0, 0), (0, 0, 0))] (by decide +kernel) rfl ?_
          exact hx_pick [0, 2, 3, 4, 5] (h13 c1 c2 c3 c4)
        · have c4 : (gx_w (Int.tdiv (m 97 (x5).toNat) 1048576)) = 0 := by have h : ¬ ((gx_w (Int.tdiv (m 97 (x5).toNat) 1048576)) ≠ 0) := c4; omega
          exfalso; omega
end
section
/-! what a code comes to: one step at a time -/
def eC (m0 : gx_M) (c : Nat) (S : List Int) (m : gx_M) : Prop := (∀ c', c' ≠ c → m c' = m0 c') ∧ ∀ i v, S[i]? = some v → m c i = v
def eZ (m0 : gx_M) (c : Nat) (Q : hQ) : Prop := ∀ m, (∀ c', c' ≠ c → m c' = m0 c') → Q (some (.inl 0)) m
section EC
variable {m0 m : gx_M} {c : Nat} {S : List Int} {v w : Int}
theorem eC_low (h : eC m0 c (S ++ [v]) m) : eC m0 c S m := ⟨h.1, fun i x hx => h.2 i x (by
  have hi : i < S.length := (List.getElem?_eq_some_iff.mp hx).1
  rw [List.getElem?_append_left hi]
  exact hx)⟩
theorem eC_top (h : eC m0 c (S ++ [v]) m) : m c S.length = v := h.2 _ _ (by rw [List.getElem?_append_right (Nat.le_refl _), Nat.sub_self]; rfl)
theorem eC_push (h : eC m0 c S m) : eC m0 c (S ++ [v]) (gx_u m c S.length v) := by
  refine ⟨fun c' hc => ?_, fun i x hx => ?_⟩
  · rw [gx_u_off hc]
    exact h.1 c' hc
  · by_cases hi : i = S.length
    · subst hi
      rw [List.getElem?_append_right (Nat.le_refl _), Nat.sub_self] at hx
      cases hx
      exact gx_u_self
    · have h2 : i < (S ++ [v]).length := (List.getElem?_eq_some_iff.mp hx).1
      rw [List.length_append, List.length_singleton] at h2
      rw [List.getElem?_append_left (by omega)] at hx
      rw [gx_u_ne (by omega)]
      exact h.2 i x hx
theorem eC_len : ((S ++ [v]).length : Int) = (S.length : Int) + 1 := by
  rw [List.length_append, List.length_singleton]
  omega
theorem e_td {x a v : Int} (hx : x = 1048576 * a + v) (ha : 0 ≤ a ∧ a ≤ 14) (hv : 0 ≤ v ∧ v < 1048576) : gx_w (Int.tdiv x 1048576) = a ∧ Int.tmod x 1048576 = v := by
  rw [Int.tdiv_eq_ediv_of_nonneg (by omega), Int.tmod_eq_emod_of_nonneg (by omega)]
  exact ⟨by rw [gx_w_id (by omega) (by omega)]; omega, by omega⟩
theorem ew_u {k : Nat} (h : k < 1000) : gx_w ((k : Int) + 1) = ((k + 1 : Nat) : Int) := by
  rw [gx_w_id (by omega) (by omega)]
  omega
end EC
noncomputable def CE (bk : Nat) (xs : List Int32) (n : Nat) (m0 : gx_M) (to : Nat) (S : List Int) (p : Nat) (Q : hQ) : Prop := ∀ m, eC m0 51 S m → hxn xs n yp_m58 10 [(0, .inr (.inl 44)), (1, .inr (.inl bk)), (3, .inl (to : Int)), (4, .inl (S.length : Int)), (5, .inl (p : Int))] [] m Q
noncomputable def RE (xs : List Int32) (n : Nat) (m0 : gx_M) (to : Nat) (S : List Int) (p : Nat) (Q : hQ) : Prop := ∀ m, eC m0 102 S m → hxn xs n yp_m208 16 [(0, .inr (.inl 86)), (2, .inl (to : Int)), (3, .inl (S.length : Int)), (4, .inl 0), (5, .inl (p : Int))] [] m Q
section CEV
variable {bk : Nat} {xs : List Int32} {n : Nat} {Q : hQ} {m0 : gx_M} {to p : Nat} {S : List Int} {a b s v : Int}
theorem ce_eq {m : gx_M} {k k' p' p'' : Int} (ek : k = k') (ep : p' = p'') (h : hxn xs n yp_m58 10 [(0, .inr (.inl 44)), (1, .inr (.inl bk)), (3, .inl (to : Int)), (4, .inl k), (5, .inl p')] [] m Q) : hxn xs n yp_m58 10 [(0, .inr (.inl 44)), (1, .inr (.inl bk)), (3, .inl (to : Int)), (4, .inl k'), (5, .inl p'')] [] m Q := by
  subst ek
  subst ep
  exact h
theorem re_eq {m : gx_M} {k k' p' p'' : Int} (ek : k = k') (ep : p' = p'') (h : hxn xs n yp_m208 16 [(0, .inr (.inl 86)), (2, .inl (to : Int)), (3, .inl k), (4, .inl 0), (5, .inl p')] [] m Q) : hxn xs n yp_m208 16 [(0, .inr (.inl 86)), (2, .inl (to : Int)), (3, .inl k'), (4, .inl 0), (5, .inl p'')] [] m Q := by
  subst ek
  subst ep
  exact h
theorem ce_num (hk : m0 45 p = 0) (ha : m0 46 p = v) (hp : p < to) (ht : to ≤ 240) (hh : S.length + 2 ≤ 64) (h : CE bk xs n m0 to (S ++ [v]) (p + 1) Q) : CE bk xs n m0 to S p Q := by
  have hk : m0 45 p = (0 : Int) := hk
  intro m hm
  have hk1 : m 45 ((p : Int)).toNat = 0 := by
    rw [Int.toNat_natCast, hm.1 45 (by decide)]; exact hk
  have e2 : m 46 ((p : Int)).toNat = v := by
    rw [Int.toNat_natCast, hm.1 46 (by decide)]; exact ha
  refine hx_dn (hr58_10 (by intros; exfalso; omega) (by intros; exfalso; omega) (by intros; exfalso; omega) (by intros; exfalso; omega) (fun _ _ _ _ _ => ?_) (by intros; exfalso; omega) (by intros; exfalso; omega) (by intros; exfalso; omega) (by intros; exfalso; omega) (by intros; exfalso; omega) (by intros; exfalso; omega) (by intros; exfalso; omega) (by intros; exfalso; omega) (by intros; exfalso; omega) (by intros; exfalso; omega) (by intros; exfalso; omega) (by intros; exfalso; omega) (by intros; exfalso; omega) (by intros; exfalso; omega))
  rw [e2, Int.toNat_natCast]
  exact ce_eq (by rw [eC_len, gx_w_id (by omega) (by omega)]) (ew_u (by omega)).symm (h _ (eC_push hm))
theorem ce_let {c : Int} (hk : m0 45 p = 1) (ha : m0 46 p = c) (hp : p < to) (ht : to ≤ 240) (hh : S.length + 2 ≤ 64) (hE : ∀ n m Q, (∀ c', c' ≠ 51 → m c' = m0 c') → Q (some (.inl v)) m → hxn xs n yp_m59 0 [(0, .inr (.inl 44)), (1, .inr (.inl bk)), (2, .inl c)] [] m Q) (h : CE bk xs n m0 to (S ++ [v]) (p + 1) Q) : CE bk xs n m0 to S p Q := by
  intro m hm
  have hk1 : m 45 ((p : Int)).toNat = 1 := by
    rw [Int.toNat_natCast, hm.1 45 (by decide)]; exact hk
  have e2 : m 46 ((p : Int)).toNat = c := by
    rw [Int.toNat_natCast, hm.1 46 (by decide)]; exact ha
  refine hx_dn (hr58_10 (by intros; exfalso; omega) (by intros; exfalso; omega) (by intros; exfalso; omega) (by intros; exfalso; omega) (by intros; exfalso; omega) (by intros; exfalso; omega) (by intros; exfalso; omega) (by intros; exfalso; omega) (by intros; exfalso; omega) (by intros; exfalso; omega) (by intros; exfalso; omega) (by intros; exfalso; omega) (by intros; exfalso; omega) (by intros; exfalso; omega) (by intros; exfalso; omega) (by intros; exfalso; omega) (by intros; exfalso; omega) (fun _ _ _ _ _ _ => ?_) (by intros; exfalso; omega))
  rw [e2]
  refine hE _ _ _ hm.1 ?_
  show hxn xs n yp_m58 89 _ [.inl v, .inl (S.length : Int), .inr (.inl 51)] m Q
  refine hx_dn (hr58_89 ?_)
  rw [Int.toNat_natCast]
  exact ce_eq (by rw [eC_len, gx_w_id (by omega) (by omega)]) (ew_u (by omega)).symm (h _ (eC_push hm))
theorem ce_not (hk : m0 45 p = s) (hs : s = 33) (hv : v = 0 ∨ v = 1) (hp : p < to) (ht : to ≤ 240) (hh : S.length + 2 ≤ 64) (h : CE bk xs n m0 to (S ++ [1 - v]) (p + 1) Q) : CE bk xs n m0 to (S ++ [v]) p Q := by
  intro m hm
  have el : ((S ++ [v]).length : Int) = (S.length : Int) + 1 := eC_len
  rw [el]
  have w1 : gx_w ((S.length : Int) + 1 - 1) = (S.length : Int) := by
    rw [gx_w_id (by omega) (by omega)]; omega
  have w2 : gx_w ((S.length : Int) + 1 + (-1)) = (S.length : Int) := by
    rw [gx_w_id (by omega) (by omega)]; omega
  have hk1 : m 45 ((p : Int)).toNat = s := by
    rw [Int.toNat_natCast, hm.1 45 (by decide)]; exact hk
  have tv : m 51 (gx_w ((S.length : Int) + 1 - 1)).toNat = v := by
    rw [w1, Int.toNat_natCast]; exact eC_top hm
  refine hx_dn (hr58_10 (by intros; exfalso; omega) (by intros; exfalso; omega) (by intros; exfalso; omega) (by intros; exfalso; omega) (by intros; exfalso; omega) (by intros; exfalso; omega) (by intros; exfalso; omega) (by intros; exfalso; omega) (by intros; exfalso; omega) (by intros; exfalso; omega) (by intros; exfalso; omega) (by intros; exfalso; omega) (fun _ _ _ _ _ _ _ _ => ?_) (by intros; exfalso; omega) (by intros; exfalso; omega) (by intros; exfalso; omega) (by intros; exfalso; omega) (by intros; exfalso; omega) (by intros; exfalso; omega))
  rw [tv, w1, Int.toNat_natCast, gx_w_id (x := 1 - v) (by omega) (by omega)]
  exact ce_eq eC_len (ew_u (by omega)).symm (h _ (eC_push (eC_low hm)))
theorem ce_and0 {q : Nat} (hk : m0 45 p = s) (hs : s = 38) (hv : v = 0) (ha : m0 46 p = (q : Int)) (hq : p < q) (hq2 : q ≤ to) (hp : p < to) (ht : to ≤ 240) (hh : S.length + 2 ≤ 64) (h : CE bk xs n m0 to (S ++ [v]) q Q) : CE bk xs n m0 to (S ++ [v]) p Q := by
  intro m hm
  have el : ((S ++ [v]).length : Int) = (S.length : Int) + 1 := eC_len
  rw [el]
  have w1 : gx_w ((S.length : Int) + 1 - 1) = (S.length : Int) := by
    rw [gx_w_id (by omega) (by omega)]; omega
  have w2 : gx_w ((S.length : Int) + 1 + (-1)) = (S.length : Int) := by
    rw [gx_w_id (by omega) (by omega)]; omega
  have hk1 : m 45 ((p : Int)).toNat = s := by
    rw [Int.toNat_natCast, hm.1 45 (by decide)]; exact hk
  have tv : m 51 (gx_w ((S.length : Int) + 1 - 1)).toNat = v := by
    rw [w1, Int.toNat_natCast]; exact eC_top hm
  have e2 : m 46 ((p : Int)).toNat = (q : Int) := by
    rw [Int.toNat_natCast, hm.1 46 (by decide)]; exact ha
  refine hx_dn (hr58_10 (by intros; exfalso; omega) (by intros; exfalso; omega) (by intros; exfalso; omega) (by intros; exfalso; omega) (by intros; exfalso; omega) (by intros; exfalso; omega) (fun _ _ _ _ _ _ _ _ => ?_) (by intros; exfalso; omega) (by intros; exfalso; omega) (by intros; exfalso; omega) (by intros; exfalso; omega) (by intros; exfalso; omega) (by intros; exfalso; omega) (by intros; exfalso; omega) (by intros; exfalso; omega) (by intros; exfalso; omega) (by intros; exfalso; omega) (by intros; exfalso; omega) (by intros; exfalso; omega))
  rw [e2, gx_w_id (x := (q : Int) - 1) (by omega) (by omega)]
  refine ce_eq eC_len ?_ (h _ hm)
  split
  · rw [gx_w_id (by omega) (by omega)]; omega
  · rw [gx_w_id (by omega) (by omega)]; omega
theorem ce_and1 (hk : m0 45 p = s) (hs : s = 38) (hv : v ≠ 0) (hp : p < to) (ht : to ≤ 240) (hh : S.length + 2 ≤ 64) (h : CE bk xs n m0 to S (p + 1) Q) : CE bk xs n m0 to (S ++ [v]) p Q := by
  intro m hm
  have el : ((S ++ [v]).length : Int) = (S.length : Int) + 1 := eC_len
  rw [el]
  have w1 : gx_w ((S.length : Int) + 1 - 1) = (S.length : Int) := by
    rw [gx_w_id (by omega) (by omega)]; omega
  have w2 : gx_w ((S.length : Int) + 1 + (-1)) = (S.length : Int) := by
    rw [gx_w_id (by omega) (by omega)]; omega
  have hk1 : m 45 ((p : Int)).toNat = s := by
    rw [Int.toNat_natCast, hm.1 45 (by decide)]; exact hk
  have tv : m 51 (gx_w ((S.length : Int) + 1 - 1)).toNat = v := by
    rw [w1, Int.toNat_natCast]; exact eC_top hm
  refine hx_dn (hr58_10 (by intros; exfalso; omega) (by intros; exfalso; omega) (by intros; exfalso; omega) (by intros; exfalso; omega) (by intros; exfalso; omega) (by intros; exfalso; omega) (by intros; exfalso; omega) (fun _ _ _ _ _ _ _ _ => ?_) (by intros; exfalso; omega) (by intros; exfalso; omega) (by intros; exfalso; omega) (by intros; exfalso; omega) (by intros; exfalso; omega) (by intros; exfalso; omega) (by intros; exfalso; omega) (by intros; exfalso; omega) (by intros; exfalso; omega) (by intros; exfalso; omega) (by intros; exfalso; omega))
  rw [w2]
  exact ce_eq rfl (ew_u (by omega)).symm (h _ (eC_low hm))
theorem ce_or0 (hk : m0 45 p = s) (hs : s = 124) (hv : v = 0) (hp : p < to) (ht : to ≤ 240) (hh : S.length + 2 ≤ 64) (h : CE bk xs n m0 to S (p + 1) Q) : CE bk xs n m0 to (S ++ [v]) p Q := by
  intro m hm
  have el : ((S ++ [v]).length : Int) = (S.length : Int) + 1 := eC_len
  rw [el]
  have w1 : gx_w ((S.length : Int) + 1 - 1) = (S.length : Int) := by
    rw [gx_w_id (by omega) (by omega)]; omega
  have w2 : gx_w ((S.length : Int) + 1 + (-1)) = (S.length : Int) := by
    rw [gx_w_id (by omega) (by omega)]; omega
  have hk1 : m 45 ((p : Int)).toNat = s := by
    rw [Int.toNat_natCast, hm.1 45 (by decide)]; exact hk
  have tv : m 51 (gx_w ((S.length : Int) + 1 - 1)).toNat = v := by
    rw [w1, Int.toNat_natCast]; exact eC_top hm
  refine hx_dn (hr58_10 (by intros; exfalso; omega) (by intros; exfalso; omega) (by intros; exfalso; omega) (by intros; exfalso; omega) (by intros; exfalso; omega) (by intros; exfalso; omega) (by intros; exfalso; omega) (by intros; exfalso; omega) (by intros; exfalso; omega) (by intros; exfalso; omega) (by intros; exfalso; omega) (by intros; exfalso; omega) (by intros; exfalso; omega) (by intros; exfalso; omega) (fun _ _ _ _ _ _ _ _ _ => ?_) (by intros; exfalso; omega) (by intros; exfalso; omega) (by intros; exfalso; omega) (by intros; exfalso; omega))
  rw [w2]
  exact ce_eq rfl (ew_u (by omega)).symm (h _ (eC_low hm))
theorem ce_or1 {q : Nat} (hk : m0 45 p = s) (hs : s = 124) (hv : v ≠ 0) (ha : m0 46 p = (q : Int)) (hq : p < q) (hq2 : q ≤ to) (hp : p < to) (ht : to ≤ 240) (hh : S.length + 2 ≤ 64) (h : CE bk xs n m0 to (S ++ [v]) q Q) : CE bk xs n m0 to (S ++ [v]) p Q := by
  intro m hm
  have el : ((S ++ [v]).length : Int) = (S.length : Int) + 1 := eC_len
  rw [el]
  have w1 : gx_w ((S.length : Int) + 1 - 1) = (S.length : Int) := by
    rw [gx_w_id (by omega) (by omega)]; omega
  have w2 : gx_w ((S.length : Int) + 1 + (-1)) = (S.length : Int) := by
    rw [gx_w_id (by omega) (by omega)]; omega
  have hk1 : m 45 ((p : Int)).toNat = s := by
    rw [Int.toNat_natCast, hm.1 45 (by decide)]; exact hk
  have tv : m 51 (gx_w ((S.length : Int) + 1 - 1)).toNat = v := by
    rw [w1, Int.toNat_natCast]; exact eC_top hm
  have e2 : m 46 ((p : Int)).toNat = (q : Int) := by
    rw [Int.toNat_natCast, hm.1 46 (by decide)]; exact ha
  refine hx_dn (hr58_10 (by intros; exfalso; omega) (by intros; exfalso; omega) (by intros; exfalso; omega) (by intros; exfalso; omega) (by intros; exfalso; omega) (by intros; exfalso; omega) (by intros; exfalso; omega) (by intros; exfalso; omega) (by intros; exfalso; omega) (by intros; exfalso; omega) (by intros; exfalso; omega) (by intros; exfalso; omega) (by intros; exfalso; omega) (by intros; exfalso; omega) (by intros; exfalso; omega) (fun _ _ _ _ _ _ _ _ _ => ?_) (by intros; exfalso; omega) (by intros; exfalso; omega) (by intros; exfalso; omega))
  rw [e2, gx_w_id (x := (q : Int) - 1) (by omega) (by omega)]
  refine ce_eq eC_len ?_ (h _ hm)
  split
  · rw [gx_w_id (by omega) (by omega)]; omega
  · rw [gx_w_id (by omega) (by omega)]; omega
theorem ce_bin (hk : m0 45 p = s) (hs : s = 42 ∨ s = 47 ∨ s = 37 ∨ s = 43 ∨ s = 45 ∨ s = 60 ∨ s = 62 ∨ s = 61) (hp : p < to) (ht : to ≤ 240) (hh : S.length + 2 ≤ 64) (hz : rfd s b → eZ m0 51 Q) (h : ¬ rfd s b → CE bk xs n m0 to (S ++ [lre s a b]) (p + 1) Q) : CE bk xs n m0 to (S ++ [a] ++ [b]) p Q := by
  intro m hm
  have el : ((S ++ [a] ++ [b]).length : Int) = (S.length : Int) + 2 := by
    rw [eC_len, eC_len]; omega
  rw [el]
  have w1 : gx_w ((S.length : Int) + 2 - 1) = ((S.length + 1 : Nat) : Int) := by
    rw [gx_w_id (by omega) (by omega)]; omega
  have w2 : gx_w ((S.length : Int) + 2 + (-1)) = ((S.length + 1 : Nat) : Int) := by
    rw [gx_w_id (by omega) (by omega)]; omega
  have w3 : gx_w (((S.length + 1 : Nat) : Int) - 1) = (S.length : Int) := by
    rw [gx_w_id (by omega) (by omega)]; omega
  have tb := eC_top hm
  rw [List.length_append, List.length_singleton] at tb
  have ta := eC_top (eC_low hm)
  have hk1 : m 45 ((p : Int)).toNat = s := by
    rw [Int.toNat_natCast, hm.1 45 (by decide)]; exact hk
  refine hx_dn (hr58_10 (by intros; exfalso; omega) (by intros; exfalso; omega) (by intros; exfalso; omega) (by intros; exfalso; omega) (by intros; exfalso; omega) (by intros; exfalso; omega) (by intros; exfalso; omega) (by intros; exfalso; omega) (by intros; exfalso; omega) (by intros; exfalso; omega) (fun _ _ _ _ _ _ _ _ c => hz ?_ _ hm.1) (fun _ _ _ _ _ _ _ _ c => ?_) (by intros; exfalso; omega) (by intros; exfalso; omega) (by intros; exfalso; omega) (by intros; exfalso; omega) (by intros; exfalso; omega) (by intros; exfalso; omega) (by intros; exfalso; omega))
  · rw [hk1, w1, Int.toNat_natCast, tb] at c
    exact c
  · rw [hk1, w1, Int.toNat_natCast, tb] at c
    rw [hk1, w2, w3, Int.toNat_natCast, Int.toNat_natCast, ta, tb]
    exact ce_eq (by rw [eC_len]; omega) (ew_u (by omega)).symm (h c _ (eC_push (eC_low (eC_low hm))))
theorem ce_end (hp : to ≤ p) (h : ∀ m, (∀ c', c' ≠ 51 → m c' = m0 c') → Q (some (.inl v)) m) : CE bk xs n m0 to ([] ++ [v]) p Q := by
  intro m hm
  have el : (([] ++ [v] : List Int).length : Int) = 1 := rfl
  have w0 : gx_w ((([] ++ [v] : List Int).length : Int) - 1) = 0 := by
    rw [el, gx_w_id (by omega) (by omega)]
    rfl
  have tv : m 51 (gx_w ((([] ++ [v] : List Int).length : Int) - 1)).toNat = v := by
    rw [w0]
    exact eC_top (S := []) hm
  refine hx_dn (hr58_10 (by intros; exfalso; omega) (fun _ _ => ?_) (by intros; exfalso; omega) (fun _ _ _ => ?_) (by intros; exfalso; omega) (by intros; exfalso; omega) (by intros; exfalso; omega) (by intros; exfalso; omega) (by intros; exfalso; omega) (by intros; exfalso; omega) (by intros; exfalso; omega) (by intros; exfalso; omega) (by intros; exfalso; omega) (by intros; exfalso; omega) (by intros; exfalso; omega) (by intros; exfalso; omega) (by intros; exfalso; omega) (by intros; exfalso; omega) (by intros; exfalso; omega))
  · rw [tv]
    exact h m hm.1
  · rw [tv]
    exact h m hm.1
theorem re_num (hk : m0 97 p = 1048576 * 0 + v) (hv : 0 ≤ v ∧ v < 1048576) (hp : p < to) (ht : to ≤ 240) (hh : S.length + 2 ≤ 64) (h : RE xs n m0 to (S ++ [v]) (p + 1) Q) : RE xs n m0 to S p Q := by
  intro m hm
  have hb : m 97 ((p : Int)).toNat = 1048576 * 0 + v := by
    rw [Int.toNat_natCast, hm.1 97 (by decide)]; exact hk
  have k1 : gx_w (Int.tdiv (m 97 ((p : Int)).toNat) 1048576) = 0 := by
    exact (e_td hb (by omega) (by omega)).1
  have k2 : Int.tmod (m 97 ((p : Int)).toNat) 1048576 = v := by
    exact (e_td hb (by omega) (by omega)).2
  refine hx_dn (hr208_16 (by intros; exfalso; omega) (fun _ _ _ => ?_) (by intros; exfalso; omega) (by intros; exfalso; omega) (by intros; exfalso; omega) (by intros; exfalso; omega) (by intros; exfalso; omega) (by intros; exfalso; omega) (by intros; exfalso; omega) (by intros; exfalso; omega) (by intros; exfalso; omega) (by intros; exfalso; omega) (by intros; exfalso; omega))
  rw [k2, Int.toNat_natCast]
  exact re_eq (by rw [eC_len, gx_w_id (by omega) (by omega)]) (ew_u (by omega)).symm (h _ (eC_push hm))
theorem re_let {q : Nat} (hk : m0 97 p = 1048576 * 1 + (q : Int)) (hq : q < 1000) (hv : m0 103 q = v) (hp : p < to) (ht : to ≤ 240) (hh : S.length + 2 ≤ 64) (h : RE xs n m0 to (S ++ [v]) (p + 1) Q) : RE xs n m0 to S p Q := by
  intro m hm
  have hb : m 97 ((p : Int)).toNat = 1048576 * 1 + (q : Int) := by
    rw [Int.toNat_natCast, hm.1 97 (by decide)]; exact hk
  have k1 : gx_w (Int.tdiv (m 97 ((p : Int)).toNat) 1048576) = 1 := by
    exact (e_td hb (by omega) (by omega)).1
  have k2 : Int.tmod (m 97 ((p : Int)).toNat) 1048576 = (q : Int) := by
    exact (e_td hb (by omega) (by omega)).2
  refine hx_dn (hr208_16 (by intros; exfalso; omega) (by intros; exfalso; omega) (by intros; exfalso; omega) (by intros; exfalso; omega) (by intros; exfalso; omega) (by intros; exfalso; omega) (by intros; exfalso; omega) (by intros; exfalso; omega) (by intros; exfalso; omega) (by intros; exfalso; omega) (by intros; exfalso; omega) (by intros; exfalso; omega) (fun _ _ _ _ => ?_))
  rw [k2, Int.toNat_natCast, Int.toNat_natCast, hm.1 103 (by decide), hv]
  exact re_eq (by rw [eC_len, gx_w_id (by omega) (by omega)]) (ew_u (by omega)).symm (h _ (eC_push hm))
theorem re_not (hk : m0 97 p = 1048576 * 10 + 0) (hv : v = 0 ∨ v = 1) (hp : p < to) (ht : to ≤ 240) (hh : S.length + 2 ≤ 64) (h : RE xs n m0 to (S ++ [1 - v]) (p + 1) Q) : RE xs n m0 to (S ++ [v]) p Q := by
  intro m hm
  have el : ((S ++ [v]).length : Int) = (S.length : Int) + 1 := eC_len
  rw [el]
  have w1 : gx_w ((S.length : Int) + 1 - 1) = (S.length : Int) := by
    rw [gx_w_id (by omega) (by omega)]; omega
  have w2 : gx_w ((S.length : Int) + 1 - 1) = (S.length : Int) := by
    rw [gx_w_id (by omega) (by omega)]; omega
  have hb : m 97 ((p : Int)).toNat = 1048576 * 10 + 0 := by
    rw [Int.toNat_natCast, hm.1 97 (by decide)]; exact hk
  have k1 : gx_w (Int.tdiv (m 97 ((p : Int)).toNat) 1048576) = 10 := by
    exact (e_td hb (by omega) (by omega)).1
  have k2 : Int.tmod (m 97 ((p : Int)).toNat) 1048576 = 0 := by
    exact (e_td hb (by omega) (by omega)).2
  have tv : m 102 (gx_w ((S.length : Int) + 1 - 1)).toNat = v := by
    rw [w1, Int.toNat_natCast]; exact eC_top hm
  refine hx_dn (hr208_16 (by intros; exfalso; omega) (by intros; exfalso; omega) (by intros; exfalso; omega) (by intros; exfalso; omega) (by intros; exfalso; omega) (by intros; exfalso; omega) (by intros; exfalso; omega) (by intros; exfalso; omega) (by intros; exfalso; omega) (by intros; exfalso; omega) (by intros; exfalso; omega) (fun _ _ _ _ => ?_) (by intros; exfalso; omega))
  rw [tv, w1, Int.toNat_natCast, gx_w_id (x := 1 - v) (by omega) (by omega)]
  exact re_eq eC_len (ew_u (by omega)).symm (h _ (eC_push (eC_low hm)))
theorem re_and0 {q : Nat} (hk : m0 97 p = 1048576 * 11 + (q : Int)) (hv : v = 0) (hp : p < to) (ht : to ≤ 240) (hh : S.length + 2 ≤ 64) (hq : q ≤ 240) (h : RE xs n m0 to (S ++ [v]) q Q) : RE xs n m0 to (S ++ [v]) p Q := by
  intro m hm
  have el : ((S ++ [v]).length : Int) = (S.length : Int) + 1 := eC_len
  rw [el]
  have w1 : gx_w ((S.length : Int) + 1 - 1) = (S.length : Int) := by
    rw [gx_w_id (by omega) (by omega)]; omega
  have w2 : gx_w ((S.length : Int) + 1 - 1) = (S.length : Int) := by
    rw [gx_w_id (by omega) (by omega)]; omega
  have hb : m 97 ((p : Int)).toNat = 1048576 * 11 + (q : Int) := by
    rw [Int.toNat_natCast, hm.1 97 (by decide)]; exact hk
  have k1 : gx_w (Int.tdiv (m 97 ((p : Int)).toNat) 1048576) = 11 := by
    exact (e_td hb (by omega) (by omega)).1
  have k2 : Int.tmod (m 97 ((p : Int)).toNat) 1048576 = (q : Int) := by
    exact (e_td hb (by omega) (by omega)).2
  have tv : m 102 (gx_w ((S.length : Int) + 1 - 1)).toNat = v := by
    rw [w1, Int.toNat_natCast]; exact eC_top hm
  refine hx_dn (hr208_16 (by intros; exfalso; omega) (by intros; exfalso; omega) (by intros; exfalso; omega) (fun _ _ _ _ _ _ _ => ?_) (by intros; exfalso; omega) (by intros; exfalso; omega) (by intros; exfalso; omega) (by intros; exfalso; omega) (by intros; exfalso; omega) (by intros; exfalso; omega) (by intros; exfalso; omega) (by intros; exfalso; omega) (by intros; exfalso; omega))
  rw [k2]
  exact re_eq eC_len (by rw [gx_w_id (by omega) (by omega)]; omega) (h _ hm)
theorem re_and1 {q : Nat} (hk : m0 97 p = 1048576 * 11 + (q : Int)) (hv : v ≠ 0) (hp : p < to) (ht : to ≤ 240) (hh : S.length + 2 ≤ 64) (hq : q ≤ 240) (h : RE xs n m0 to S (p + 1) Q) : RE xs n m0 to (S ++ [v]) p Q := by
  intro m hm
  have el : ((S ++ [v]).length : Int) = (S.length : Int) + 1 := eC_len
  rw [el]
  have w1 : gx_w ((S.length : Int) + 1 - 1) = (S.length : Int) := by
    rw [gx_w_id (by omega) (by omega)]; omega
  have w2 : gx_w ((S.length : Int) + 1 - 1) = (S.length : Int) := by
    rw [gx_w_id (by omega) (by omega)]; omega
  have hb : m 97 ((p : Int)).toNat = 1048576 * 11 + (q : Int) := by
    rw [Int.toNat_natCast, hm.1 97 (by decide)]; exact hk
  have k1 : gx_w (Int.tdiv (m 97 ((p : Int)).toNat) 1048576) = 11 := by
    exact (e_td hb (by omega) (by omega)).1
  have k2 : Int.tmod (m 97 ((p : Int)).toNat) 1048576 = (q : Int) := by
    exact (e_td hb (by omega) (by omega)).2
  have tv : m 102 (gx_w ((S.length : Int) + 1 - 1)).toNat = v := by
    rw [w1, Int.toNat_natCast]; exact eC_top hm
  refine hx_dn (hr208_16 (by intros; exfalso; omega) (by intros; exfalso; omega) (fun _ _ _ _ _ _ _ => ?_) (by intros; exfalso; omega) (by intros; exfalso; omega) (by intros; exfalso; omega) (by intros; exfalso; omega) (by intros; exfalso; omega) (by intros; exfalso; omega) (by intros; exfalso; omega) (by intros; exfalso; omega) (by intros; exfalso; omega) (by intros; exfalso; omega))
  rw [w1]
  exact re_eq rfl (ew_u (by omega)).symm (h _ (eC_low hm))
theorem re_or0 {q : Nat} (hk : m0 97 p = 1048576 * 12 + (q : Int)) (hv : v ≠ 1) (hp : p < to) (ht : to ≤ 240) (hh : S.length + 2 ≤ 64) (hq : q ≤ 240) (h : RE xs n m0 to S (p + 1) Q) : RE xs n m0 to (S ++ [v]) p Q := by
  intro m hm
  have el : ((S ++ [v]).length : Int) = (S.length : Int) + 1 := eC_len
  rw [el]
  have w1 : gx_w ((S.length : Int) + 1 - 1) = (S.length : Int) := by
    rw [gx_w_id (by omega) (by omega)]; omega
  have w2 : gx_w ((S.length : Int) + 1 - 1) = (S.length : Int) := by
    rw [gx_w_id (by omega) (by omega)]; omega
  have hb : m 97 ((p : Int)).toNat = 1048576 * 12 + (q : Int) := by
    rw [Int.toNat_natCast, hm.1 97 (by decide)]; exact hk
  have k1 : gx_w (Int.tdiv (m 97 ((p : Int)).toNat) 1048576) = 12 := by
    exact (e_td hb (by omega) (by omega)).1
  have k2 : Int.tmod (m 97 ((p : Int)).toNat) 1048576 = (q : Int) := by
    exact (e_td hb (by omega) (by omega)).2
  have tv : m 102 (gx_w ((S.length : Int) + 1 - 1)).toNat = v := by
    rw [w1, Int.toNat_natCast]; exact eC_top hm
  refine hx_dn (hr208_16 (by intros; exfalso; omega) (by intros; exfalso; omega) (by intros; exfalso; omega) (by intros; exfalso; omega) (by intros; exfalso; omega) (by intros; exfalso; omega) (by intros; exfalso; omega) (by intros; exfalso; omega) (by intros; exfalso; omega) (fun _ _ _ _ _ _ _ _ => ?_) (by intros; exfalso; omega) (by intros; exfalso; omega) (by intros; exfalso; omega))
  rw [w1]
  exact re_eq rfl (ew_u (by omega)).symm (h _ (eC_low hm))
theorem re_or1 {q : Nat} (hk : m0 97 p = 1048576 * 12 + (q : Int)) (hv : v = 1) (hp : p < to) (ht : to ≤ 240) (hh : S.length + 2 ≤ 64) (hq : q ≤ 240) (h : RE xs n m0 to (S ++ [v]) q Q) : RE xs n m0 to (S ++ [v]) p Q := by
  intro m hm
  have el : ((S ++ [v]).length : Int) = (S.length : Int) + 1 := eC_len
  rw [el]
  have w1 : gx_w ((S.length : Int) + 1 - 1) = (S.length : Int) := by
    rw [gx_w_id (by omega) (by omega)]; omega
  have w2 : gx_w ((S.length : Int) + 1 - 1) = (S.length : Int) := by
    rw [gx_w_id (by omega) (by omega)]; omega
  have hb : m 97 ((p : Int)).toNat = 1048576 * 12 + (q : Int) := by
    rw [Int.toNat_natCast, hm.1 97 (by decide)]; exact hk
  have k1 : gx_w (Int.tdiv (m 97 ((p : Int)).toNat) 1048576) = 12 := by
    exact (e_td hb (by omega) (by omega)).1
  have k2 : Int.tmod (m 97 ((p : Int)).toNat) 1048576 = (q : Int) := by
    exact (e_td hb (by omega) (by omega)).2
  have tv : m 102 (gx_w ((S.length : Int) + 1 - 1)).toNat = v := by
    rw [w1, Int.toNat_natCast]; exact eC_top hm
  refine hx_dn (hr208_16 (by intros; exfalso; omega) (by intros; exfalso; omega) (by intros; exfalso; omega) (by intros; exfalso; omega) (by intros; exfalso; omega) (by intros; exfalso; omega) (by intros; exfalso; omega) (by intros; exfalso; omega) (by intros; exfalso; omega) (by intros; exfalso; omega) (fun _ _ _ _ _ _ _ _ => ?_) (by intros; exfalso; omega) (by intros; exfalso; omega))
  rw [k2]
  exact re_eq eC_len (by rw [gx_w_id (by omega) (by omega)]; omega) (h _ hm)
theorem lre_rr (s x y : Int) (hs : s = 42 ∨ s = 47 ∨ s = 37 ∨ s = 43 ∨ s = 45 ∨ s = 60 ∨ s = 62 ∨ s = 61) (h : ¬ rfd s y) : lrr (lop s) x y = lre s x y := by
  unfold rfd at h
  rcases hs with e | e | e | e | e | e | e | e <;> subst e <;> unfold lrr lre lop <;> simp <;> omega
theorem re_bin (hk : m0 97 p = 1048576 * lop s + 0) (hs : s = 42 ∨ s = 47 ∨ s = 37 ∨ s = 43 ∨ s = 45 ∨ s = 60 ∨ s = 62 ∨ s = 61) (hp : p < to) (ht : to ≤ 240) (hh : S.length + 2 ≤ 64) (hz : rfd s b → eZ m0 102 Q) (h : ¬ rfd s b → RE xs n m0 to (S ++ [lre s a b]) (p + 1) Q) : RE xs n m0 to (S ++ [a] ++ [b]) p Q := by
  have hl : (s = 47 ∧ lop s = 5) ∨ (s = 37 ∧ lop s = 6) ∨ (s ≠ 47 ∧ s ≠ 37 ∧ 2 ≤ lop s ∧ lop s ≤ 9 ∧ lop s ≠ 5 ∧ lop s ≠ 6) := by
    unfold lop
    omega
  have hlr := lre_rr s a b hs
  intro m hm
  have el : ((S ++ [a] ++ [b]).length : Int) = (S.length : Int) + 2 := by
    rw [eC_len, eC_len]; omega
  rw [el]
  have w1 : gx_w ((S.length : Int) + 2 - 1) = ((S.length + 1 : Nat) : Int) := by
    rw [gx_w_id (by omega) (by omega)]; omega
  have w2 : gx_w ((S.length : Int) + 2 - 1) = ((S.length + 1 : Nat) : Int) := by
    rw [gx_w_id (by omega) (by omega)]; omega
  have w3 : gx_w (((S.length + 1 : Nat) : Int) - 1) = (S.length : Int) := by
    rw [gx_w_id (by omega) (by omega)]; omega
  have tb := eC_top hm
  rw [List.length_append, List.length_singleton] at tb
  have ta := eC_top (eC_low hm)
  have hb : m 97 ((p : Int)).toNat = 1048576 * lop s + 0 := by
    rw [Int.toNat_natCast, hm.1 97 (by decide)]; exact hk
  have k1 : gx_w (Int.tdiv (m 97 ((p : Int)).toNat) 1048576) = lop s := by
    exact (e_td hb (by omega) (by omega)).1
  have k2 : Int.tmod (m 97 ((p : Int)).toNat) 1048576 = 0 := by
    exact (e_td hb (by omega) (by omega)).2
  have fin : ¬ rfd s b → hxn xs n yp_m208 16 [(0, .inr (.inl 86)), (2, .inl (to : Int)), (3, .inl (gx_w ((S.length : Int) + 2 - 1))), (4, .inl 0), (5, .inl (gx_w ((p : Int) + 1)))] [] (gx_u m 102 (gx_w ((gx_w ((S.length : Int) + 2 - 1)) - 1)).toNat (lrr (gx_w (Int.tdiv (m 97 ((p : Int)).toNat) 1048576)) (m 102 (gx_w ((gx_w ((S.length : Int) + 2 - 1)) - 1)).toNat) (m 102 (gx_w ((S.length : Int) + 2 - 1)).toNat))) Q := fun hr => by
    rw [k1, w1, w3, Int.toNat_natCast, Int.toNat_natCast, ta, tb, hlr hr]
    exact re_eq (by rw [eC_len]; omega) (ew_u (by omega)).symm (h hr _ (eC_push (eC_low (eC_low hm))))
  have tb2 : m 102 (gx_w ((S.length : Int) + 2 - 1)).toNat = b := by
    rw [w1, Int.toNat_natCast]; exact tb
  refine hx_dn (hr208_16 (by intros; exfalso; omega) (by intros; exfalso; omega) (by intros; exfalso; omega) (by intros; exfalso; omega) (fun _ _ _ _ _ _ c1 c => fin (by unfold rfd; omega)) (fun _ _ _ _ _ _ c1 c => hz (by unfold rfd; omega) _ hm.1) (fun _ _ _ _ _ _ c1 c => fin (by unfold rfd; omega)) (fun _ _ _ _ _ _ _ c1 c => fin (by unfold rfd; omega)) (fun _ _ _ _ _ _ _ c1 c => hz (by unfold rfd; omega) _ hm.1) (by intros; exfalso; omega) (by intros; exfalso; omega) (by intros; exfalso; omega) (by intros; exfalso; omega))
theorem re_end (hp : to ≤ p) (h : ∀ m, (∀ c', c' ≠ 102 → m c' = m0 c') → Q (some (.inl v)) m) : RE xs n m0 to ([] ++ [v]) p Q := by
  intro m hm
  have tv : m 102 0 = v := eC_top (S := []) hm
  refine hx_dn (hr208_16 (fun _ => ?_) (by intros; exfalso; omega) (by intros; exfalso; omega) (by intros; exfalso; omega) (by intros; exfalso; omega) (by intros; exfalso; omega) (by intros; exfalso; omega) (by intros; exfalso; omega) (by intros; exfalso; omega) (by intros; exfalso; omega) (by intros; exfalso; omega) (by intros; exfalso; omega) (by intros; exfalso; omega))
  rw [tv]
  exact h m hm.1
end CEV
end
section
/-! what a code comes to: both come to the same, or refuse -/
noncomputable def lEvC (bk : Nat) (xs : List Int32) (m0 : gx_M) (a b h : Nat) (r : Option Int) : Prop := ∀ n to S Q, b ≤ to → to ≤ 240 → S.length + h ≤ 64 → (r = none → eZ m0 51 Q) → (∀ v, r = some v → CE bk xs n m0 to (S ++ [v]) b Q) → CE bk xs n m0 to S a Q
noncomputable def lEvR (xs : List Int32) (m0 : gx_M) (a b h : Nat) (r : Option Int) : Prop := ∀ n to S Q, b ≤ to → to ≤ 240 → S.length + h ≤ 64 → (r = none → eZ m0 102 Q) → (∀ v, r = some v → RE xs n m0 to (S ++ [v]) b Q) → RE xs n m0 to S a Q
def cCd (K : hCode) (m : gx_M) : Prop := ∀ i c, K[i]? = some c → m 45 i = c.1 ∧ m 46 i = c.2
def rCd (K : hCode) (m : gx_M) : Prop := ∀ i c, K[i]? = some c → m 97 i = lenc c
/-- what a letter comes to, by the class and by the reference -/
noncomputable def lEnvC (bk : Nat) (xs : List Int32) (m0 : gx_M) (env : Int → Int) : Prop := ∀ c, isLt c → ∀ n m Q, (∀ c', c' ≠ 51 → m c' = m0 c') → Q (some (.inl (env c))) m → hxn xs n yp_m59 0 [(0, .inr (.inl 44)), (1, .inr (.inl bk)), (2, .inl c)] [] m Q
def lEnvR (m1 : gx_M) (env : Int → Int) : Prop := ∀ c, isLt c → m1 103 (lfa c).toNat = env c
/-- over any memory that holds the code and says the same of letters, both come to r -/
noncomputable def lEv (xs : List Int32) (Kf : hCode) (env : Int → Int) (a b h : Nat) (r : Option Int) : Prop := (∀ bk m0, cCd Kf m0 → lEnvC bk xs m0 env → lEvC bk xs m0 a b h r) ∧ ∀ m1, rCd Kf m1 → lEnvR m1 env → lEvR xs m1 a b h r
def opt2 (s : Int) : Option Int → Option Int → Option Int
  | some a, some b => if (s = 47 ∨ s = 37) ∧ b = 0 then none else some (lre s a b)
  | _, _ => none
def isBn (s : Int) : Prop := s = 42 ∨ s = 47 ∨ s = 37 ∨ s = 43 ∨ s = 45 ∨ s = 60 ∨ s = 62 ∨ s = 61
def is01 (r : Option Int) : Prop := r = none ∨ r = some 0 ∨ r = some 1
section LEV
variable {xs : List Int32} {env : Int → Int} {Kf : hCode} {a b b1 h h1 h2 : Nat} {r r1 r2 : Option Int}
theorem lEv_up (hh : h1 ≤ h) (e : lEv xs Kf env a b h1 r) : lEv xs Kf env a b h r :=
  ⟨fun bk m0 hc hE n to S Q h1 h2 h3 => e.1 bk m0 hc hE n to S Q h1 h2 (by omega), fun m1 hr hE n to S Q h1 h2 h3 => e.2 m1 hr hE n to S Q h1 h2 (by omega)⟩
theorem lEv_num {v : Int} (hk : Kf[a]? = some (0, v)) (hv : 0 ≤ v ∧ v < 1048576) (hh : 2 ≤ h) : lEv xs Kf env a (a + 1) h (some v) := by
  refine ⟨fun bk m0 hc hE n to S Q g1 g2 g3 _ g => ?_, fun m1 hr hE n to S Q g1 g2 g3 _ g => ?_⟩
  · exact ce_num (hc _ _ hk).1 (hc _ _ hk).2 (by omega) g2 (by omega) (g v rfl)
  · exact re_num (by rw [hr _ _ hk]; rfl) hv (by omega) g2 (by omega) (g v rfl)
theorem lEv_let {c : Int} (hk : Kf[a]? = some (1, c)) (hv : isLt c) (hh : 2 ≤ h) : lEv xs Kf env a (a + 1) h (some (env c)) := by
  have hl : 0 ≤ lfa c ∧ lfa c ≤ 13 := by
    unfold isLt at hv
    unfold lfa
    omega
  refine ⟨fun bk m0 hc hE n to S Q g1 g2 g3 _ g => ?_, fun m1 hr hE n to S Q g1 g2 g3 _ g => ?_⟩
  · exact ce_let (hc _ _ hk).1 (hc _ _ hk).2 (by omega) g2 (by omega) (hE c hv) (g _ rfl)
  · refine re_let (q := (lfa c).toNat) ?_ (by omega) (hE c hv) (by omega) g2 (by omega) (g _ rfl)
    rw [hr _ _ hk, Int.toNat_of_nonneg hl.1]
    rfl
theorem lEv_bin {s : Int} (hs : isBn s) (e1 : lEv xs Kf env a b h1 r1) (e2 : lEv xs Kf env b b1 h2 r2) (hb : b ≤ b1) (hh1 : h1 ≤ h) (hh2 : h2 + 1 ≤ h) (h2' : 2 ≤ h) (hk : Kf[b1]? = some (s, 0)) : lEv xs Kf env a (b1 + 1) h (opt2 s r1 r2) := by
  refine ⟨fun bk m0 hc hE n to S Q g1 g2 g3 gz g => ?_, fun m1 hr hE n to S Q g1 g2 g3 gz g => ?_⟩
  · refine e1.1 bk m0 hc hE n to S Q (by omega) g2 (by omega) (fun c => gz (by rw [c]; rfl)) (fun x c1 => ?_)
    subst c1
    refine e2.1 bk m0 hc hE n to (S ++ [x]) Q (by omega) g2 (by rw [List.length_append, List.length_singleton]; omega) (fun c => gz (by rw [c]; rfl)) (fun y c2 => ?_)
    subst c2
    refine ce_bin (hc _ _ hk).1 hs (by omega) g2 (by omega) (fun c => gz (if_pos c)) (fun c => g _ (if_neg c))
  · refine e1.2 m1 hr hE n to S Q (by omega) g2 (by omega) (fun c => gz (by rw [c]; rfl)) (fun x c1 => ?_)
    subst c1
    refine e2.2 m1 hr hE n to (S ++ [x]) Q (by omega) g2 (by rw [List.length_append, List.length_singleton]; omega) (fun c => gz (by rw [c]; rfl)) (fun y c2 => ?_)
    subst c2
    refine re_bin ?_ hs (by omega) g2 (by omega) (fun c => gz (if_pos c)) (fun c => g _ (if_neg c))
    rw [hr _ _ hk]
    unfold lenc larg
    rw [if_neg (by dsimp only; unfold isBn at hs; omega)]
def optN : Option Int → Option Int
  | some v => some (1 - v)
  | none => none
theorem optN_01 (h : is01 r) : is01 (optN r) := by
  rcases h with e | e | e <;> subst e
  · exact .inl rfl
  · exact .inr (.inr rfl)
  · exact .inr (.inl rfl)
theorem lEv_not (h0 : is01 r1) (e1 : lEv xs Kf env a b h1 r1) (hh1 : h1 ≤ h) (h2' : 2 ≤ h) (hk : Kf[b]? = some (33, 0)) : lEv xs Kf env a (b + 1) h (optN r1) := by
  have hv : ∀ x, r1 = some x → x = 0 ∨ x = 1 := fun x e => by
    rcases h0 with c | c | c <;> rw [c] at e <;> cases e
    · exact .inl rfl
    · exact .inr rfl
  refine ⟨fun bk m0 hc hE n to S Q g1 g2 g3 gz g => ?_, fun m1 hr hE n to S Q g1 g2 g3 gz g => ?_⟩
  · refine e1.1 bk m0 hc hE n to S Q (by omega) g2 (by omega) (fun c => gz (by rw [c]; rfl)) (fun x c1 => ?_)
    have hx := hv x c1
    subst c1
    exact ce_not (hc _ _ hk).1 rfl hx (by omega) g2 (by omega) (g _ rfl)
  · refine e1.2 m1 hr hE n to S Q (by omega) g2 (by omega) (fun c => gz (by rw [c]; rfl)) (fun x c1 => ?_)
    have hx := hv x c1
    subst c1
    exact re_not (by rw [hr _ _ hk]; rfl) hx (by omega) g2 (by omega) (g _ rfl)
def optA : Option Int → Option Int → Option Int
  | some v, r2 => if v = 0 then some 0 else r2
  | none, _ => none
def optO : Option Int → Option Int → Option Int
  | some v, r2 => if v = 0 then r2 else some 1
  | none, _ => none
theorem lEv_and (h0 : is01 r1) (e1 : lEv xs Kf env a b h r1) (e2 : lEv xs Kf env (b + 1) b1 h r2) (hb : b + 1 ≤ b1) (h2' : 2 ≤ h) (hk : Kf[b]? = some (38, (b1 : Int))) : lEv xs Kf env a b1 h (optA r1 r2) := by
  refine ⟨fun bk m0 hc hE n to S Q g1 g2 g3 gz g => ?_, fun m1 hr hE n to S Q g1 g2 g3 gz g => ?_⟩
  · refine e1.1 bk m0 hc hE n to S Q (by omega) g2 (by omega) (fun c => gz (by rw [c]; rfl)) (fun x c1 => ?_)
    by_cases hx : x = 0
    · subst hx
      subst c1
      exact ce_and0 (hc _ _ hk).1 rfl rfl (hc _ _ hk).2 (by omega) g1 (by omega) g2 (by omega) (g 0 rfl)
    · subst c1
      refine ce_and1 (hc _ _ hk).1 rfl hx (by omega) g2 (by omega) (e2.1 bk m0 hc hE n to S Q g1 g2 g3 (fun c => gz (by rw [c]; exact if_neg hx)) (fun y c => g y (by rw [c]; exact if_neg hx)))
  · refine e1.2 m1 hr hE n to S Q (by omega) g2 (by omega) (fun c => gz (by rw [c]; rfl)) (fun x c1 => ?_)
    have hkk : m1 97 b = 1048576 * 11 + (b1 : Int) := by
      rw [hr _ _ hk]
      rfl
    by_cases hx : x = 0
    · subst hx
      subst c1
      exact re_and0 hkk rfl (by omega) g2 (by omega) (by omega) (g 0 rfl)
    · subst c1
      refine re_and1 hkk hx (by omega) g2 (by omega) (by omega) (e2.2 m1 hr hE n to S Q g1 g2 g3 (fun c => gz (by rw [c]; exact if_neg hx)) (fun y c => g y (by rw [c]; exact if_neg hx)))
theorem lEv_or (h0 : is01 r1) (e1 : lEv xs Kf env a b h r1) (e2 : lEv xs Kf env (b + 1) b1 h r2) (hb : b + 1 ≤ b1) (h2' : 2 ≤ h) (hk : Kf[b]? = some (124, (b1 : Int))) : lEv xs Kf env a b1 h (optO r1 r2) := by
  have hv : ∀ x, r1 = some x → x = 0 ∨ x = 1 := fun x e => by
    rcases h0 with c | c | c <;> rw [c] at e <;> cases e
    · exact .inl rfl
    · exact .inr rfl
  refine ⟨fun bk m0 hc hE n to S Q g1 g2 g3 gz g => ?_, fun m1 hr hE n to S Q g1 g2 g3 gz g => ?_⟩
  · refine e1.1 bk m0 hc hE n to S Q (by omega) g2 (by omega) (fun c => gz (by rw [c]; rfl)) (fun x c1 => ?_)
    rcases hv x c1 with hx | hx
    · subst hx
      subst c1
      exact ce_or0 (hc _ _ hk).1 rfl rfl (by omega) g2 (by omega) (e2.1 bk m0 hc hE n to S Q g1 g2 g3 (fun c => gz (by rw [c]; rfl)) (fun y c => g y (by rw [c]; rfl)))
    · subst hx
      subst c1
      exact ce_or1 (hc _ _ hk).1 rfl (by decide) (hc _ _ hk).2 (by omega) g1 (by omega) g2 (by omega) (g 1 rfl)
  · refine e1.2 m1 hr hE n to S Q (by omega) g2 (by omega) (fun c => gz (by rw [c]; rfl)) (fun x c1 => ?_)
    have hkk : m1 97 b = 1048576 * 12 + (b1 : Int) := by
      rw [hr _ _ hk]
      rfl
    rcases hv x c1 with hx | hx
    · subst hx
      subst c1
      exact re_or0 hkk (by decide) (by omega) g2 (by omega) (by omega) (e2.2 m1 hr hE n to S Q g1 g2 g3 (fun c => gz (by rw [c]; rfl)) (fun y c => g y (by rw [c]; rfl)))
    · subst hx
      subst c1
      exact re_or1 hkk rfl (by omega) g2 (by omega) (by omega) (g 1 rfl)
theorem optA_01 (h0 : is01 r1) (h2 : is01 r2) : is01 (optA r1 r2) := by
  rcases h0 with e | e | e <;> subst e
  · exact .inl rfl
  · exact .inr (.inl rfl)
  · exact h2
theorem optO_01 (h0 : is01 r1) (h2 : is01 r2) : is01 (optO r1 r2) := by
  rcases h0 with e | e | e <;> subst e
  · exact .inl rfl
  · exact h2
  · exact .inr (.inr rfl)
theorem opt2_01 {s : Int} (hs : isCm s) : is01 (opt2 s r1 r2) := by
  cases r1 <;> cases r2
  · exact .inl rfl
  · exact .inl rfl
  · exact .inl rfl
  · rename_i x y
    have h : lre s x y = 0 ∨ lre s x y = 1 := by
      unfold isCm at hs
      unfold lre
      rcases hs with e | e | e <;> subst e <;> simp <;> omega
    show is01 (if (s = 47 ∨ s = 37) ∧ y = 0 then none else some (lre s x y))
    split
    · exact .inl rfl
    · rcases h with e | e <;> rw [e]
      · exact .inr (.inl rfl)
      · exact .inr (.inr rfl)
def hgt (k o : Nat) : Nat := (if k = 0 then 2 else if k = 1 then 3 else if k = 2 then 4 else 5) + 2 * (6 - o)
end LEV
end
section
/-! what a code comes to: by induction over what was read -/
section LEI
variable {xs : List Int32} {Kf : hCode} {env : Int → Int} {T : Nat → Int} {L : Nat}
theorem ln_app1 {K : hCode} {x : Int × Int} : (K ++ [x]).length = K.length + 1 := by
  rw [List.length_append, List.length_singleton]
theorem lEv_of {k o p p' : Nat} {K K' : hCode} (h : lD T L k o p K p' K') : (∀ i, K.length ≤ i → i < K'.length → Kf[i]? = K'[i]?) → ∃ r, (3 ≤ k → is01 r) ∧ lEv xs Kf env K.length K'.length (hgt k o) r := by
  refine (h (fun k o p K p' K' => lD T L k o p K p' K' ∧ ((∀ i, K.length ≤ i → i < K'.length → Kf[i]? = K'[i]?) → ∃ r, (3 ≤ k → is01 r) ∧ lEv xs Kf env K.length K'.length (hgt k o) r)) ⟨?_, ?_, ?_, ?_, ?_, ?_, ?_, ?_, ?_, ?_, ?_, ?_, ?_, ?_⟩).2
  · intro o p K j a b c d
    refine ⟨lD_num a b c d, fun hA => ⟨some (lnum T p j), fun c => absurd c (by decide), ?_⟩⟩
    rw [ln_app1] at hA ⊢
    have hk := hA K.length (Nat.le_refl _) (by omega)
    rw [lk_last] at hk
    have hb := lnum_bd (T := T) (L := L) (p := p) j c
    have hw : lpw j ≤ 100000 := by
      have : j = 1 ∨ j = 2 ∨ j = 3 ∨ j = 4 ∨ j = 5 := by omega
      rcases this with e | e | e | e | e <;> subst e <;> decide
    exact lEv_num hk (by omega) (by unfold hgt; rw [if_pos rfl]; omega)
  · intro o p K a
    refine ⟨lD_let a, fun hA => ⟨some (env (tx T L p)), fun c => absurd c (by decide), ?_⟩⟩
    rw [ln_app1] at hA ⊢
    have hk := hA K.length (Nat.le_refl _) (by omega)
    rw [lk_last] at hk
    exact lEv_let hk a (by unfold hgt; rw [if_pos rfl]; omega)
  · intro o p K p1 K1 a b ⟨d1, i1⟩ d
    refine ⟨lD_br a b d1 d, fun hA => ?_⟩
    obtain ⟨r, -, e⟩ := i1 hA
    exact ⟨r, fun c => absurd c (by decide), lEv_up (by unfold hgt; simp; omega) e⟩
  · intro o p K p1 K1 ⟨d1, i1⟩
    refine ⟨lD_pr1 d1, fun hA => ?_⟩
    obtain ⟨r, -, e⟩ := i1 hA
    exact ⟨r, fun c => absurd c (by decide), lEv_up (by unfold hgt; simp) e⟩
  · intro o p K p1 K1 p2 K2 ⟨d1, i1⟩ b ⟨d2, i2⟩
    refine ⟨lD_pr2 d1 b d2, fun hA => ?_⟩
    have g1 := lD_grow d1
    have g2 := lD_grow d2
    have pr := lD_pre d2
    rw [ln_app1] at hA ⊢
    obtain ⟨r1, -, e1⟩ := i1 (fun i ha hb => by rw [hA i ha (by omega), lk_appl (by omega), pr i hb])
    obtain ⟨r2, -, e2⟩ := i2 (fun i ha hb => by rw [hA i (by omega) (by omega), lk_appl hb])
    have hk := hA K2.length (by omega) (by omega)
    rw [lk_last] at hk
    exact ⟨_, fun c => absurd c (by decide), lEv_bin (by unfold isPr at b; unfold isBn; omega) e1 e2 (by omega) (by unfold hgt; simp) (by unfold hgt; simp; omega) (by unfold hgt; simp; omega) hk⟩
  · intro o p K p1 K1 ⟨d1, i1⟩ b
    refine ⟨lD_sm1 d1 b, fun hA => ?_⟩
    obtain ⟨r, -, e⟩ := i1 hA
    exact ⟨r, fun c => absurd c (by decide), lEv_up (by unfold hgt; simp) e⟩
  · intro o p K p1 K1 p2 K2 ⟨d1, i1⟩ b ⟨d2, i2⟩ nb
    refine ⟨lD_sm2 d1 b d2 nb, fun hA => ?_⟩
    have g1 := lD_grow d1
    have g2 := lD_grow d2
    have pr := lD_pre d2
    rw [ln_app1] at hA ⊢
    obtain ⟨r1, -, e1⟩ := i1 (fun i ha hb => by rw [hA i ha (by omega), lk_appl (by omega), pr i hb])
    obtain ⟨r2, -, e2⟩ := i2 (fun i ha hb => by rw [hA i (by omega) (by omega), lk_appl hb])
    have hk := hA K2.length (by omega) (by omega)
    rw [lk_last] at hk
    exact ⟨_, fun c => absurd c (by decide), lEv_bin (by unfold isSm at b; unfold isBn; omega) e1 e2 (by omega) (by unfold hgt; simp) (by unfold hgt; simp; omega) (by unfold hgt; simp; omega) hk⟩
  · intro o p K p1 K1 p2 K2 a1 a2 ⟨d1, i1⟩ b ⟨d2, i2⟩ nb
    refine ⟨lD_cm a1 a2 d1 b d2 nb, fun hA => ?_⟩
    have g1 := lD_grow d1
    have g2 := lD_grow d2
    have pr := lD_pre d2
    rw [ln_app1] at hA ⊢
    obtain ⟨r1, -, e1⟩ := i1 (fun i ha hb => by rw [hA i ha (by omega), lk_appl (by omega), pr i hb])
    obtain ⟨r2, -, e2⟩ := i2 (fun i ha hb => by rw [hA i (by omega) (by omega), lk_appl hb])
    have hk := hA K2.length (by omega) (by omega)
    rw [lk_last] at hk
    exact ⟨_, fun _ => opt2_01 b, lEv_bin (by unfold isCm at b; unfold isBn; omega) e1 e2 (by omega) (by unfold hgt; simp) (by unfold hgt; simp; omega) (by unfold hgt; simp; omega) hk⟩
  · intro o p K p1 K1 a b ⟨d1, i1⟩
    refine ⟨lD_no a b d1, fun hA => ?_⟩
    have g1 := lD_grow d1
    rw [ln_app1] at hA ⊢
    obtain ⟨r1, z1, e1⟩ := i1 (fun i ha hb => by rw [hA i ha (by omega), lk_appl (by omega)])
    have hk := hA K1.length (by omega) (by omega)
    rw [lk_last] at hk
    exact ⟨_, fun _ => optN_01 (z1 (by decide)), lEv_not (z1 (by decide)) e1 (by unfold hgt; simp; omega) (by unfold hgt; simp; omega) hk⟩
  · intro o p K p1 K1 a b ⟨d1, i1⟩ d
    refine ⟨lD_pa a b d1 d, fun hA => ?_⟩
    obtain ⟨r, z1, e⟩ := i1 hA
    exact ⟨r, fun _ => z1 (by decide), lEv_up (by unfold hgt; simp; omega) e⟩
  · intro o p K p1 K1 ⟨d1, i1⟩
    refine ⟨lD_pt1 d1, fun hA => ?_⟩
    obtain ⟨r, z1, e⟩ := i1 hA
    exact ⟨r, fun _ => z1 (by decide), lEv_up (by unfold hgt; simp) e⟩
  · intro o p K p1 K1 p2 K2 ⟨d1, i1⟩ b ⟨d2, i2⟩
    refine ⟨lD_pt2 d1 b d2, fun hA => ?_⟩
    have g1 := lD_grow d1
    have g2 := lD_grow d2
    have pr := lD_pre d2
    rw [ln_app1] at g2 pr i2
    rw [List.length_set] at hA ⊢
    obtain ⟨r1, z1, e1⟩ := i1 (fun i ha hb => by rw [hA i ha (by omega), List.getElem?_set_ne (by omega), pr i (by omega), lk_appl hb])
    obtain ⟨r2, z2, e2⟩ := i2 (fun i ha hb => by rw [hA i (by omega) hb, List.getElem?_set_ne (by omega)])
    have hk := hA K1.length (by omega) (by omega)
    rw [List.getElem?_set_self (by omega)] at hk
    exact ⟨_, fun _ => optA_01 (z1 (by decide)) (z2 (by decide)), lEv_and (z1 (by decide)) e1 (lEv_up (by unfold hgt; simp) e2) (by omega) (by unfold hgt; simp; omega) hk⟩
  · intro o p K p1 K1 ⟨d1, i1⟩ b
    refine ⟨lD_cn1 d1 b, fun hA => ?_⟩
    obtain ⟨r, z1, e⟩ := i1 hA
    exact ⟨r, fun _ => z1 (by decide), lEv_up (by unfold hgt; simp) e⟩
  · intro o p K p1 K1 p2 K2 ⟨d1, i1⟩ b ⟨d2, i2⟩ nb
    refine ⟨lD_cn2 d1 b d2 nb, fun hA => ?_⟩
    have g1 := lD_grow d1
    have g2 := lD_grow d2
    have pr := lD_pre d2
    rw [ln_app1] at g2 pr i2
    rw [List.length_set] at hA ⊢
    obtain ⟨r1, z1, e1⟩ := i1 (fun i ha hb => by rw [hA i ha (by omega), List.getElem?_set_ne (by omega), pr i (by omega), lk_appl hb])
    obtain ⟨r2, z2, e2⟩ := i2 (fun i ha hb => by rw [hA i (by omega) hb, List.getElem?_set_ne (by omega)])
    have hk := hA K1.length (by omega) (by omega)
    rw [List.getElem?_set_self (by omega)] at hk
    exact ⟨_, fun _ => optO_01 (z1 (by decide)) (z2 (by decide)), lEv_or (z1 (by decide)) e1 (lEv_up (by unfold hgt; simp) e2) (by omega) (by unfold hgt; simp; omega) hk⟩
end LEI
end
