/-! sums, pieces, conditions as the reference reads them: roads -/
/-- factOf from 0 on -/
theorem hs179 {xs : List Int32} {n : Nat} {Q : hQ} {m : gx_M} {x0 : Int}
    (h : Q (some (.inl (lfa x0))) m) : hxn xs n yp_m179 0 [(0, .inl x0)] [] m Q := by
  refine hx_dn ?_
  refine hx_blks (npc := 1) (L' := [(0, .inl x0)]) (st' := [.inl x0]) (m' := m) ((0, .iload_n 0, 1, 0, 0, 0, 0), (0, 0, 0)) [] (by decide +kernel) rfl ?_
  refine hx_tsw 156 [(97, 144), (98, 156), (99, 147), (100, 124), (101, 150), (102, 156), (103, 156), (104, 138), (105, 156), (106, 156), (107, 135), (108, 126), (109, 132), (110, 156), (111, 128), (112, 141), (113, 156), (114, 156), (115, 130), (116, 120), (117, 156), (118, 156), (119, 156), (120, 156), (121, 122), (122, 153)] (by decide +kernel) ?_
  refine hsw_c (fun c1 => ?_) (fun c1 => ?_)
  · have c1 : x0 = 97 := c1
    refine hx_blk (npc := 146) (L' := [(0, .inl x0)]) (st' := [.inl 10]) (m' := m) [((144, .bipush 10, 2, 0, 0, 0, 0), (0, 0, 0))] (by decide +kernel) rfl ?_
    exact hx_reti (by decide +kernel) (by have e : lfa x0 = 10 := (by unfold lfa; omega); rw [e] at h; exact h)
  refine hsw_c (fun c2 => ?_) (fun c2 => ?_)
  · have c2 : x0 = 98 := c2
    refine hx_blk (npc := 157) (L' := [(0, .inl x0)]) (st' := [.inl (-1)]) (m' := m) [((156, .iconst (-1), 1, 0, 0, 0, 0), (0, 0, 0))] (by decide +kernel) rfl ?_
    exact hx_reti (by decide +kernel) (by have e : lfa x0 = (-1) := (by unfold lfa; omega); rw [e] at h; exact h)
  refine hsw_c (fun c3 => ?_) (fun c3 => ?_)
  · have c3 : x0 = 99 := c3
    refine hx_blk (npc := 149) (L' := [(0, .inl x0)]) (st' := [.inl 11]) (m' := m) [((147, .bipush 11, 2, 0, 0, 0, 0), (0, 0, 0))] (by decide +kernel) rfl ?_
    exact hx_reti (by decide +kernel) (by have e : lfa x0 = 11 := (by unfold lfa; omega); rw [e] at h; exact h)
  refine hsw_c (fun c4 => ?_) (fun c4 => ?_)
  · have c4 : x0 = 100 := c4
    refine hx_blk (npc := 125) (L' := [(0, .inl x0)]) (st' := [.inl 2]) (m' := m) [((124, .iconst 2, 1, 0, 0, 0, 0), (0, 0, 0))] (by decide +kernel) rfl ?_
    exact hx_reti (by decide +kernel) (by have e : lfa x0 = 2 := (by unfold lfa; omega); rw [e] at h; exact h)
  refine hsw_c (fun c5 => ?_) (fun c5 => ?_)
  · have c5 : x0 = 101 := c5
    refine hx_blk (npc := 152) (L' := [(0, .inl x0)]) (st' := [.inl 12]) (m' := m) [((150, .bipush 12, 2, 0, 0, 0, 0), (0, 0, 0))] (by decide +kernel) rfl ?_
    exact hx_reti (by decide +kernel) (by have e : lfa x0 = 12 := (by unfold lfa; omega); rw [e] at h; exact h)
  refine hsw_c (fun c6 => ?_) (fun c6 => ?_)
  · have c6 : x0 = 102 := c6
    refine hx_blk (npc := 157) (L' := [(0, .inl x0)]) (st' := [.inl (-1)]) (m' := m) [((156, .iconst (-1), 1, 0, 0, 0, 0), (0, 0, 0))] (by decide +kernel) rfl ?_
    exact hx_reti (by decide +kernel) (by have e : lfa x0 = (-1) := (by unfold lfa; omega); rw [e] at h; exact h)
  refine hsw_c (fun c7 => ?_) (fun c7 => ?_)
  · have c7 : x0 = 103 := c7
    refine hx_blk (npc := 157) (L' := [(0, .inl x0)]) (st' := [.inl (-1)]) (m' := m) [((156, .iconst (-1), 1, 0, 0, 0, 0), (0, 0, 0))] (by decide +kernel) rfl ?_
    exact hx_reti (by decide +kernel) (by have e : lfa x0 = (-1) := (by unfold lfa; omega); rw [e] at h; exact h)
  refine hsw_c (fun c8 => ?_) (fun c8 => ?_)
  · have c8 : x0 = 104 := c8
    refine hx_blk (npc := 140) (L' := [(0, .inl x0)]) (st' := [.inl 8]) (m' := m) [((138, .bipush 8, 2, 0, 0, 0, 0), (0, 0, 0))] (by decide +kernel) rfl ?_
    exact hx_reti (by decide +kernel) (by have e : lfa x0 = 8 := (by unfold lfa; omega); rw [e] at h; exact h)
  refine hsw_c (fun c9 => ?_) (fun c9 => ?_)
  · have c9 : x0 = 105 := c9
    refine hx_blk (npc := 157) (L' := [(0, .inl x0)]) (st' := [.inl (-1)]) (m' := m) [((156, .iconst (-1), 1, 0, 0, 0, 0), (0, 0, 0))] (by decide +kernel) rfl ?_
    exact hx_reti (by decide +kernel) (by have e : lfa x0 = (-1) := (by unfold lfa; omega); rw [e] at h; exact h)
  refine hsw_c (fun c10 => ?_) (fun c10 => ?_)
  · have c10 : x0 = 106 := c10
    refine hx_blk (npc := 157) (L' := [(0, .inl x0)]) (st' := [.inl (-1)]) (m' := m) [((156, .iconst (-1), 1, 0, 0, 0, 0), (0, 0, 0))] (by decide +kernel) rfl ?_
    exact hx_reti (by decide +kernel) (by have e : lfa x0 = (-1) := (by unfold lfa; omega); rw [e] at h; exact h)
  refine hsw_c (fun c11 => ?_) (fun c11 => ?_)
  · have c11 : x0 = 107 := c11
    refine hx_blk (npc := 137) (L' := [(0, .inl x0)]) (st' := [.inl 7]) (m' := m) [((135, .bipush 7, 2, 0, 0, 0, 0), (0, 0, 0))] (by decide +kernel) rfl ?_
    exact hx_reti (by decide +kernel) (by have e : lfa x0 = 7 := (by unfold lfa; omega); rw [e] at h; exact h)
  refine hsw_c (fun c12 => ?_) (fun c12 => ?_)
  · have c12 : x0 = 108 := c12
    refine hx_blk (npc := 127) (L' := [(0, .inl x0)]) (st' := [.inl 3]) (m' := m) [((126, .iconst 3, 1, 0, 0, 0, 0), (0, 0, 0))] (by decide +kernel) rfl ?_
    exact hx_reti (by decide +kernel) (by have e : lfa x0 = 3 := (by unfold lfa; omega); rw [e] at h; exact h)
  refine hsw_c (fun c13 => ?_) (fun c13 => ?_)
  · have c13 : x0 = 109 := c13
    refine hx_blk (npc := 134) (L' := [(0, .inl x0)]) (st' := [.inl 6]) (m' := m) [((132, .bipush 6, 2, 0, 0, 0, 0), (0, 0, 0))] (by decide +kernel) rfl ?_
    exact hx_reti (by decide +kernel) (by have e : lfa x0 = 6 := (by unfold lfa; omega); rw [e] at h; exact h)
  refine hsw_c (fun c14 => ?_) (fun c14 => ?_)
  · have c14 : x0 = 110 := c14
    refine hx_blk (npc := 157) (L' := [(0, .inl x0)]) (st' := [.inl (-1)]) (m' := m) [((156, .iconst (-1), 1, 0, 0, 0, 0), (0, 0, 0))] (by decide +kernel) rfl ?_
    exact hx_reti (by decide +kernel) (by have e : lfa x0 = (-1) := (by unfold lfa; omega); rw [e] at h; exact h)
  refine hsw_c (fun c15 => ?_) (fun c15 => ?_)
  · have c15 : x0 = 111 := c15
    refine hx_blk (npc := 129) (L' := [(0, .inl x0)]) (st' := [.inl 4]) (m' := m) [((128, .iconst 4, 1, 0, 0, 0, 0), (0, 0, 0))] (by decide +kernel) rfl ?_
    exact hx_reti (by decide +kernel) (by have e : lfa x0 = 4 := (by unfold lfa; omega); rw [e] at h; exact h)
  refine hsw_c (fun c16 => ?_) (fun c16 => ?_)
  · have c16 : x0 = 112 := c16
    refine hx_blk (npc := 143) (L' := [(0, .inl x0)]) (st' := [.inl 9]) (m' := m) [((141, .bipush 9, 2, 0, 0, 0, 0), (0, 0, 0))] (by decide +kernel) rfl ?_
    exact hx_reti (by decide +kernel) (by have e : lfa x0 = 9 := (by unfold lfa; omega); rw [e] at h; exact h)
  refine hsw_c (fun c17 => ?_) (fun c17 => ?_)
  · have c17 : x0 = 113 := c17
    refine hx_blk (npc := 157) (L' := [(0, .inl x0)]) (st' := [.inl (-1)]) (m' := m) [((156, .iconst (-1), 1, 0, 0, 0, 0), (0, 0, 0))] (by decide +kernel) rfl ?_
    exact hx_reti (by decide +kernel) (by have e : lfa x0 = (-1) := (by unfold lfa; omega); rw [e] at h; exact h)
  refine hsw_c (fun c18 => ?_) (fun c18 => ?_)
  · have c18 : x0 = 114 := c18
    refine hx_blk (npc := 157) (L' := [(0, .inl x0)]) (st' := [.inl (-1)]) (m' := m) [((156, .iconst (-1), 1, 0, 0, 0, 0), (0, 0, 0))] (by decide +kernel) rfl ?_
    exact hx_reti (by decide +kernel) (by have e : lfa x0 = (-1) := (by unfold lfa; omega); rw [e] at h; exact h)
  refine hsw_c (fun c19 => ?_) (fun c19 => ?_)
  · have c19 : x0 = 115 := c19
    refine hx_blk (npc := 131) (L' := [(0, .inl x0)]) (st' := [.inl 5]) (m' := m) [((130, .iconst 5, 1, 0, 0, 0, 0), (0, 0, 0))] (by decide +kernel) rfl ?_
    exact hx_reti (by decide +kernel) (by have e : lfa x0 = 5 := (by unfold lfa; omega); rw [e] at h; exact h)
  refine hsw_c (fun c20 => ?_) (fun c20 => ?_)
  · have c20 : x0 = 116 := c20
    refine hx_blk (npc := 121) (L' := [(0, .inl x0)]) (st' := [.inl 0]) (m' := m) [((120, .iconst 0, 1, 0, 0, 0, 0), (0, 0, 0))] (by decide +kernel) rfl ?_
    exact hx_reti (by decide +kernel) (by have e : lfa x0 = 0 := (by unfold lfa; omega); rw [e] at h; exact h)
  refine hsw_c (fun c21 => ?_) (fun c21 => ?_)
  · have c21 : x0 = 117 := c21
    refine hx_blk (npc := 157) (L' := [(0, .inl x0)]) (st' := [.inl (-1)]) (m' := m) [((156, .iconst (-1), 1, 0, 0, 0, 0), (0, 0, 0))] (by decide +kernel) rfl ?_
    exact hx_reti (by decide +kernel) (by have e : lfa x0 = (-1) := (by unfold lfa; omega); rw [e] at h; exact h)
  refine hsw_c (fun c22 => ?_) (fun c22 => ?_)
  · have c22 : x0 = 118 := c22
    refine hx_blk (npc := 157) (L' := [(0, .inl x0)]) (st' := [.inl (-1)]) (m' := m) [((156, .iconst (-1), 1, 0, 0, 0, 0), (0, 0, 0))] (by decide +kernel) rfl ?_
    exact hx_reti (by decide +kernel) (by have e : lfa x0 = (-1) := (by unfold lfa; omega); rw [e] at h; exact h)
  refine hsw_c (fun c23 => ?_) (fun c23 => ?_)
  · have c23 : x0 = 119 := c23
    refine hx_blk (npc := 157) (L' := [(0, .inl x0)]) (st' := [.inl (-1)]) (m' := m) [((156, .iconst (-1), 1, 0, 0, 0, 0), (0, 0, 0))] (by decide +kernel) rfl ?_
    exact hx_reti (by decide +kernel) (by have e : lfa x0 = (-1) := (by unfold lfa; omega); rw [e] at h; exact h)
  refine hsw_c (fun c24 => ?_) (fun c24 => ?_)
  · have c24 : x0 = 120 := c24
    refine hx_blk (npc := 157) (L' := [(0, .inl x0)]) (st' := [.inl (-1)]) (m' := m) [((156, .iconst (-1), 1, 0, 0, 0, 0), (0, 0, 0))] (by decide +kernel) rfl ?_
    exact hx_reti (by decide +kernel) (by have e : lfa x0 = (-1) := (by unfold lfa; omega); rw [e] at h; exact h)
  refine hsw_c (fun c25 => ?_) (fun c25 => ?_)
  · have c25 : x0 = 121 := c25
    refine hx_blk (npc := 123) (L' := [(0, .inl x0)]) (st' := [.inl 1]) (m' := m) [((122, .iconst 1, 1, 0, 0, 0, 0), (0, 0, 0))] (by decide +kernel) rfl ?_
    exact hx_reti (by decide +kernel) (by have e : lfa x0 = 1 := (by unfold lfa; omega); rw [e] at h; exact h)
  refine hsw_c (fun c26 => ?_) (fun c26 => ?_)
  · have c26 : x0 = 122 := c26
    refine hx_blk (npc := 155) (L' := [(0, .inl x0)]) (st' := [.inl 13]) (m' := m) [((153, .bipush 13, 2, 0, 0, 0, 0), (0, 0, 0))] (by decide +kernel) rfl ?_
    exact hx_reti (by decide +kernel) (by have e : lfa x0 = 13 := (by unfold lfa; omega); rw [e] at h; exact h)
  refine hsw_n ?_
  refine hx_blk (npc := 157) (L' := [(0, .inl x0)]) (st' := [.inl (-1)]) (m' := m) [((156, .iconst (-1), 1, 0, 0, 0, 0), (0, 0, 0))] (by decide +kernel) rfl ?_
  exact hx_reti (by decide +kernel) (by have e : lfa x0 = (-1) := (by unfold lfa; omega); rw [e] at h; exact h)

/-- readsFactor from 0 on -/
theorem hr174_0 {xs : List Int32} {n : Nat} {Q : hQ} {m : gx_M}
    (h1 : ((aHere m) ≠ 91) → (isDg (aHere m)) → hxn xs n yp_m177 0 [(0, .inr (.inl 86))] [] m (fun r m' => hxn xs n yp_m174 31 [(0, .inr (.inl 86))] (hrs r ++ []) m' Q))
    (h2 : ((aHere m) ≠ 91) → (¬ (isDg (aHere m))) → hxn xs n yp_m179 0 [(0, .inl (aHere m))] [] m (fun r m' => hxn xs n yp_m174 54 [(0, .inr (.inl 86))] (hrs r ++ []) m' Q))
    (h3 : ((aHere m) = 91) → hxn xs n yp_m175 0 [(0, .inr (.inl 86)), (1, .inl 14)] [] m (fun r m' => hxn xs n yp_m174 15 [(0, .inr (.inl 86))] (hrs r ++ []) m' Q)) : hxn xs (n + 1) yp_m174 0 [(0, .inr (.inl 86))] [] m Q := by
  refine hx_blks (npc := 1) (L' := [(0, .inr (.inl 86))]) (st' := [.inr (.inl 86)]) (m' := m) ((0, .aload_n 0, 1, 0, 0, 0, 0), (0, 0, 0)) [] (by decide +kernel) rfl ?_
  refine hx_call (E := (1, .invokevirtual 138, 3, 170, 0, 6054, 0)) (M' := yp_m170) [.inr (.inl 86)] [] rfl (by decide +kernel) rfl ⟨rfl, rfl⟩ rfl rfl (hs170 ?_)
  show hxn xs n yp_m174 4 [(0, .inr (.inl 86))] [.inl (aHere m)] m Q
  refine hx_blk (npc := 6) (L' := [(0, .inr (.inl 86))]) (st' := [.inl 91, .inl (aHere m)]) (m' := m) [((4, .bipush 91, 2, 0, 0, 0, 0), (0, 0, 0))] (by decide +kernel) rfl ?_
  refine hx_cmp .ne 20 (by decide +kernel) (fun c1 => ?_) (fun c1 => ?_)
  · have c1 : (aHere m) ≠ 91 := c1
    refine hx_blk (npc := 21) (L' := [(0, .inr (.inl 86))]) (st' := [.inr (.inl 86)]) (m' := m) [((20, .aload_n 0, 1, 0, 0, 0, 0), (0, 0, 0))] (by decide +kernel) rfl ?_
    refine hx_call (E := (21, .invokevirtual 151, 3, 176, 0, 6078, 0)) (M' := yp_m176) [.inr (.inl 86)] [] rfl (by decide +kernel) rfl ⟨rfl, rfl⟩ rfl rfl (hs176 (fun c2 => ?_) (fun c2 => ?_))
    · have c2 : isDg (aHere m) := c2
      show hxn xs n yp_m174 24 [(0, .inr (.inl 86))] [.inl 1] m Q
      refine hx_if .eq 47 (by decide +kernel) (fun c3 => ?_) (fun c3 => ?_)
      · have c3 : (1 : Int) = 0 := c3
        exfalso; omega
      · have c3 : (1 : Int) ≠ 0 := c3
        refine hx_blk (npc := 28) (L' := [(0, .inr (.inl 86))]) (st' := [.inr (.inl 86)]) (m' := m) [((27, .aload_n 0, 1, 0, 0, 0, 0), (0, 0, 0))] (by decide +kernel) rfl ?_
        exact hx_call (E := (28, .invokevirtual 175, 3, 177, 0, 6082, 0)) (M' := yp_m177) [.inr (.inl 86)] [] rfl (by decide +kernel) rfl ⟨rfl, rfl⟩ rfl rfl (hx_mono (h1 c1 c2) (fun r m' h' => hx_pick [0] h'))
    · have c2 : ¬ (isDg (aHere m)) := c2
      show hxn xs n yp_m174 24 [(0, .inr (.inl 86))] [.inl 0] m Q
      refine hx_if .eq 47 (by decide +kernel) (fun c3 => ?_) (fun c3 => ?_)
      · have c3 : (0 : Int) = 0 := c3
        refine hx_blk (npc := 48) (L' := [(0, .inr (.inl 86))]) (st' := [.inr (.inl 86)]) (m' := m) [((47, .aload_n 0, 1, 0, 0, 0, 0), (0, 0, 0))] (by decide +kernel) rfl ?_
        refine hx_call (E := (48, .invokevirtual 138, 3, 170, 0, 6054, 0)) (M' := yp_m170) [.inr (.inl 86)] [] rfl (by decide +kernel) rfl ⟨rfl, rfl⟩ rfl rfl (hs170 ?_)
        show hxn xs n yp_m174 51 [(0, .inr (.inl 86))] [.inl (aHere m)] m Q
        exact hx_call (E := (51, .invokestatic 178, 3, 179, 0, 6090, 0)) (M' := yp_m179) [.inl (aHere m)] [] rfl (by decide +kernel) rfl ⟨rfl, rfl⟩ rfl rfl (hx_mono (h2 c1 c2) (fun r m' h' => hx_pick [0] h'))
      · have c3 : (0 : Int) ≠ 0 := c3
        exfalso; omega
  · have c1 : (aHere m) = 91 := by have h : ¬ ((aHere m) ≠ 91) := c1; omega
    refine hx_blk (npc := 12) (L' := [(0, .inr (.inl 86))]) (st' := [.inl 14, .inr (.inl 86)]) (m' := m) [((9, .aload_n 0, 1, 0, 0, 0, 0), (0, 0, 0)), ((10, .bipush 14, 2, 0, 0, 0, 0), (0, 0, 0))] (by decide +kernel) rfl ?_
    exact hx_call (E := (12, .invokevirtual 172, 3, 175, 0, 6073, 0)) (M' := yp_m175) [.inr (.inl 86), .inl 14] [] rfl (by decide +kernel) rfl ⟨rfl, rfl⟩ rfl rfl (hx_mono (h3 c1) (fun r m' h' => hx_pick [0] h'))

/-- readsFactor from 15 on -/
theorem hr174_15 {xs : List Int32} {n : Nat} {Q : hQ} {m : gx_M} {s0 : Int}
    (h1 : (s0 ≠ 0) → hxn xs n yp_m174 0 [(0, .inr (.inl 86))] [] m Q)
    (h2 : (s0 = 0) → Q (some (.inl 0)) m) : hxn xs (n + 1) yp_m174 15 [(0, .inr (.inl 86))] [.inl s0] m Q := by
  refine hx_ifs .ne 0 (by decide +kernel) (fun c1 => ?_) (fun c1 => ?_)
  · have c1 : s0 ≠ 0 := c1
    exact hx_pick [0] (h1 c1)
  · have c1 : s0 = 0 := by have h : ¬ (s0 ≠ 0) := c1; omega
    refine hx_blk (npc := 19) (L' := [(0, .inr (.inl 86))]) (st' := [.inl 0]) (m' := m) [((18, .iconst 0, 1, 0, 0, 0, 0), (0, 0, 0))] (by decide +kernel) rfl ?_
    exact hx_reti (by decide +kernel) (h2 c1)

/-- readsFactor from 31 on -/
theorem hr174_31 {xs : List Int32} {n : Nat} {Q : hQ} {m : gx_M} {s0 : Int}
    (h1 : (s0 ≠ 0) → hxn xs n yp_m178 0 [(0, .inr (.inl 86)), (1, .inl 0), (2, .inl (m 86 8))] [] m (fun r m' => hxn xs n yp_m174 45 [] (hrs r ++ []) m' Q))
    (h2 : (s0 = 0) → Q (some (.inl 0)) m) : hxn xs (n + 1) yp_m174 31 [(0, .inr (.inl 86))] [.inl s0] m Q := by
  refine hx_ifs .ne 36 (by decide +kernel) (fun c1 => ?_) (fun c1 => ?_)
  · have c1 : s0 ≠ 0 := c1
    refine hx_blk (npc := 42) (L' := [(0, .inr (.inl 86))]) (st' := [.inl (m 86 8), .inl 0, .inr (.inl 86)]) (m' := m) [((36, .aload_n 0, 1, 0, 0, 0, 0), (0, 0, 0)), ((37, .iconst 0, 1, 0, 0, 0, 0), (0, 0, 0)), ((38, .aload_n 0, 1, 0, 0, 0, 0), (0, 0, 0)), ((39, .getfield 148, 3, 10, 8, 5121, 0), (0, 86, 0))] (by decide +kernel) rfl ?_
    exact hx_call (E := (42, .invokevirtual 168, 3, 178, 0, 6086, 0)) (M' := yp_m178) [.inr (.inl 86), .inl 0, .inl (m 86 8)] [] rfl (by decide +kernel) rfl ⟨rfl, rfl⟩ rfl rfl (hx_mono (h1 c1) (fun r m' h' => hx_pick [] h'))
  · have c1 : s0 = 0 := by have h : ¬ (s0 ≠ 0) := c1; omega
    refine hx_blk (npc := 35) (L' := [(0, .inr (.inl 86))]) (st' := [.inl 0]) (m' := m) [((34, .iconst 0, 1, 0, 0, 0, 0), (0, 0, 0))] (by decide +kernel) rfl ?_
    exact hx_reti (by decide +kernel) (h2 c1)

/-- readsFactor from 45 on -/
theorem hr174_45 {xs : List Int32} {n : Nat} {Q : hQ} {m : gx_M}
    (h1 : Q (some (.inl 1)) m) : hxn xs (n + 1) yp_m174 45 [] [] m Q := by
  refine hx_blks (npc := 46) (L' := []) (st' := [.inl 1]) (m' := m) ((45, .iconst 1, 1, 0, 0, 0, 0), (0, 0, 0)) [] (by decide +kernel) rfl ?_
  exact hx_reti (by decide +kernel) h1

/-- readsFactor from 54 on -/
theorem hr174_54 {xs : List Int32} {n : Nat} {Q : hQ} {m : gx_M} {s0 : Int}
    (h1 : (s0 ≠ (-1)) → hxn xs n yp_m178 0 [(0, .inr (.inl 86)), (1, .inl 1), (2, .inl s0)] [] m (fun r m' => hxn xs n yp_m174 76 [(0, .inr (.inl 86))] (hrs r ++ []) m' Q))
    (h2 : (s0 = (-1)) → hxn xs n yp_m172 0 [(0, .inr (.inl 86)), (1, .inl 1), (2, .inl (m 86 5))] [] m (fun r m' => hxn xs n yp_m174 69 [] (hrs r ++ []) m' Q)) : hxn xs (n + 1) yp_m174 54 [(0, .inr (.inl 86))] [.inl s0] m Q := by
  refine hx_blks (npc := 57) (L' := [(0, .inr (.inl 86)), (1, .inl s0)]) (st' := [.inl (-1), .inl s0]) (m' := m) ((54, .istore_n 1, 1, 0, 0, 0, 0), (0, 0, 0)) [((55, .iload_n 1, 1, 0, 0, 0, 0), (0, 0, 0)), ((56, .iconst (-1), 1, 0, 0, 0, 0), (0, 0, 0))] (by decide +kernel) rfl ?_
  refine hx_cmp .ne 70 (by decide +kernel) (fun c1 => ?_) (fun c1 => ?_)
  · have c1 : s0 ≠ (-1) := c1
    refine hx_blk (npc := 73) (L' := [(0, .inr (.inl 86)), (1, .inl s0)]) (st' := [.inl s0, .inl 1, .inr (.inl 86)]) (m' := m) [((70, .aload_n 0, 1, 0, 0, 0, 0), (0, 0, 0)), ((71, .iconst 1, 1, 0, 0, 0, 0), (0, 0, 0)), ((72, .iload_n 1, 1, 0, 0, 0, 0), (0, 0, 0))] (by decide +kernel) rfl ?_
    exact hx_call (E := (73, .invokevirtual 168, 3, 178, 0, 6086, 0)) (M' := yp_m178) [.inr (.inl 86), .inl 1, .inl s0] [] rfl (by decide +kernel) rfl ⟨rfl, rfl⟩ rfl rfl (hx_mono (h1 c1) (fun r m' h' => hx_pick [0] h'))
  · have c1 : s0 = (-1) := by have h : ¬ (s0 ≠ (-1)) := c1; omega
    refine hx_blk (npc := 66) (L' := [(0, .inr (.inl 86)), (1, .inl s0)]) (st' := [.inl (m 86 5), .inl 1, .inr (.inl 86)]) (m' := m) [((60, .aload_n 0, 1, 0, 0, 0, 0), (0, 0, 0)), ((61, .iconst 1, 1, 0, 0, 0, 0), (0, 0, 0)), ((62, .aload_n 0, 1, 0, 0, 0, 0), (0, 0, 0)), ((63, .getfield 132, 3, 10, 5, 5118, 0), (0, 86, 0))] (by decide +kernel) rfl ?_
    exact hx_call (E := (66, .invokevirtual 145, 3, 172, 0, 6061, 0)) (M' := yp_m172) [.inr (.inl 86), .inl 1, .inl (m 86 5)] [] rfl (by decide +kernel) rfl ⟨rfl, rfl⟩ rfl rfl (hx_mono (h2 c1) (fun r m' h' => hx_pick [] h'))

/-- readsFactor from 69 on -/
theorem hr174_69 {xs : List Int32} {n : Nat} {Q : hQ} {m : gx_M} {s0 : Int}
    (h1 : Q (some (.inl s0)) m) : hxn xs (n + 1) yp_m174 69 [] [.inl s0] m Q := by
  exact hx_reti (by decide +kernel) h1

/-- readsFactor from 76 on -/
theorem hr174_76 {xs : List Int32} {n : Nat} {Q : hQ} {m : gx_M}
    (h1 : Q (some (.inl 1)) (gx_u m 86 5 (gx_w ((m 86 5) + 1)))) : hxn xs (n + 1) yp_m174 76 [(0, .inr (.inl 86))] [] m Q := by
  refine hx_blks (npc := 87) (L' := [(0, .inr (.inl 86))]) (st' := [.inl 1]) (m' := (gx_u m 86 5 (gx_w ((m 86 5) + 1)))) ((76, .aload_n 0, 1, 0, 0, 0, 0), (0, 0, 0)) [((77, .aload_n 0, 1, 0, 0, 0, 0), (0, 0, 0)), ((78, .getfield 132, 3, 10, 5, 5118, 0), (0, 86, 0)), ((81, .iconst 1, 1, 0, 0, 0, 0), (0, 0, 0)), ((82, .iadd, 1, 0, 0, 0, 0), (0, 0, 0)), ((83, .putfield 132, 3, 10, 5, 5118, 0), (0, 86, 0)), ((86, .iconst 1, 1, 0, 0, 0, 0), (0, 0, 0))] (by decide +kernel) rfl ?_
  exact hx_reti (by decide +kernel) h1

/-- readsSum from 0 on -/
theorem hr173_0 {xs : List Int32} {n : Nat} {Q : hQ} {m : gx_M}
    (h1 : hxn xs n yp_m174 0 [(0, .inr (.inl 86))] [] m (fun r m' => hxn xs n yp_m173 9 [(0, .inr (.inl 86)), (1, .inl (m 86 11))] (hrs r ++ []) m' Q)) : hxn xs (n + 1) yp_m173 0 [(0, .inr (.inl 86))] [] m Q := by
  refine hx_blks (npc := 6) (L' := [(0, .inr (.inl 86)), (1, .inl (m 86 11))]) (st' := [.inr (.inl 86)]) (m' := m) ((0, .aload_n 0, 1, 0, 0, 0, 0), (0, 0, 0)) [((1, .getfield 162, 3, 10, 11, 5124, 0), (0, 86, 0)), ((4, .istore_n 1, 1, 0, 0, 0, 0), (0, 0, 0)), ((5, .aload_n 0, 1, 0, 0, 0, 0), (0, 0, 0))] (by decide +kernel) rfl ?_
  exact hx_call (E := (6, .invokevirtual 182, 3, 174, 0, 6069, 0)) (M' := yp_m174) [.inr (.inl 86)] [] rfl (by decide +kernel) rfl ⟨rfl, rfl⟩ rfl rfl (hx_mono h1 (fun r m' h' => hx_pick [0, 1] h'))

/-- readsSum from 9 on -/
theorem hr173_9 {xs : List Int32} {n : Nat} {Q : hQ} {m : gx_M} {x1 s0 : Int}
    (h1 : (s0 ≠ 0) → hxn xs n yp_m173 14 [(0, .inr (.inl 86)), (1, .inl x1)] [] m Q)
    (h2 : (s0 = 0) → Q (some (.inl 0)) m) : hxn xs (n + 1) yp_m173 9 [(0, .inr (.inl 86)), (1, .inl x1)] [.inl s0] m Q := by
  refine hx_ifs .ne 14 (by decide +kernel) (fun c1 => ?_) (fun c1 => ?_)
  · have c1 : s0 ≠ 0 := c1
    exact hx_pick [0, 1] (h1 c1)
  · have c1 : s0 = 0 := by have h : ¬ (s0 ≠ 0) := c1; omega
    refine hx_blk (npc := 13) (L' := [(0, .inr (.inl 86)), (1, .inl x1)]) (st' := [.inl 0]) (m' := m) [((12, .iconst 0, 1, 0, 0, 0, 0), (0, 0, 0))] (by decide +kernel) rfl ?_
    exact hx_reti (by decide +kernel) (h2 c1)

/-- readsSum from 14 on -/
theorem hr173_14 {xs : List Int32} {n : Nat} {Q : hQ} {m : gx_M} {x1 : Int}
    (h1 : hxn xs n yp_m180 0 [(0, .inl (aHere m))] [] m (fun r m' => hxn xs n yp_m173 21 [(0, .inr (.inl 86)), (1, .inl x1)] (hrs r ++ []) m' Q)) : hxn xs (n + 1) yp_m173 14 [(0, .inr (.inl 86)), (1, .inl x1)] [] m Q := by
  refine hx_blks (npc := 15) (L' := [(0, .inr (.inl 86)), (1, .inl x1)]) (st' := [.inr (.inl 86)]) (m' := m) ((14, .aload_n 0, 1, 0, 0, 0, 0), (0, 0, 0)) [] (by decide +kernel) rfl ?_
  refine hx_call (E := (15, .invokevirtual 138, 3, 170, 0, 6054, 0)) (M' := yp_m170) [.inr (.inl 86)] [] rfl (by decide +kernel) rfl ⟨rfl, rfl⟩ rfl rfl (hs170 ?_)
  show hxn xs n yp_m173 18 [(0, .inr (.inl 86)), (1, .inl x1)] [.inl (aHere m)] m Q
  exact hx_call (E := (18, .invokestatic 185, 3, 180, 0, 6093, 0)) (M' := yp_m180) [.inl (aHere m)] [] rfl (by decide +kernel) rfl ⟨rfl, rfl⟩ rfl rfl (hx_mono h1 (fun r m' h' => hx_pick [0, 1] h'))

/-- readsSum from 21 on -/
theorem hr173_21 {xs : List Int32} {n : Nat} {Q : hQ} {m : gx_M} {x1 s0 : Int}
    (h1 : (s0 = (-1)) → ((aHere m) ≠ 93) → hxn xs n yp_m183 0 [(0, .inr (.inl 86)), (1, .inl x1)] [] m (fun r m' => hxn xs n yp_m173 143 [(0, .inr (.inl 86))] (hrs r ++ []) m' Q))
    (h2 : (s0 = (-1)) → ((aHere m) = 93) → hxn xs n yp_m183 0 [(0, .inr (.inl 86)), (1, .inl x1)] [] m (fun r m' => hxn xs n yp_m173 97 [(0, .inr (.inl 86)), (1, .inl x1)] (hrs r ++ []) m' Q))
    (h3 : (s0 ≠ (-1)) → (4 ≤ s0) → hxn xs n yp_m181 0 [(0, .inr (.inl 86)), (1, .inl 0)] [] m (fun r m' => hxn xs n yp_m173 41 [(0, .inr (.inl 86)), (1, .inl x1), (2, .inl s0)] (hrs r ++ []) m' Q))
    (h4 : (s0 ≠ (-1)) → (s0 < 4) → hxn xs n yp_m181 0 [(0, .inr (.inl 86)), (1, .inl 1)] [] m (fun r m' => hxn xs n yp_m173 41 [(0, .inr (.inl 86)), (1, .inl x1), (2, .inl s0)] (hrs r ++ []) m' Q)) : hxn xs (n + 1) yp_m173 21 [(0, .inr (.inl 86)), (1, .inl x1)] [.inl s0] m Q := by
  refine hx_blks (npc := 24) (L' := [(0, .inr (.inl 86)), (1, .inl x1), (2, .inl s0)]) (st' := [.inl (-1), .inl s0]) (m' := m) ((21, .istore_n 2, 1, 0, 0, 0, 0), (0, 0, 0)) [((22, .iload_n 2, 1, 0, 0, 0, 0), (0, 0, 0)), ((23, .iconst (-1), 1, 0, 0, 0, 0), (0, 0, 0))] (by decide +kernel) rfl ?_
  refine hx_cmp .eq 83 (by decide +kernel) (fun c1 => ?_) (fun c1 => ?_)
  · have c1 : s0 = (-1) := c1
    refine hx_blk (npc := 84) (L' := [(0, .inr (.inl 86)), (1, .inl x1), (2, .inl s0)]) (st' := [.inr (.inl 86)]) (m' := m) [((83, .aload_n 0, 1, 0, 0, 0, 0), (0, 0, 0))] (by decide +kernel) rfl ?_
    refine hx_call (E := (84, .invokevirtual 138, 3, 170, 0, 6054, 0)) (M' := yp_m170) [.inr (.inl 86)] [] rfl (by decide +kernel) rfl ⟨rfl, rfl⟩ rfl rfl (hs170 ?_)
    show hxn xs n yp_m173 87 [(0, .inr (.inl 86)), (1, .inl x1), (2, .inl s0)] [.inl (aHere m)] m Q
    refine hx_blk (npc := 89) (L' := [(0, .inr (.inl 86)), (1, .inl x1), (2, .inl s0)]) (st' := [.inl 93, .inl (aHere m)]) (m' := m) [((87, .bipush 93, 2, 0, 0, 0, 0), (0, 0, 0))] (by decide +kernel) rfl ?_
    refine hx_cmp .ne 138 (by decide +kernel) (fun c2 => ?_) (fun c2 => ?_)
    · have c2 : (aHere m) ≠ 93 := c2
      refine hx_blk (npc := 140) (L' := [(0, .inr (.inl 86)), (1, .inl x1), (2, .inl s0)]) (st' := [.inl x1, .inr (.inl 86)]) (m' := m) [((138, .aload_n 0, 1, 0, 0, 0, 0), (0, 0, 0)), ((139, .iload_n 1, 1, 0, 0, 0, 0), (0, 0, 0))] (by decide +kernel) rfl ?_
      exact hx_call (E := (140, .invokevirtual 192, 3, 183, 0, 6104, 0)) (M' := yp_m183) [.inr (.inl 86), .inl x1] [] rfl (by decide +kernel) rfl ⟨rfl, rfl⟩ rfl rfl (hx_mono (h1 c1 c2) (fun r m' h' => hx_pick [0] h'))
    · have c2 : (aHere m) = 93 := by have h : ¬ ((aHere m) ≠ 93) := c2; omega
      refine hx_blk (npc := 94) (L' := [(0, .inr (.inl 86)), (1, .inl x1), (2, .inl s0)]) (st' := [.inl x1, .inr (.inl 86)]) (m' := m) [((92, .aload_n 0, 1, 0, 0, 0, 0), (0, 0, 0)), ((93, .iload_n 1, 1, 0, 0, 0, 0), (0, 0, 0))] (by decide +kernel) rfl ?_
      exact hx_call (E := (94, .invokevirtual 192, 3, 183, 0, 6104, 0)) (M' := yp_m183) [.inr (.inl 86), .inl x1] [] rfl (by decide +kernel) rfl ⟨rfl, rfl⟩ rfl rfl (hx_mono (h2 c1 c2) (fun r m' h' => hx_pick [0, 1] h'))
  · have c1 : s0 ≠ (-1) := c1
    refine hx_blk (npc := 30) (L' := [(0, .inr (.inl 86)), (1, .inl x1), (2, .inl s0)]) (st' := [.inl 4, .inl s0, .inr (.inl 86)]) (m' := m) [((27, .aload_n 0, 1, 0, 0, 0, 0), (0, 0, 0)), ((28, .iload_n 2, 1, 0, 0, 0, 0), (0, 0, 0)), ((29, .iconst 4, 1, 0, 0, 0, 0), (0, 0, 0))] (by decide +kernel) rfl ?_
    refine hx_cmp .ge 37 (by decide +kernel) (fun c2 => ?_) (fun c2 => ?_)
    · have c2 : 4 ≤ s0 := c2
      refine hx_blk (npc := 38) (L' := [(0, .inr (.inl 86)), (1, .inl x1), (2, .inl s0)]) (st' := [.inl 0, .inr (.inl 86)]) (m' := m) [((37, .iconst 0, 1, 0, 0, 0, 0), (0, 0, 0))] (by decide +kernel) rfl ?_
      exact hx_call (E := (38, .invokevirtual 188, 3, 181, 0, 6096, 0)) (M' := yp_m181) [.inr (.inl 86), .inl 0] [] rfl (by decide +kernel) rfl ⟨rfl, rfl⟩ rfl rfl (hx_mono (h3 c1 c2) (fun r m' h' => hx_pick [0, 1, 2] h'))
    · have c2 : s0 < 4 := by have h : ¬ (4 ≤ s0) := c2; omega
      refine hx_blk (npc := 38) (L' := [(0, .inr (.inl 86)), (1, .inl x1), (2, .inl s0)]) (st' := [.inl 1, .inr (.inl 86)]) (m' := m) [((33, .iconst 1, 1, 0, 0, 0, 0), (0, 0, 0)), ((34, .goto 4, 3, 0, 0, 0, 0), (0, 0, 0))] (by decide +kernel) rfl ?_
      exact hx_call (E := (38, .invokevirtual 188, 3, 181, 0, 6096, 0)) (M' := yp_m181) [.inr (.inl 86), .inl 1] [] rfl (by decide +kernel) rfl ⟨rfl, rfl⟩ rfl rfl (hx_mono (h4 c1 c2) (fun r m' h' => hx_pick [0, 1, 2] h'))

/-- readsSum from 41 on -/
theorem hr173_41 {xs : List Int32} {n : Nat} {Q : hQ} {m : gx_M} {x1 x2 : Int}
    (h1 : hxn xs n yp_m174 0 [(0, .inr (.inl 86))] [] (gx_u (gx_u (gx_u m 92 (m 86 11).toNat (gx_w (1048576 * x2))) 86 11 (gx_w ((m 86 11) + 1))) 86 5 (gx_w ((m 86 5) + 1))) (fun r m' => hxn xs n yp_m173 78 [(0, .inr (.inl 86)), (1, .inl x1)] (hrs r ++ []) m' Q)) : hxn xs (n + 1) yp_m173 41 [(0, .inr (.inl 86)), (1, .inl x1), (2, .inl x2)] [] m Q := by
  refine hx_blks (npc := 75) (L' := [(0, .inr (.inl 86)), (1, .inl x1), (2, .inl x2)]) (st' := [.inr (.inl 86)]) (m' := (gx_u (gx_u (gx_u m 92 (m 86 11).toNat (gx_w (1048576 * x2))) 86 11 (gx_w ((m 86 11) + 1))) 86 5 (gx_w ((m 86 5) + 1)))) ((41, .aload_n 0, 1, 0, 0, 0, 0), (0, 0, 0)) [((42, .getfield 26, 3, 10, 15, 5128, 0), (1, 86, 92)), ((45, .aload_n 0, 1, 0, 0, 0, 0), (0, 0, 0)), ((46, .getfield 162, 3, 10, 11, 5124, 0), (0, 86, 0)), ((49, .ldc 158, 2, 0, 0, 6077, 1048576), (0, 0, 0)), ((51, .iload_n 2, 1, 0, 0, 0, 0), (0, 0, 0)), ((52, .imul, 1, 0, 0, 0, 0), (0, 0, 0)), ((53, .iastore, 1, 0, 0, 0, 0), (0, 92, 0)), ((54, .aload_n 0, 1, 0, 0, 0, 0), (0, 0, 0)), ((55, .aload_n 0, 1, 0, 0, 0, 0), (0, 0, 0)), ((56, .getfield 162, 3, 10, 11, 5124, 0), (0, 86, 0)), ((59, .iconst 1, 1, 0, 0, 0, 0), (0, 0, 0)), ((60, .iadd, 1, 0, 0, 0, 0), (0, 0, 0)), ((61, .putfield 162, 3, 10, 11, 5124, 0), (0, 86, 0)), ((64, .aload_n 0, 1, 0, 0, 0, 0), (0, 0, 0)), ((65, .aload_n 0, 1, 0, 0, 0, 0), (0, 0, 0)), ((66, .getfield 132, 3, 10, 5, 5118, 0), (0, 86, 0)), ((69, .iconst 1, 1, 0, 0, 0, 0), (0, 0, 0)), ((70, .iadd, 1, 0, 0, 0, 0), (0, 0, 0)), ((71, .putfield 132, 3, 10, 5, 5118, 0), (0, 86, 0)), ((74, .aload_n 0, 1, 0, 0, 0, 0), (0, 0, 0))] (by decide +kernel) rfl ?_
  exact hx_call (E := (75, .invokevirtual 182, 3, 174, 0, 6069, 0)) (M' := yp_m174) [.inr (.inl 86)] [] rfl (by decide +kernel) rfl ⟨rfl, rfl⟩ rfl rfl (hx_mono h1 (fun r m' h' => hx_pick [0, 1] h'))

/-- readsSum from 78 on -/
theorem hr173_78 {xs : List Int32} {n : Nat} {Q : hQ} {m : gx_M} {x1 s0 : Int}
    (h1 : (s0 ≠ 0) → hxn xs n yp_m173 14 [(0, .inr (.inl 86)), (1, .inl x1)] [] m Q)
    (h2 : (s0 = 0) → Q (some (.inl 0)) m) : hxn xs (n + 1) yp_m173 78 [(0, .inr (.inl 86)), (1, .inl x1)] [.inl s0] m Q := by
  refine hx_ifs .ne 163 (by decide +kernel) (fun c1 => ?_) (fun c1 => ?_)
  · have c1 : s0 ≠ 0 := c1
    refine hx_blk (npc := 14) (L' := [(0, .inr (.inl 86)), (1, .inl x1)]) (st' := []) (m' := m) [((163, .goto (-149), 3, 0, 0, 0, 0), (0, 0, 0))] (by decide +kernel) rfl ?_
    exact hx_pick [0, 1] (h1 c1)
  · have c1 : s0 = 0 := by have h : ¬ (s0 ≠ 0) := c1; omega
    refine hx_blk (npc := 82) (L' := [(0, .inr (.inl 86)), (1, .inl x1)]) (st' := [.inl 0]) (m' := m) [((81, .iconst 0, 1, 0, 0, 0, 0), (0, 0, 0))] (by decide +kernel) rfl ?_
    exact hx_reti (by decide +kernel) (h2 c1)

/-- readsSum from 97 on -/
theorem hr173_97 {xs : List Int32} {n : Nat} {Q : hQ} {m : gx_M} {x1 s0 : Int}
    (h1 : (s0 = 0) → hxn xs n yp_m183 0 [(0, .inr (.inl 86)), (1, .inl x1)] [] m (fun r m' => hxn xs n yp_m173 143 [(0, .inr (.inl 86))] (hrs r ++ []) m' Q))
    (h2 : (s0 ≠ 0) → hxn xs n yp_m181 0 [(0, .inr (.inl 86)), (1, .inl 1)] [] m (fun r m' => hxn xs n yp_m173 105 [(0, .inr (.inl 86)), (1, .inl x1)] (hrs r ++ []) m' Q)) : hxn xs (n + 1) yp_m173 97 [(0, .inr (.inl 86)), (1, .inl x1)] [.inl s0] m Q := by
  refine hx_ifs .eq 138 (by decide +kernel) (fun c1 => ?_) (fun c1 => ?_)
  · have c1 : s0 = 0 := c1
    refine hx_blk (npc := 140) (L' := [(0, .inr (.inl 86)), (1, .inl x1)]) (st' := [.inl x1, .inr (.inl 86)]) (m' := m) [((138, .aload_n 0, 1, 0, 0, 0, 0), (0, 0, 0)), ((139, .iload_n 1, 1, 0, 0, 0, 0), (0, 0, 0))] (by decide +kernel) rfl ?_
    exact hx_call (E := (140, .invokevirtual 192, 3, 183, 0, 6104, 0)) (M' := yp_m183) [.inr (.inl 86), .inl x1] [] rfl (by decide +kernel) rfl ⟨rfl, rfl⟩ rfl rfl (hx_mono (h1 c1) (fun r m' h' => hx_pick [0] h'))
  · have c1 : s0 ≠ 0 := c1
    refine hx_blk (npc := 102) (L' := [(0, .inr (.inl 86)), (1, .inl x1)]) (st' := [.inl 1, .inr (.inl 86)]) (m' := m) [((100, .aload_n 0, 1, 0, 0, 0, 0), (0, 0, 0)), ((101, .iconst 1, 1, 0, 0, 0, 0), (0, 0, 0))] (by decide +kernel) rfl ?_
    exact hx_call (E := (102, .invokevirtual 188, 3, 181, 0, 6096, 0)) (M' := yp_m181) [.inr (.inl 86), .inl 1] [] rfl (by decide +kernel) rfl ⟨rfl, rfl⟩ rfl rfl (hx_mono (h2 c1) (fun r m' h' => hx_pick [0, 1] h'))

/-- readsSum from 105 on -/
theorem hr173_105 {xs : List Int32} {n : Nat} {Q : hQ} {m : gx_M} {x1 : Int}
    (h1 : hxn xs n yp_m173 14 [(0, .inr (.inl 86)), (1, .inl x1)] [] (gx_u (gx_u (gx_u m 86 11 (gx_w ((m 86 11) - 1))) 86 9 (gx_w ((m 86 9) - 1))) 86 5 (gx_w ((m 86 5) + 1))) Q) : hxn xs (n + 1) yp_m173 105 [(0, .inr (.inl 86)), (1, .inl x1)] [] m Q := by
  refine hx_blks (npc := 14) (L' := [(0, .inr (.inl 86)), (1, .inl x1)]) (st' := []) (m' := (gx_u (gx_u (gx_u m 86 11 (gx_w ((m 86 11) - 1))) 86 9 (gx_w ((m 86 9) - 1))) 86 5 (gx_w ((m 86 5) + 1)))) ((105, .aload_n 0, 1, 0, 0, 0, 0), (0, 0, 0)) [((106, .aload_n 0, 1, 0, 0, 0, 0), (0, 0, 0)), ((107, .getfield 162, 3, 10, 11, 5124, 0), (0, 86, 0)), ((110, .iconst 1, 1, 0, 0, 0, 0), (0, 0, 0)), ((111, .isub, 1, 0, 0, 0, 0), (0, 0, 0)), ((112, .putfield 162, 3, 10, 11, 5124, 0), (0, 86, 0)), ((115, .aload_n 0, 1, 0, 0, 0, 0), (0, 0, 0)), ((116, .aload_n 0, 1, 0, 0, 0, 0), (0, 0, 0)), ((117, .getfield 159, 3, 10, 9, 5122, 0), (0, 86, 0)), ((120, .iconst 1, 1, 0, 0, 0, 0), (0, 0, 0)), ((121, .isub, 1, 0, 0, 0, 0), (0, 0, 0)), ((122, .putfield 159, 3, 10, 9, 5122, 0), (0, 86, 0)), ((125, .aload_n 0, 1, 0, 0, 0, 0), (0, 0, 0)), ((126, .aload_n 0, 1, 0, 0, 0, 0), (0, 0, 0)), ((127, .getfield 132, 3, 10, 5, 5118, 0), (0, 86, 0)), ((130, .iconst 1, 1, 0, 0, 0, 0), (0, 0, 0)), ((131, .iadd, 1, 0, 0, 0, 0), (0, 0, 0)), ((132, .putfield 132, 3, 10, 5, 5118, 0), (0, 86, 0)), ((135, .goto 28, 3, 0, 0, 0, 0), (0, 0, 0)), ((163, .goto (-149), 3, 0, 0, 0, 0), (0, 0, 0))] (by decide +kernel) rfl ?_
  exact hx_pick [0, 1] h1

/-- readsSum from 143 on -/
theorem hr173_143 {xs : List Int32} {n : Nat} {Q : hQ} {m : gx_M} {s0 : Int}
    (h1 : (s0 = 0) → hxn xs n yp_m181 0 [(0, .inr (.inl 86)), (1, .inl 1)] [] m (fun r m' => hxn xs n yp_m173 161 [] (hrs r ++ []) m' Q))
    (h2 : (s0 ≠ 0) → hxn xs n yp_m172 0 [(0, .inr (.inl 86)), (1, .inl 1), (2, .inl (m 86 5))] [] m (fun r m' => hxn xs n yp_m173 155 [] (hrs r ++ []) m' Q)) : hxn xs (n + 1) yp_m173 143 [(0, .inr (.inl 86))] [.inl s0] m Q := by
  refine hx_ifs .eq 156 (by decide +kernel) (fun c1 => ?_) (fun c1 => ?_)
  · have c1 : s0 = 0 := c1
    refine hx_blk (npc := 158) (L' := [(0, .inr (.inl 86))]) (st' := [.inl 1, .inr (.inl 86)]) (m' := m) [((156, .aload_n 0, 1, 0, 0, 0, 0), (0, 0, 0)), ((157, .iconst 1, 1, 0, 0, 0, 0), (0, 0, 0))] (by decide +kernel) rfl ?_
    exact hx_call (E := (158, .invokevirtual 188, 3, 181, 0, 6096, 0)) (M' := yp_m181) [.inr (.inl 86), .inl 1] [] rfl (by decide +kernel) rfl ⟨rfl, rfl⟩ rfl rfl (hx_mono (h1 c1) (fun r m' h' => hx_pick [] h'))
  · have c1 : s0 ≠ 0 := c1
    refine hx_blk (npc := 152) (L' := [(0, .inr (.inl 86))]) (st' := [.inl (m 86 5), .inl 1, .inr (.inl 86)]) (m' := m) [((146, .aload_n 0, 1, 0, 0, 0, 0), (0, 0, 0)), ((147, .iconst 1, 1, 0, 0, 0, 0), (0, 0, 0)), ((148, .aload_n 0, 1, 0, 0, 0, 0), (0, 0, 0)), ((149, .getfield 132, 3, 10, 5, 5118, 0), (0, 86, 0))] (by decide +kernel) rfl ?_
    exact hx_call (E := (152, .invokevirtual 145, 3, 172, 0, 6061, 0)) (M' := yp_m172) [.inr (.inl 86), .inl 1, .inl (m 86 5)] [] rfl (by decide +kernel) rfl ⟨rfl, rfl⟩ rfl rfl (hx_mono (h2 c1) (fun r m' h' => hx_pick [] h'))

/-- readsSum from 155 on -/
theorem hr173_155 {xs : List Int32} {n : Nat} {Q : hQ} {m : gx_M} {s0 : Int}
    (h1 : Q (some (.inl s0)) m) : hxn xs (n + 1) yp_m173 155 [] [.inl s0] m Q := by
  exact hx_reti (by decide +kernel) h1

/-- readsSum from 161 on -/
theorem hr173_161 {xs : List Int32} {n : Nat} {Q : hQ} {m : gx_M}
    (h1 : Q (some (.inl 1)) m) : hxn xs (n + 1) yp_m173 161 [] [] m Q := by
  refine hx_blks (npc := 162) (L' := []) (st' := [.inl 1]) (m' := m) ((161, .iconst 1, 1, 0, 0, 0, 0), (0, 0, 0)) [] (by decide +kernel) rfl ?_
  exact hx_reti (by decide +kernel) h1

/-- readsCompared from 0 on -/
theorem hr185_0 {xs : List Int32} {n : Nat} {Q : hQ} {m : gx_M}
    (h1 : hxn xs n yp_m173 0 [(0, .inr (.inl 86))] [] m (fun r m' => hxn xs n yp_m185 4 [(0, .inr (.inl 86))] (hrs r ++ []) m' Q)) : hxn xs (n + 1) yp_m185 0 [(0, .inr (.inl 86))] [] m Q := by
  refine hx_blks (npc := 1) (L' := [(0, .inr (.inl 86))]) (st' := [.inr (.inl 86)]) (m' := m) ((0, .aload_n 0, 1, 0, 0, 0, 0), (0, 0, 0)) [] (by decide +kernel) rfl ?_
  exact hx_call (E := (1, .invokevirtual 195, 3, 173, 0, 6065, 0)) (M' := yp_m173) [.inr (.inl 86)] [] rfl (by decide +kernel) rfl ⟨rfl, rfl⟩ rfl rfl (hx_mono h1 (fun r m' h' => hx_pick [0] h'))

/-- readsCompared from 4 on -/
theorem hr185_4 {xs : List Int32} {n : Nat} {Q : hQ} {m : gx_M} {s0 : Int}
    (h1 : (s0 ≠ 0) → ((aHere m) ≠ 60) → ((aHere m) ≠ 62) → ((aHere m) ≠ 61) → hxn xs n yp_m172 0 [(0, .inr (.inl 86)), (1, .inl 1), (2, .inl (m 86 5))] [] m (fun r m' => hxn xs n yp_m185 67 [] (hrs r ++ []) m' Q))
    (h2 : (s0 ≠ 0) → ((aHere m) ≠ 60) → ((aHere m) ≠ 62) → ((aHere m) = 61) → hxn xs n yp_m173 0 [(0, .inr (.inl 86))] [] (gx_u m 86 5 (gx_w ((m 86 5) + 1))) (fun r m' => hxn xs n yp_m185 82 [(0, .inr (.inl 86)), (1, .inl 9)] (hrs r ++ []) m' Q))
    (h3 : (s0 ≠ 0) → ((aHere m) ≠ 60) → ((aHere m) = 62) → hxn xs n yp_m173 0 [(0, .inr (.inl 86))] [] (gx_u m 86 5 (gx_w ((m 86 5) + 1))) (fun r m' => hxn xs n yp_m185 82 [(0, .inr (.inl 86)), (1, .inl 8)] (hrs r ++ []) m' Q))
    (h4 : (s0 ≠ 0) → ((aHere m) = 60) → hxn xs n yp_m173 0 [(0, .inr (.inl 86))] [] (gx_u m 86 5 (gx_w ((m 86 5) + 1))) (fun r m' => hxn xs n yp_m185 82 [(0, .inr (.inl 86)), (1, .inl 7)] (hrs r ++ []) m' Q))
    (h5 : (s0 = 0) → Q (some (.inl 0)) m) : hxn xs (n + 1) yp_m185 4 [(0, .inr (.inl 86))] [.inl s0] m Q := by
  refine hx_ifs .ne 9 (by decide +kernel) (fun c1 => ?_) (fun c1 => ?_)
  · have c1 : s0 ≠ 0 := c1
    refine hx_blk (npc := 10) (L' := [(0, .inr (.inl 86))]) (st' := [.inr (.inl 86)]) (m' := m) [((9, .aload_n 0, 1, 0, 0, 0, 0), (0, 0, 0))] (by decide +kernel) rfl ?_
    refine hx_call (E := (10, .invokevirtual 138, 3, 170, 0, 6054, 0)) (M' := yp_m170) [.inr (.inl 86)] [] rfl (by decide +kernel) rfl ⟨rfl, rfl⟩ rfl rfl (hs170 ?_)
    show hxn xs n yp_m185 13 [(0, .inr (.inl 86))] [.inl (aHere m)] m Q
    refine hx_blk (npc := 15) (L' := [(0, .inr (.inl 86))]) (st' := [.inl 60, .inl (aHere m)]) (m' := m) [((13, .bipush 60, 2, 0, 0, 0, 0), (0, 0, 0))] (by decide +kernel) rfl ?_
    refine hx_cmp .ne 23 (by decide +kernel) (fun c2 => ?_) (fun c2 => ?_)
    · have c2 : (aHere m) ≠ 60 := c2
      refine hx_blk (npc := 24) (L' := [(0, .inr (.inl 86))]) (st' := [.inr (.inl 86)]) (m' := m) [((23, .aload_n 0, 1, 0, 0, 0, 0), (0, 0, 0))] (by decide +kernel) rfl ?_
      refine hx_call (E := (24, .invokevirtual 138, 3, 170, 0, 6054, 0)) (M' := yp_m170) [.inr (.inl 86)] [] rfl (by decide +kernel) rfl ⟨rfl, rfl⟩ rfl rfl (hs170 ?_)
      show hxn xs n yp_m185 27 [(0, .inr (.inl 86))] [.inl (aHere m)] m Q
      refine hx_blk (npc := 29) (L' := [(0, .inr (.inl 86))]) (st' := [.inl 62, .inl (aHere m)]) (m' := m) [((27, .bipush 62, 2, 0, 0, 0, 0), (0, 0, 0))] (by decide +kernel) rfl ?_
      refine hx_cmp .ne 37 (by decide +kernel) (fun c3 => ?_) (fun c3 => ?_)
      · have c3 : (aHere m) ≠ 62 := c3
        refine hx_blk (npc := 38) (L' := [(0, .inr (.inl 86))]) (st' := [.inr (.inl 86)]) (m' := m) [((37, .aload_n 0, 1, 0, 0, 0, 0), (0, 0, 0))] (by decide +kernel) rfl ?_
        refine hx_call (E := (38, .invokevirtual 138, 3, 170, 0, 6054, 0)) (M' := yp_m170) [.inr (.inl 86)] [] rfl (by decide +kernel) rfl ⟨rfl, rfl⟩ rfl rfl (hs170 ?_)
        show hxn xs n yp_m185 41 [(0, .inr (.inl 86))] [.inl (aHere m)] m Q
        refine hx_blk (npc := 43) (L' := [(0, .inr (.inl 86))]) (st' := [.inl 61, .inl (aHere m)]) (m' := m) [((41, .bipush 61, 2, 0, 0, 0, 0), (0, 0, 0))] (by decide +kernel) rfl ?_
        refine hx_cmp .ne 51 (by decide +kernel) (fun c4 => ?_) (fun c4 => ?_)
        · have c4 : (aHere m) ≠ 61 := c4
          refine hx_blk (npc := 55) (L' := [(0, .inr (.inl 86)), (1, .inl (-1))]) (st' := [.inl (-1), .inl (-1)]) (m' := m) [((51, .iconst (-1), 1, 0, 0, 0, 0), (0, 0, 0)), ((52, .istore_n 1, 1, 0, 0, 0, 0), (0, 0, 0)), ((53, .iload_n 1, 1, 0, 0, 0, 0), (0, 0, 0)), ((54, .iconst (-1), 1, 0, 0, 0, 0), (0, 0, 0))] (by decide +kernel) rfl ?_
          refine hx_cmp .ne 68 (by decide +kernel) (fun c5 => ?_) (fun c5 => ?_)
          · have c5 : (-1 : Int) ≠ (-1) := c5
            exfalso; omega
          · have c5 : (-1 : Int) = (-1) := by have h : ¬ ((-1 : Int) ≠ (-1)) := c5; omega
            refine hx_blk (npc := 64) (L' := [(0, .inr (.inl 86)), (1, .inl (-1))]) (st' := [.inl (m 86 5), .inl 1, .inr (.inl 86)]) (m' := m) [((58, .aload_n 0, 1, 0, 0, 0, 0), (0, 0, 0)), ((59, .iconst 1, 1, 0, 0, 0, 0), (0, 0, 0)), ((60, .aload_n 0, 1, 0, 0, 0, 0), (0, 0, 0)), ((61, .getfield 132, 3, 10, 5, 5118, 0), (0, 86, 0))] (by decide +kernel) rfl ?_
            exact hx_call (E := (64, .invokevirtual 145, 3, 172, 0, 6061, 0)) (M' := yp_m172) [.inr (.inl 86), .inl 1, .inl (m 86 5)] [] rfl (by decide +kernel) rfl ⟨rfl, rfl⟩ rfl rfl (hx_mono (h1 c1 c2 c3 c4) (fun r m' h' => hx_pick [] h'))
        · have c4 : (aHere m) = 61 := by have h : ¬ ((aHere m) ≠ 61) := c4; omega
          refine hx_blk (npc := 55) (L' := [(0, .inr (.inl 86)), (1, .inl 9)]) (st' := [.inl (-1), .inl 9]) (m' := m) [((46, .bipush 9, 2, 0, 0, 0, 0), (0, 0, 0)), ((48, .goto 4, 3, 0, 0, 0, 0), (0, 0, 0)), ((52, .istore_n 1, 1, 0, 0, 0, 0), (0, 0, 0)), ((53, .iload_n 1, 1, 0, 0, 0, 0), (0, 0, 0)), ((54, .iconst (-1), 1, 0, 0, 0, 0), (0, 0, 0))] (by decide +kernel) rfl ?_
          refine hx_cmp .ne 68 (by decide +kernel) (fun c5 => ?_) (fun c5 => ?_)
          · have c5 : (9 : Int) ≠ (-1) := c5
            refine hx_blk (npc := 79) (L' := [(0, .inr (.inl 86)), (1, .inl 9)]) (st' := [.inr (.inl 86)]) (m' := (gx_u m 86 5 (gx_w ((m 86 5) + 1)))) [((68, .aload_n 0, 1, 0, 0, 0, 0), (0, 0, 0)), ((69, .aload_n 0, 1, 0, 0, 0, 0), (0, 0, 0)), ((70, .getfield 132, 3, 10, 5, 5118, 0), (0, 86, 0)), ((73, .iconst 1, 1, 0, 0, 0, 0), (0, 0, 0)), ((74, .iadd, 1, 0, 0, 0, 0), (0, 0, 0)), ((75, .putfield 132, 3, 10, 5, 5118, 0), (0, 86, 0)), ((78, .aload_n 0, 1, 0, 0, 0, 0), (0, 0, 0))] (by decide +kernel) rfl ?_
            exact hx_call (E := (79, .invokevirtual 195, 3, 173, 0, 6065, 0)) (M' := yp_m173) [.inr (.inl 86)] [] rfl (by decide +kernel) rfl ⟨rfl, rfl⟩ rfl rfl (hx_mono (h2 c1 c2 c3 c4) (fun r m' h' => hx_pick [0, 1] h'))
          · have c5 : (9 : Int) = (-1) := by have h : ¬ ((9 : Int) ≠ (-1)) := c5; omega
            exfalso; omega
      · have c3 : (aHere m) = 62 := by have h : ¬ ((aHere m) ≠ 62) := c3; omega
        refine hx_blk (npc := 55) (L' := [(0, .inr (.inl 86)), (1, .inl 8)]) (st' := [.inl (-1), .inl 8]) (m' := m) [((32, .bipush 8, 2, 0, 0, 0, 0), (0, 0, 0)), ((34, .goto 18, 3, 0, 0, 0, 0), (0, 0, 0)), ((52, .istore_n 1, 1, 0, 0, 0, 0), (0, 0, 0)), ((53, .iload_n 1, 1, 0, 0, 0, 0), (0, 0, 0)), ((54, .iconst (-1), 1, 0, 0, 0, 0), (0, 0, 0))] (by decide +kernel) rfl ?_
        refine hx_cmp .ne 68 (by decide +kernel) (fun c4 => ?_) (fun c4 => ?_)
        · have c4 : (8 : Int) ≠ (-1) := c4
          refine hx_blk (npc := 79) (L' := [(0, .inr (.inl 86)), (1, .inl 8)]) (st' := [.inr (.inl 86)]) (m' := (gx_u m 86 5 (gx_w ((m 86 5) + 1)))) [((68, .aload_n 0, 1, 0, 0, 0, 0), (0, 0, 0)), ((69, .aload_n 0, 1, 0, 0, 0, 0), (0, 0, 0)), ((70, .getfield 132, 3, 10, 5, 5118, 0), (0, 86, 0)), ((73, .iconst 1, 1, 0, 0, 0, 0), (0, 0, 0)), ((74, .iadd, 1, 0, 0, 0, 0), (0, 0, 0)), ((75, .putfield 132, 3, 10, 5, 5118, 0), (0, 86, 0)), ((78, .aload_n 0, 1, 0, 0, 0, 0), (0, 0, 0))] (by decide +kernel) rfl ?_
          exact hx_call (E := (79, .invokevirtual 195, 3, 173, 0, 6065, 0)) (M' := yp_m173) [.inr (.inl 86)] [] rfl (by decide +kernel) rfl ⟨rfl, rfl⟩ rfl rfl (hx_mono (h3 c1 c2 c3) (fun r m' h' => hx_pick [0, 1] h'))
        · have c4 : (8 : Int) = (-1) := by have h : ¬ ((8 : Int) ≠ (-1)) := c4; omega
          exfalso; omega
    · have c2 : (aHere m) = 60 := by have h : ¬ ((aHere m) ≠ 60) := c2; omega
      refine hx_blk (npc := 55) (L' := [(0, .inr (.inl 86)), (1, .inl 7)]) (st' := [.inl (-1), .inl 7]) (m' := m) [((18, .bipush 7, 2, 0, 0, 0, 0), (0, 0, 0)), ((20, .goto 32, 3, 0, 0, 0, 0), (0, 0, 0)), ((52, .istore_n 1, 1, 0, 0, 0, 0), (0, 0, 0)), ((53, .iload_n 1, 1, 0, 0, 0, 0), (0, 0, 0)), ((54, .iconst (-1), 1, 0, 0, 0, 0), (0, 0, 0))] (by decide +kernel) rfl ?_
      refine hx_cmp .ne 68 (by decide +kernel) (fun c3 => ?_) (fun c3 => ?_)
      · have c3 : (7 : Int) ≠ (-1) := c3
        refine hx_blk (npc := 79) (L' := [(0, .inr (.inl 86)), (1, .inl 7)]) (st' := [.inr (.inl 86)]) (m' := (gx_u m 86 5 (gx_w ((m 86 5) + 1)))) [((68, .aload_n 0, 1, 0, 0, 0, 0), (0, 0, 0)), ((69, .aload_n 0, 1, 0, 0, 0, 0), (0, 0, 0)), ((70, .getfield 132, 3, 10, 5, 5118, 0), (0, 86, 0)), ((73, .iconst 1, 1, 0, 0, 0, 0), (0, 0, 0)), ((74, .iadd, 1, 0, 0, 0, 0), (0, 0, 0)), ((75, .putfield 132, 3, 10, 5, 5118, 0), (0, 86, 0)), ((78, .aload_n 0, 1, 0, 0, 0, 0), (0, 0, 0))] (by decide +kernel) rfl ?_
        exact hx_call (E := (79, .invokevirtual 195, 3, 173, 0, 6065, 0)) (M' := yp_m173) [.inr (.inl 86)] [] rfl (by decide +kernel) rfl ⟨rfl, rfl⟩ rfl rfl (hx_mono (h4 c1 c2) (fun r m' h' => hx_pick [0, 1] h'))
      · have c3 : (7 : Int) = (-1) := by have h : ¬ ((7 : Int) ≠ (-1)) := c3; omega
        exfalso; omega
  · have c1 : s0 = 0 := by have h : ¬ (s0 ≠ 0) := c1; omega
    refine hx_blk (npc := 8) (L' := [(0, .inr (.inl 86))]) (st' := [.inl 0]) (m' := m) [((7, .iconst 0, 1, 0, 0, 0, 0), (0, 0, 0))] (by decide +kernel) rfl ?_
    exact hx_reti (by decide +kernel) (h5 c1)

/-- readsCompared from 67 on -/
theorem hr185_67 {xs : List Int32} {n : Nat} {Q : hQ} {m : gx_M} {s0 : Int}
    (h1 : Q (some (.inl s0)) m) : hxn xs (n + 1) yp_m185 67 [] [.inl s0] m Q := by
  exact hx_reti (by decide +kernel) h1

/-- readsCompared from 82 on -/
theorem hr185_82 {xs : List Int32} {n : Nat} {Q : hQ} {m : gx_M} {x1 s0 : Int}
    (h1 : (s0 ≠ 0) → hxn xs n yp_m178 0 [(0, .inr (.inl 86)), (1, .inl x1), (2, .inl 0)] [] m (fun r m' => hxn xs n yp_m185 93 [(0, .inr (.inl 86))] (hrs r ++ []) m' Q))
    (h2 : (s0 = 0) → Q (some (.inl 0)) m) : hxn xs (n + 1) yp_m185 82 [(0, .inr (.inl 86)), (1, .inl x1)] [.inl s0] m Q := by
  refine hx_ifs .ne 87 (by decide +kernel) (fun c1 => ?_) (fun c1 => ?_)
  · have c1 : s0 ≠ 0 := c1
    refine hx_blk (npc := 90) (L' := [(0, .inr (.inl 86)), (1, .inl x1)]) (st' := [.inl 0, .inl x1, .inr (.inl 86)]) (m' := m) [((87, .aload_n 0, 1, 0, 0, 0, 0), (0, 0, 0)), ((88, .iload_n 1, 1, 0, 0, 0, 0), (0, 0, 0)), ((89, .iconst 0, 1, 0, 0, 0, 0), (0, 0, 0))] (by decide +kernel) rfl ?_
    exact hx_call (E := (90, .invokevirtual 168, 3, 178, 0, 6086, 0)) (M' := yp_m178) [.inr (.inl 86), .inl x1, .inl 0] [] rfl (by decide +kernel) rfl ⟨rfl, rfl⟩ rfl rfl (hx_mono (h1 c1) (fun r m' h' => hx_pick [0] h'))
  · have c1 : s0 = 0 := by have h : ¬ (s0 ≠ 0) := c1; omega
    refine hx_blk (npc := 86) (L' := [(0, .inr (.inl 86)), (1, .inl x1)]) (st' := [.inl 0]) (m' := m) [((85, .iconst 0, 1, 0, 0, 0, 0), (0, 0, 0))] (by decide +kernel) rfl ?_
    exact hx_reti (by decide +kernel) (h2 c1)

/-- readsCompared from 93 on -/
theorem hr185_93 {xs : List Int32} {n : Nat} {Q : hQ} {m : gx_M}
    (h1 : hxn xs n yp_m186 0 [(0, .inr (.inl 86))] [] m (fun r m' => hxn xs n yp_m185 97 [] (hrs r ++ []) m' Q)) : hxn xs (n + 1) yp_m185 93 [(0, .inr (.inl 86))] [] m Q := by
  refine hx_blks (npc := 94) (L' := [(0, .inr (.inl 86))]) (st' := [.inr (.inl 86)]) (m' := m) ((93, .aload_n 0, 1, 0, 0, 0, 0), (0, 0, 0)) [] (by decide +kernel) rfl ?_
  exact hx_call (E := (94, .invokevirtual 198, 3, 186, 0, 6116, 0)) (M' := yp_m186) [.inr (.inl 86)] [] rfl (by decide +kernel) rfl ⟨rfl, rfl⟩ rfl rfl (hx_mono h1 (fun r m' h' => hx_pick [] h'))

/-- readsCompared from 97 on -/
theorem hr185_97 {xs : List Int32} {n : Nat} {Q : hQ} {m : gx_M}
    (h1 : Q (some (.inl 1)) m) : hxn xs (n + 1) yp_m185 97 [] [] m Q := by
  refine hx_blks (npc := 98) (L' := []) (st' := [.inl 1]) (m' := m) ((97, .iconst 1, 1, 0, 0, 0, 0), (0, 0, 0)) [] (by decide +kernel) rfl ?_
  exact hx_reti (by decide +kernel) h1

/-- readsCondition from 0 on -/
theorem hr184_0 {xs : List Int32} {n : Nat} {Q : hQ} {m : gx_M}
    (h1 : ((aHere m) = 40) → hxn xs n yp_m175 0 [(0, .inr (.inl 86)), (1, .inl 13)] [] (gx_u (gx_u m 86 9 0) 86 11 0) (fun r m' => hxn xs n yp_m184 35 [(0, .inr (.inl 86))] (hrs r ++ []) m' Q))
    (h2 : ((aHere m) ≠ 40) → hxn xs n yp_m172 0 [(0, .inr (.inl 86)), (1, .inl 1), (2, .inl (m 86 5))] [] m (fun r m' => hxn xs n yp_m184 18 [] (hrs r ++ []) m' Q)) : hxn xs (n + 1) yp_m184 0 [(0, .inr (.inl 86))] [] m Q := by
  refine hx_blks (npc := 1) (L' := [(0, .inr (.inl 86))]) (st' := [.inr (.inl 86)]) (m' := m) ((0, .aload_n 0, 1, 0, 0, 0, 0), (0, 0, 0)) [] (by decide +kernel) rfl ?_
  refine hx_call (E := (1, .invokevirtual 138, 3, 170, 0, 6054, 0)) (M' := yp_m170) [.inr (.inl 86)] [] rfl (by decide +kernel) rfl ⟨rfl, rfl⟩ rfl rfl (hs170 ?_)
  show hxn xs n yp_m184 4 [(0, .inr (.inl 86))] [.inl (aHere m)] m Q
  refine hx_blk (npc := 6) (L' := [(0, .inr (.inl 86))]) (st' := [.inl 40, .inl (aHere m)]) (m' := m) [((4, .bipush 40, 2, 0, 0, 0, 0), (0, 0, 0))] (by decide +kernel) rfl ?_
  refine hx_cmp .eq 19 (by decide +kernel) (fun c1 => ?_) (fun c1 => ?_)
  · have c1 : (aHere m) = 40 := c1
    refine hx_blk (npc := 32) (L' := [(0, .inr (.inl 86))]) (st' := [.inl 13, .inr (.inl 86)]) (m' := (gx_u (gx_u m 86 9 0) 86 11 0)) [((19, .aload_n 0, 1, 0, 0, 0, 0), (0, 0, 0)), ((20, .iconst 0, 1, 0, 0, 0, 0), (0, 0, 0)), ((21, .putfield 159, 3, 10, 9, 5122, 0), (0, 86, 0)), ((24, .aload_n 0, 1, 0, 0, 0, 0), (0, 0, 0)), ((25, .iconst 0, 1, 0, 0, 0, 0), (0, 0, 0)), ((26, .putfield 162, 3, 10, 11, 5124, 0), (0, 86, 0)), ((29, .aload_n 0, 1, 0, 0, 0, 0), (0, 0, 0)), ((30, .bipush 13, 2, 0, 0, 0, 0), (0, 0, 0))] (by decide +kernel) rfl ?_
    exact hx_call (E := (32, .invokevirtual 172, 3, 175, 0, 6073, 0)) (M' := yp_m175) [.inr (.inl 86), .inl 13] [] rfl (by decide +kernel) rfl ⟨rfl, rfl⟩ rfl rfl (hx_mono (h1 c1) (fun r m' h' => hx_pick [0] h'))
  · have c1 : (aHere m) ≠ 40 := c1
    refine hx_blk (npc := 15) (L' := [(0, .inr (.inl 86))]) (st' := [.inl (m 86 5), .inl 1, .inr (.inl 86)]) (m' := m) [((9, .aload_n 0, 1, 0, 0, 0, 0), (0, 0, 0)), ((10, .iconst 1, 1, 0, 0, 0, 0), (0, 0, 0)), ((11, .aload_n 0, 1, 0, 0, 0, 0), (0, 0, 0)), ((12, .getfield 132, 3, 10, 5, 5118, 0), (0, 86, 0))] (by decide +kernel) rfl ?_
    exact hx_call (E := (15, .invokevirtual 145, 3, 172, 0, 6061, 0)) (M' := yp_m172) [.inr (.inl 86), .inl 1, .inl (m 86 5)] [] rfl (by decide +kernel) rfl ⟨rfl, rfl⟩ rfl rfl (hx_mono (h2 c1) (fun r m' h' => hx_pick [] h'))

/-- readsCondition from 18 on -/
theorem hr184_18 {xs : List Int32} {n : Nat} {Q : hQ} {m : gx_M} {s0 : Int}
    (h1 : Q (some (.inl s0)) m) : hxn xs (n + 1) yp_m184 18 [] [.inl s0] m Q := by
  exact hx_reti (by decide +kernel) h1

/-- readsCondition from 35 on -/
theorem hr184_35 {xs : List Int32} {n : Nat} {Q : hQ} {m : gx_M} {s0 : Int}
    (h1 : (s0 ≠ 0) → hxn xs n yp_m184 40 [(0, .inr (.inl 86))] [] m Q)
    (h2 : (s0 = 0) → Q (some (.inl 0)) m) : hxn xs (n + 1) yp_m184 35 [(0, .inr (.inl 86))] [.inl s0] m Q := by
  refine hx_ifs .ne 40 (by decide +kernel) (fun c1 => ?_) (fun c1 => ?_)
  · have c1 : s0 ≠ 0 := c1
    exact hx_pick [0] (h1 c1)
  · have c1 : s0 = 0 := by have h : ¬ (s0 ≠ 0) := c1; omega
    refine hx_blk (npc := 39) (L' := [(0, .inr (.inl 86))]) (st' := [.inl 0]) (m' := m) [((38, .iconst 0, 1, 0, 0, 0, 0), (0, 0, 0))] (by decide +kernel) rfl ?_
    exact hx_reti (by decide +kernel) (h2 c1)

/-- readsCondition from 40 on -/
theorem hr184_40 {xs : List Int32} {n : Nat} {Q : hQ} {m : gx_M}
    (h1 : ((aHere m) = 33) → ((aHere m) = 33) → hxn xs n yp_m175 0 [(0, .inr (.inl 86)), (1, .inl 10)] [] m (fun r m' => hxn xs n yp_m184 78 [(0, .inr (.inl 86))] (hrs r ++ []) m' Q))
    (h2 : ((aHere m) ≠ 33) → ((aHere m) ≠ 40) → hxn xs n yp_m185 0 [(0, .inr (.inl 86))] [] m (fun r m' => hxn xs n yp_m184 87 [(0, .inr (.inl 86))] (hrs r ++ []) m' Q))
    (h3 : ((aHere m) ≠ 33) → ((aHere m) = 40) → ((aHere m) ≠ 33) → hxn xs n yp_m175 0 [(0, .inr (.inl 86)), (1, .inl 13)] [] m (fun r m' => hxn xs n yp_m184 78 [(0, .inr (.inl 86))] (hrs r ++ []) m' Q)) : hxn xs (n + 1) yp_m184 40 [(0, .inr (.inl 86))] [] m Q := by
  refine hx_blks (npc := 41) (L' := [(0, .inr (.inl 86))]) (st' := [.inr (.inl 86)]) (m' := m) ((40, .aload_n 0, 1, 0, 0, 0, 0), (0, 0, 0)) [] (by decide +kernel) rfl ?_
  refine hx_call (E := (41, .invokevirtual 138, 3, 170, 0, 6054, 0)) (M' := yp_m170) [.inr (.inl 86)] [] rfl (by decide +kernel) rfl ⟨rfl, rfl⟩ rfl rfl (hs170 ?_)
  show hxn xs n yp_m184 44 [(0, .inr (.inl 86))] [.inl (aHere m)] m Q
  refine hx_blk (npc := 46) (L' := [(0, .inr (.inl 86))]) (st' := [.inl 33, .inl (aHere m)]) (m' := m) [((44, .bipush 33, 2, 0, 0, 0, 0), (0, 0, 0))] (by decide +kernel) rfl ?_
  refine hx_cmp .eq 58 (by decide +kernel) (fun c1 => ?_) (fun c1 => ?_)
  · have c1 : (aHere m) = 33 := c1
    refine hx_blk (npc := 60) (L' := [(0, .inr (.inl 86))]) (st' := [.inr (.inl 86), .inr (.inl 86)]) (m' := m) [((58, .aload_n 0, 1, 0, 0, 0, 0), (0, 0, 0)), ((59, .aload_n 0, 1, 0, 0, 0, 0), (0, 0, 0))] (by decide +kernel) rfl ?_
    refine hx_call (E := (60, .invokevirtual 138, 3, 170, 0, 6054, 0)) (M' := yp_m170) [.inr (.inl 86)] [.inr (.inl 86)] rfl (by decide +kernel) rfl ⟨rfl, rfl⟩ rfl rfl (hs170 ?_)
    show hxn xs n yp_m184 63 [(0, .inr (.inl 86))] [.inl (aHere m), .inr (.inl 86)] m Q
    refine hx_blk (npc := 65) (L' := [(0, .inr (.inl 86))]) (st' := [.inl 33, .inl (aHere m), .inr (.inl 86)]) (m' := m) [((63, .bipush 33, 2, 0, 0, 0, 0), (0, 0, 0))] (by decide +kernel) rfl ?_
    refine hx_cmp .ne 73 (by decide +kernel) (fun c2 => ?_) (fun c2 => ?_)
    · have c2 : (aHere m) ≠ 33 := c2
      exfalso; omega
    · have c2 : (aHere m) = 33 := by have h : ¬ ((aHere m) ≠ 33) := c2; omega
      refine hx_blk (npc := 75) (L' := [(0, .inr (.inl 86))]) (st' := [.inl 10, .inr (.inl 86)]) (m' := m) [((68, .bipush 10, 2, 0, 0, 0, 0), (0, 0, 0)), ((70, .goto 5, 3, 0, 0, 0, 0), (0, 0, 0))] (by decide +kernel) rfl ?_
      exact hx_call (E := (75, .invokevirtual 172, 3, 175, 0, 6073, 0)) (M' := yp_m175) [.inr (.inl 86), .inl 10] [] rfl (by decide +kernel) rfl ⟨rfl, rfl⟩ rfl rfl (hx_mono (h1 c1 c2) (fun r m' h' => hx_pick [0] h'))
  · have c1 : (aHere m) ≠ 33 := c1
    refine hx_blk (npc := 50) (L' := [(0, .inr (.inl 86))]) (st' := [.inr (.inl 86)]) (m' := m) [((49, .aload_n 0, 1, 0, 0, 0, 0), (0, 0, 0))] (by decide +kernel) rfl ?_
    refine hx_call (E := (50, .invokevirtual 138, 3, 170, 0, 6054, 0)) (M' := yp_m170) [.inr (.inl 86)] [] rfl (by decide +kernel) rfl ⟨rfl, rfl⟩ rfl rfl (hs170 ?_)
    show hxn xs n yp_m184 53 [(0, .inr (.inl 86))] [.inl (aHere m)] m Q
    refine hx_blk (npc := 55) (L' := [(0, .inr (.inl 86))]) (st' := [.inl 40, .inl (aHere m)]) (m' := m) [((53, .bipush 40, 2, 0, 0, 0, 0), (0, 0, 0))] (by decide +kernel) rfl ?_
    refine hx_cmp .ne 83 (by decide +kernel) (fun c2 => ?_) (fun c2 => ?_)
    · have c2 : (aHere m) ≠ 40 := c2
      refine hx_blk (npc := 84) (L' := [(0, .inr (.inl 86))]) (st' := [.inr (.inl 86)]) (m' := m) [((83, .aload_n 0, 1, 0, 0, 0, 0), (0, 0, 0))] (by decide +kernel) rfl ?_
      exact hx_call (E := (84, .invokevirtual 201, 3, 185, 0, 6112, 0)) (M' := yp_m185) [.inr (.inl 86)] [] rfl (by decide +kernel) rfl ⟨rfl, rfl⟩ rfl rfl (hx_mono (h2 c1 c2) (fun r m' h' => hx_pick [0] h'))
    · have c2 : (aHere m) = 40 := by have h : ¬ ((aHere m) ≠ 40) := c2; omega
      refine hx_blk (npc := 60) (L' := [(0, .inr (.inl 86))]) (st' := [.inr (.inl 86), .inr (.inl 86)]) (m' := m) [((58, .aload_n 0, 1, 0, 0, 0, 0), (0, 0, 0)), ((59, .aload_n 0, 1, 0, 0, 0, 0), (0, 0, 0))] (by decide +kernel) rfl ?_
      refine hx_call (E := (60, .invokevirtual 138, 3, 170, 0, 6054, 0)) (M' := yp_m170) [.inr (.inl 86)] [.inr (.inl 86)] rfl (by decide +kernel) rfl ⟨rfl, rfl⟩ rfl rfl (hs170 ?_)
      show hxn xs n yp_m184 63 [(0, .inr (.inl 86))] [.inl (aHere m), .inr (.inl 86)] m Q
      refine hx_blk (npc := 65) (L' := [(0, .inr (.inl 86))]) (st' := [.inl 33, .inl (aHere m), .inr (.inl 86)]) (m' := m) [((63, .bipush 33, 2, 0, 0, 0, 0), (0, 0, 0))] (by decide +kernel) rfl ?_
      refine hx_cmp .ne 73 (by decide +kernel) (fun c3 => ?_) (fun c3 => ?_)
      · have c3 : (aHere m) ≠ 33 := c3
        refine hx_blk (npc := 75) (L' := [(0, .inr (.inl 86))]) (st' := [.inl 13, .inr (.inl 86)]) (m' := m) [((73, .bipush 13, 2, 0, 0, 0, 0), (0, 0, 0))] (by decide +kernel) rfl ?_
        exact hx_call (E := (75, .invokevirtual 172, 3, 175, 0, 6073, 0)) (M' := yp_m175) [.inr (.inl 86), .inl 13] [] rfl (by decide +kernel) rfl ⟨rfl, rfl⟩ rfl rfl (hx_mono (h3 c1 c2 c3) (fun r m' h' => hx_pick [0] h'))
      · have c3 : (aHere m) = 33 := by have h : ¬ ((aHere m) ≠ 33) := c3; omega
        exfalso; omega

/-- readsCondition from 78 on -/
theorem hr184_78 {xs : List Int32} {n : Nat} {Q : hQ} {m : gx_M} {s0 : Int}
    (h1 : (s0 ≠ 0) → hxn xs n yp_m184 40 [(0, .inr (.inl 86))] [] m Q)
    (h2 : (s0 = 0) → Q (some (.inl 0)) m) : hxn xs (n + 1) yp_m184 78 [(0, .inr (.inl 86))] [.inl s0] m Q := by
  refine hx_ifs .ne 40 (by decide +kernel) (fun c1 => ?_) (fun c1 => ?_)
  · have c1 : s0 ≠ 0 := c1
    exact hx_pick [0] (h1 c1)
  · have c1 : s0 = 0 := by have h : ¬ (s0 ≠ 0) := c1; omega
    refine hx_blk (npc := 82) (L' := [(0, .inr (.inl 86))]) (st' := [.inl 0]) (m' := m) [((81, .iconst 0, 1, 0, 0, 0, 0), (0, 0, 0))] (by decide +kernel) rfl ?_
    exact hx_reti (by decide +kernel) (h2 c1)

/-- readsCondition from 87 on -/
theorem hr184_87 {xs : List Int32} {n : Nat} {Q : hQ} {m : gx_M} {s0 : Int}
    (h1 : (s0 ≠ 0) → hxn xs n yp_m184 92 [(0, .inr (.inl 86))] [] m Q)
    (h2 : (s0 = 0) → Q (some (.inl 0)) m) : hxn xs (n + 1) yp_m184 87 [(0, .inr (.inl 86))] [.inl s0] m Q := by
  refine hx_ifs .ne 92 (by decide +kernel) (fun c1 => ?_) (fun c1 => ?_)
  · have c1 : s0 ≠ 0 := c1
    exact hx_pick [0] (h1 c1)
  · have c1 : s0 = 0 := by have h : ¬ (s0 ≠ 0) := c1; omega
    refine hx_blk (npc := 91) (L' := [(0, .inr (.inl 86))]) (st' := [.inl 0]) (m' := m) [((90, .iconst 0, 1, 0, 0, 0, 0), (0, 0, 0))] (by decide +kernel) rfl ?_
    exact hx_reti (by decide +kernel) (h2 c1)

/-- readsCondition from 92 on -/
theorem hr184_92 {xs : List Int32} {n : Nat} {Q : hQ} {m : gx_M}
    (h1 : ((aHere m) ≠ 41) → ((aHere m) = 38) → ((aHere m) ≠ 124) → hxn xs n yp_m187 0 [(0, .inr (.inl 86)), (1, .inl 0)] [] m (fun r m' => hxn xs n yp_m184 198 [(0, .inr (.inl 86))] (hrs r ++ []) m' Q))
    (h2 : ((aHere m) ≠ 41) → ((aHere m) ≠ 38) → ((aHere m) = 124) → ((aHere m) = 124) → hxn xs n yp_m187 0 [(0, .inr (.inl 86)), (1, .inl 1)] [] m (fun r m' => hxn xs n yp_m184 198 [(0, .inr (.inl 86))] (hrs r ++ []) m' Q))
    (h3 : ((aHere m) ≠ 41) → ((aHere m) ≠ 38) → ((aHere m) ≠ 124) → hxn xs n yp_m172 0 [(0, .inr (.inl 86)), (1, .inl 1), (2, .inl (m 86 5))] [] m (fun r m' => hxn xs n yp_m184 179 [] (hrs r ++ []) m' Q))
    (h4 : ((aHere m) = 41) → hxn xs n yp_m187 0 [(0, .inr (.inl 86)), (1, .inl 1)] [] m (fun r m' => hxn xs n yp_m184 106 [(0, .inr (.inl 86))] (hrs r ++ []) m' Q)) : hxn xs (n + 1) yp_m184 92 [(0, .inr (.inl 86))] [] m Q := by
  refine hx_blks (npc := 93) (L' := [(0, .inr (.inl 86))]) (st' := [.inr (.inl 86)]) (m' := m) ((92, .aload_n 0, 1, 0, 0, 0, 0), (0, 0, 0)) [] (by decide +kernel) rfl ?_
  refine hx_call (E := (93, .invokevirtual 138, 3, 170, 0, 6054, 0)) (M' := yp_m170) [.inr (.inl 86)] [] rfl (by decide +kernel) rfl ⟨rfl, rfl⟩ rfl rfl (hs170 ?_)
  show hxn xs n yp_m184 96 [(0, .inr (.inl 86))] [.inl (aHere m)] m Q
  refine hx_blk (npc := 98) (L' := [(0, .inr (.inl 86))]) (st' := [.inl 41, .inl (aHere m)]) (m' := m) [((96, .bipush 41, 2, 0, 0, 0, 0), (0, 0, 0))] (by decide +kernel) rfl ?_
  refine hx_cmp .ne 152 (by decide +kernel) (fun c1 => ?_) (fun c1 => ?_)
  · have c1 : (aHere m) ≠ 41 := c1
    refine hx_blk (npc := 153) (L' := [(0, .inr (.inl 86))]) (st' := [.inr (.inl 86)]) (m' := m) [((152, .aload_n 0, 1, 0, 0, 0, 0), (0, 0, 0))] (by decide +kernel) rfl ?_
    refine hx_call (E := (153, .invokevirtual 138, 3, 170, 0, 6054, 0)) (M' := yp_m170) [.inr (.inl 86)] [] rfl (by decide +kernel) rfl ⟨rfl, rfl⟩ rfl rfl (hs170 ?_)
    show hxn xs n yp_m184 156 [(0, .inr (.inl 86))] [.inl (aHere m)] m Q
    refine hx_blk (npc := 158) (L' := [(0, .inr (.inl 86))]) (st' := [.inl 38, .inl (aHere m)]) (m' := m) [((156, .bipush 38, 2, 0, 0, 0, 0), (0, 0, 0))] (by decide +kernel) rfl ?_
    refine hx_cmp .eq 180 (by decide +kernel) (fun c2 => ?_) (fun c2 => ?_)
    · have c2 : (aHere m) = 38 := c2
      refine hx_blk (npc := 182) (L' := [(0, .inr (.inl 86))]) (st' := [.inr (.inl 86), .inr (.inl 86)]) (m' := m) [((180, .aload_n 0, 1, 0, 0, 0, 0), (0, 0, 0)), ((181, .aload_n 0, 1, 0, 0, 0, 0), (0, 0, 0))] (by decide +kernel) rfl ?_
      refine hx_call (E := (182, .invokevirtual 138, 3, 170, 0, 6054, 0)) (M' := yp_m170) [.inr (.inl 86)] [.inr (.inl 86)] rfl (by decide +kernel) rfl ⟨rfl, rfl⟩ rfl rfl (hs170 ?_)
      show hxn xs n yp_m184 185 [(0, .inr (.inl 86))] [.inl (aHere m), .inr (.inl 86)] m Q
      refine hx_blk (npc := 187) (L' := [(0, .inr (.inl 86))]) (st' := [.inl 124, .inl (aHere m), .inr (.inl 86)]) (m' := m) [((185, .bipush 124, 2, 0, 0, 0, 0), (0, 0, 0))] (by decide +kernel) rfl ?_
      refine hx_cmp .ne 194 (by decide +kernel) (fun c3 => ?_) (fun c3 => ?_)
      · have c3 : (aHere m) ≠ 124 := c3
        refine hx_blk (npc := 195) (L' := [(0, .inr (.inl 86))]) (st' := [.inl 0, .inr (.inl 86)]) (m' := m) [((194, .iconst 0, 1, 0, 0, 0, 0), (0, 0, 0))] (by decide +kernel) rfl ?_
        exact hx_call (E := (195, .invokevirtual 204, 3, 187, 0, 6120, 0)) (M' := yp_m187) [.inr (.inl 86), .inl 0] [] rfl (by decide +kernel) rfl ⟨rfl, rfl⟩ rfl rfl (hx_mono (h1 c1 c2 c3) (fun r m' h' => hx_pick [0] h'))
      · have c3 : (aHere m) = 124 := by have h : ¬ ((aHere m) ≠ 124) := c3; omega
        exfalso; omega
    · have c2 : (aHere m) ≠ 38 := c2
      refine hx_blk (npc := 162) (L' := [(0, .inr (.inl 86))]) (st' := [.inr (.inl 86)]) (m' := m) [((161, .aload_n 0, 1, 0, 0, 0, 0), (0, 0, 0))] (by decide +kernel) rfl ?_
      refine hx_call (E := (162, .invokevirtual 138, 3, 170, 0, 6054, 0)) (M' := yp_m170) [.inr (.inl 86)] [] rfl (by decide +kernel) rfl ⟨rfl, rfl⟩ rfl rfl (hs170 ?_)
      show hxn xs n yp_m184 165 [(0, .inr (.inl 86))] [.inl (aHere m)] m Q
      refine hx_blk (npc := 167) (L' := [(0, .inr (.inl 86))]) (st' := [.inl 124, .inl (aHere m)]) (m' := m) [((165, .bipush 124, 2, 0, 0, 0, 0), (0, 0, 0))] (by decide +kernel) rfl ?_
      refine hx_cmp .eq 180 (by decide +kernel) (fun c3 => ?_) (fun c3 => ?_)
      · have c3 : (aHere m) = 124 := c3
        refine hx_blk (npc := 182) (L' := [(0, .inr (.inl 86))]) (st' := [.inr (.inl 86), .inr (.inl 86)]) (m' := m) [((180, .aload_n 0, 1, 0, 0, 0, 0), (0, 0, 0)), ((181, .aload_n 0, 1, 0, 0, 0, 0), (0, 0, 0))] (by decide +kernel) rfl ?_
        refine hx_call (E := (182, .invokevirtual 138, 3, 170, 0, 6054, 0)) (M' := yp_m170) [.inr (.inl 86)] [.inr (.inl 86)] rfl (by decide +kernel) rfl ⟨rfl, rfl⟩ rfl rfl (hs170 ?_)
        show hxn xs n yp_m184 185 [(0, .inr (.inl 86))] [.inl (aHere m), .inr (.inl 86)] m Q
        refine hx_blk (npc := 187) (L' := [(0, .inr (.inl 86))]) (st' := [.inl 124, .inl (aHere m), .inr (.inl 86)]) (m' := m) [((185, .bipush 124, 2, 0, 0, 0, 0), (0, 0, 0))] (by decide +kernel) rfl ?_
        refine hx_cmp .ne 194 (by decide +kernel) (fun c4 => ?_) (fun c4 => ?_)
        · have c4 : (aHere m) ≠ 124 := c4
          exfalso; omega
        · have c4 : (aHere m) = 124 := by have h : ¬ ((aHere m) ≠ 124) := c4; omega
          refine hx_blk (npc := 195) (L' := [(0, .inr (.inl 86))]) (st' := [.inl 1, .inr (.inl 86)]) (m' := m) [((190, .iconst 1, 1, 0, 0, 0, 0), (0, 0, 0)), ((191, .goto 4, 3, 0, 0, 0, 0), (0, 0, 0))] (by decide +kernel) rfl ?_
          exact hx_call (E := (195, .invokevirtual 204, 3, 187, 0, 6120, 0)) (M' := yp_m187) [.inr (.inl 86), .inl 1] [] rfl (by decide +kernel) rfl ⟨rfl, rfl⟩ rfl rfl (hx_mono (h2 c1 c2 c3 c4) (fun r m' h' => hx_pick [0] h'))
      · have c3 : (aHere m) ≠ 124 := c3
        refine hx_blk (npc := 176) (L' := [(0, .inr (.inl 86))]) (st' := [.inl (m 86 5), .inl 1, .inr (.inl 86)]) (m' := m) [((170, .aload_n 0, 1, 0, 0, 0, 0), (0, 0, 0)), ((171, .iconst 1, 1, 0, 0, 0, 0), (0, 0, 0)), ((172, .aload_n 0, 1, 0, 0, 0, 0), (0, 0, 0)), ((173, .getfield 132, 3, 10, 5, 5118, 0), (0, 86, 0))] (by decide +kernel) rfl ?_
        exact hx_call (E := (176, .invokevirtual 145, 3, 172, 0, 6061, 0)) (M' := yp_m172) [.inr (.inl 86), .inl 1, .inl (m 86 5)] [] rfl (by decide +kernel) rfl ⟨rfl, rfl⟩ rfl rfl (hx_mono (h3 c1 c2 c3) (fun r m' h' => hx_pick [] h'))
  · have c1 : (aHere m) = 41 := by have h : ¬ ((aHere m) ≠ 41) := c1; omega
    refine hx_blk (npc := 103) (L' := [(0, .inr (.inl 86))]) (st' := [.inl 1, .inr (.inl 86)]) (m' := m) [((101, .aload_n 0, 1, 0, 0, 0, 0), (0, 0, 0)), ((102, .iconst 1, 1, 0, 0, 0, 0), (0, 0, 0))] (by decide +kernel) rfl ?_
    exact hx_call (E := (103, .invokevirtual 204, 3, 187, 0, 6120, 0)) (M' := yp_m187) [.inr (.inl 86), .inl 1] [] rfl (by decide +kernel) rfl ⟨rfl, rfl⟩ rfl rfl (hx_mono (h4 c1) (fun r m' h' => hx_pick [0] h'))

/-- readsCondition from 106 on -/
theorem hr184_106 {xs : List Int32} {n : Nat} {Q : hQ} {m : gx_M}
    (h1 : ((gx_w ((m 86 11) - 1)) ≠ 0) → hxn xs n yp_m186 0 [(0, .inr (.inl 86))] [] (gx_u (gx_u (gx_u m 86 11 (gx_w ((m 86 11) - 1))) 86 9 (gx_w ((m 86 9) - 1))) 86 5 (gx_w ((m 86 5) + 1))) (fun r m' => hxn xs n yp_m184 149 [(0, .inr (.inl 86))] (hrs r ++ []) m' Q))
    (h2 : ((gx_w ((m 86 11) - 1)) = 0) → Q (some (.inl 1)) (gx_u (gx_u (gx_u m 86 11 (gx_w ((m 86 11) - 1))) 86 9 (gx_w ((m 86 9) - 1))) 86 5 (gx_w ((m 86 5) + 1)))) : hxn xs (n + 1) yp_m184 106 [(0, .inr (.inl 86))] [] m Q := by
  refine hx_blks (npc := 140) (L' := [(0, .inr (.inl 86))]) (st' := [.inl (gx_w ((m 86 11) - 1))]) (m' := (gx_u (gx_u (gx_u m 86 11 (gx_w ((m 86 11) - 1))) 86 9 (gx_w ((m 86 9) - 1))) 86 5 (gx_w ((m 86 5) + 1)))) ((106, .aload_n 0, 1, 0, 0, 0, 0), (0, 0, 0)) [((107, .aload_n 0, 1, 0, 0, 0, 0), (0, 0, 0)), ((108, .getfield 162, 3, 10, 11, 5124, 0), (0, 86, 0)), ((111, .iconst 1, 1, 0, 0, 0, 0), (0, 0, 0)), ((112, .isub, 1, 0, 0, 0, 0), (0, 0, 0)), ((113, .putfield 162, 3, 10, 11, 5124, 0), (0, 86, 0)), ((116, .aload_n 0, 1, 0, 0, 0, 0), (0, 0, 0)), ((117, .aload_n 0, 1, 0, 0, 0, 0), (0, 0, 0)), ((118, .getfield 159, 3, 10, 9, 5122, 0), (0, 86, 0)), ((121, .iconst 1, 1, 0, 0, 0, 0), (0, 0, 0)), ((122, .isub, 1, 0, 0, 0, 0), (0, 0, 0)), ((123, .putfield 159, 3, 10, 9, 5122, 0), (0, 86, 0)), ((126, .aload_n 0, 1, 0, 0, 0, 0), (0, 0, 0)), ((127, .aload_n 0, 1, 0, 0, 0, 0), (0, 0, 0)), ((128, .getfield 132, 3, 10, 5, 5118, 0), (0, 86, 0)), ((131, .iconst 1, 1, 0, 0, 0, 0), (0, 0, 0)), ((132, .iadd, 1, 0, 0, 0, 0), (0, 0, 0)), ((133, .putfield 132, 3, 10, 5, 5118, 0), (0, 86, 0)), ((136, .aload_n 0, 1, 0, 0, 0, 0), (0, 0, 0)), ((137, .getfield 162, 3, 10, 11, 5124, 0), (0, 86, 0))] (by decide +kernel) rfl ?_
  refine hx_if .ne 145 (by decide +kernel) (fun c1 => ?_) (fun c1 => ?_)
  · have c1 : (gx_w ((m 86 11) - 1)) ≠ 0 := c1
    refine hx_blk (npc := 146) (L' := [(0, .inr (.inl 86))]) (st' := [.inr (.inl 86)]) (m' := (gx_u (gx_u (gx_u m 86 11 (gx_w ((m 86 11) - 1))) 86 9 (gx_w ((m 86 9) - 1))) 86 5 (gx_w ((m 86 5) + 1)))) [((145, .aload_n 0, 1, 0, 0, 0, 0), (0, 0, 0))] (by decide +kernel) rfl ?_
    exact hx_call (E := (146, .invokevirtual 198, 3, 186, 0, 6116, 0)) (M' := yp_m186) [.inr (.inl 86)] [] rfl (by decide +kernel) rfl ⟨rfl, rfl⟩ rfl rfl (hx_mono (h1 c1) (fun r m' h' => hx_pick [0] h'))
  · have c1 : (gx_w ((m 86 11) - 1)) = 0 := by have h : ¬ ((gx_w ((m 86 11) - 1)) ≠ 0) := c1; omega
    refine hx_blk (npc := 144) (L' := [(0, .inr (.inl 86))]) (st' := [.inl 1]) (m' := (gx_u (gx_u (gx_u m 86 11 (gx_w ((m 86 11) - 1))) 86 9 (gx_w ((m 86 9) - 1))) 86 5 (gx_w ((m 86 5) + 1)))) [((143, .iconst 1, 1, 0, 0, 0, 0), (0, 0, 0))] (by decide +kernel) rfl ?_
    exact hx_reti (by decide +kernel) (h2 c1)

/-- readsCondition from 149 on -/
theorem hr184_149 {xs : List Int32} {n : Nat} {Q : hQ} {m : gx_M}
    (h1 : hxn xs n yp_m184 92 [(0, .inr (.inl 86))] [] m Q) : hxn xs (n + 1) yp_m184 149 [(0, .inr (.inl 86))] [] m Q := by
  refine hx_blks (npc := 92) (L' := [(0, .inr (.inl 86))]) (st' := []) (m' := m) ((149, .goto (-57), 3, 0, 0, 0, 0), (0, 0, 0)) [] (by decide +kernel) rfl ?_
  exact hx_pick [0] h1

/-- readsCondition from 179 on -/
theorem hr184_179 {xs : List Int32} {n : Nat} {Q : hQ} {m : gx_M} {s0 : Int}
    (h1 : Q (some (.inl s0)) m) : hxn xs (n + 1) yp_m184 179 [] [.inl s0] m Q := by
  exact hx_reti (by decide +kernel) h1

/-- readsCondition from 198 on -/
theorem hr184_198 {xs : List Int32} {n : Nat} {Q : hQ} {m : gx_M}
    (h1 : ((aHere m) ≠ 38) → hxn xs n yp_m188 0 [(0, .inr (.inl 86)), (1, .inl 12)] [] m (fun r m' => hxn xs n yp_m184 218 [(0, .inr (.inl 86))] (hrs r ++ []) m' Q))
    (h2 : ((aHere m) = 38) → hxn xs n yp_m188 0 [(0, .inr (.inl 86)), (1, .inl 11)] [] m (fun r m' => hxn xs n yp_m184 218 [(0, .inr (.inl 86))] (hrs r ++ []) m' Q)) : hxn xs (n + 1) yp_m184 198 [(0, .inr (.inl 86))] [] m Q := by
  refine hx_blks (npc := 200) (L' := [(0, .inr (.inl 86))]) (st' := [.inr (.inl 86), .inr (.inl 86)]) (m' := m) ((198, .aload_n 0, 1, 0, 0, 0, 0), (0, 0, 0)) [((199, .aload_n 0, 1, 0, 0, 0, 0), (0, 0, 0))] (by decide +kernel) rfl ?_
  refine hx_call (E := (200, .invokevirtual 138, 3, 170, 0, 6054, 0)) (M' := yp_m170) [.inr (.inl 86)] [.inr (.inl 86)] rfl (by decide +kernel) rfl ⟨rfl, rfl⟩ rfl rfl (hs170 ?_)
  show hxn xs n yp_m184 203 [(0, .inr (.inl 86))] [.inl (aHere m), .inr (.inl 86)] m Q
  refine hx_blk (npc := 205) (L' := [(0, .inr (.inl 86))]) (st' := [.inl 38, .inl (aHere m), .inr (.inl 86)]) (m' := m) [((203, .bipush 38, 2, 0, 0, 0, 0), (0, 0, 0))] (by decide +kernel) rfl ?_
  refine hx_cmp .ne 213 (by decide +kernel) (fun c1 => ?_) (fun c1 => ?_)
  · have c1 : (aHere m) ≠ 38 := c1
    refine hx_blk (npc := 215) (L' := [(0, .inr (.inl 86))]) (st' := [.inl 12, .inr (.inl 86)]) (m' := m) [((213, .bipush 12, 2, 0, 0, 0, 0), (0, 0, 0))] (by decide +kernel) rfl ?_
    exact hx_call (E := (215, .invokevirtual 207, 3, 188, 0, 6124, 0)) (M' := yp_m188) [.inr (.inl 86), .inl 12] [] rfl (by decide +kernel) rfl ⟨rfl, rfl⟩ rfl rfl (hx_mono (h1 c1) (fun r m' h' => hx_pick [0] h'))
  · have c1 : (aHere m) = 38 := by have h : ¬ ((aHere m) ≠ 38) := c1; omega
    refine hx_blk (npc := 215) (L' := [(0, .inr (.inl 86))]) (st' := [.inl 11, .inr (.inl 86)]) (m' := m) [((208, .bipush 11, 2, 0, 0, 0, 0), (0, 0, 0)), ((210, .goto 5, 3, 0, 0, 0, 0), (0, 0, 0))] (by decide +kernel) rfl ?_
    exact hx_call (E := (215, .invokevirtual 207, 3, 188, 0, 6124, 0)) (M' := yp_m188) [.inr (.inl 86), .inl 11] [] rfl (by decide +kernel) rfl ⟨rfl, rfl⟩ rfl rfl (hx_mono (h2 c1) (fun r m' h' => hx_pick [0] h'))

/-- readsCondition from 218 on -/
theorem hr184_218 {xs : List Int32} {n : Nat} {Q : hQ} {m : gx_M}
    (h1 : hxn xs n yp_m184 40 [(0, .inr (.inl 86))] [] m Q) : hxn xs (n + 1) yp_m184 218 [(0, .inr (.inl 86))] [] m Q := by
  refine hx_blks (npc := 40) (L' := [(0, .inr (.inl 86))]) (st' := []) (m' := m) ((218, .goto (-178), 3, 0, 0, 0, 0), (0, 0, 0)) [] (by decide +kernel) rfl ?_
  exact hx_pick [0] h1

