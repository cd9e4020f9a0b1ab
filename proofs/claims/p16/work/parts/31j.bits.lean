/-! how many bits a number has, by the library -/
/-- bitCount from 0 on -/
theorem hr63_0 {xs : List Int32} {n : Nat} {Q : hQ} {m : gx_M} {x0 : Int}
    (h1 : hxn xs n yp_m63 10 [(0, .inl (gx_w (x0 - (gx_and (hushr x0 1) 1431655765))))] [] m Q) : hxn xs (n + 1) yp_m63 0 [(0, .inl x0)] [] m Q := by
  have f1 := gx_and_bd (hushr x0 1) 1431655765 (by decide)
  refine hx_blks (npc := 10) (L' := [(0, .inl (gx_w (x0 - (gx_and (hushr x0 1) 1431655765))))]) (st' := []) (m' := m) ((0, .iload_n 0, 1, 0, 0, 0, 0), (0, 0, 0)) [((1, .iload_n 0, 1, 0, 0, 0, 0), (0, 0, 0)), ((2, .iconst 1, 1, 0, 0, 0, 0), (0, 0, 0)), ((3, .iushr, 1, 0, 0, 0, 0), (0, 0, 0)), ((4, .ldc_w 265, 3, 0, 0, 3157, 1431655765), (0, 0, 0)), ((7, .iand, 1, 0, 0, 0, 0), (0, 0, 0)), ((8, .isub, 1, 0, 0, 0, 0), (0, 0, 0)), ((9, .istore_n 0, 1, 0, 0, 0, 0), (0, 0, 0))] (by decide +kernel) rfl ?_
  exact hx_pick [0] h1

/-- bitCount from 10 on -/
theorem hr63_10 {xs : List Int32} {n : Nat} {Q : hQ} {m : gx_M} {x0 : Int}
    (h1 : hxn xs n yp_m63 24 [(0, .inl ((gx_and x0 858993459) + (gx_and (hushr x0 2) 858993459)))] [] m Q) : hxn xs (n + 1) yp_m63 10 [(0, .inl x0)] [] m Q := by
  have f1 := gx_and_bd x0 858993459 (by decide)
  have f2 := gx_and_bd (hushr x0 2) 858993459 (by decide)
  have e3 : gx_w ((gx_and x0 858993459) + (gx_and (hushr x0 2) 858993459)) = (gx_and x0 858993459) + (gx_and (hushr x0 2) 858993459) := gx_w_id (by omega) (by omega)
  refine hx_blks (npc := 24) (L' := [(0, .inl (gx_w ((gx_and x0 858993459) + (gx_and (hushr x0 2) 858993459))))]) (st' := []) (m' := m) ((10, .iload_n 0, 1, 0, 0, 0, 0), (0, 0, 0)) [((11, .ldc_w 266, 3, 0, 0, 3158, 858993459), (0, 0, 0)), ((14, .iand, 1, 0, 0, 0, 0), (0, 0, 0)), ((15, .iload_n 0, 1, 0, 0, 0, 0), (0, 0, 0)), ((16, .iconst 2, 1, 0, 0, 0, 0), (0, 0, 0)), ((17, .iushr, 1, 0, 0, 0, 0), (0, 0, 0)), ((18, .ldc_w 266, 3, 0, 0, 3158, 858993459), (0, 0, 0)), ((21, .iand, 1, 0, 0, 0, 0), (0, 0, 0)), ((22, .iadd, 1, 0, 0, 0, 0), (0, 0, 0)), ((23, .istore_n 0, 1, 0, 0, 0, 0), (0, 0, 0))] (by decide +kernel) rfl ?_
  rw [e3]
  exact hx_pick [0] h1

/-- bitCount from 24 on -/
theorem hr63_24 {xs : List Int32} {n : Nat} {Q : hQ} {m : gx_M} {x0 : Int}
    (h1 : hxn xs n yp_m63 34 [(0, .inl (gx_and (gx_w (x0 + (hushr x0 4))) 252645135))] [] m Q) : hxn xs (n + 1) yp_m63 24 [(0, .inl x0)] [] m Q := by
  have f1 := gx_and_bd (gx_w (x0 + (hushr x0 4))) 252645135 (by decide)
  refine hx_blks (npc := 34) (L' := [(0, .inl (gx_and (gx_w (x0 + (hushr x0 4))) 252645135))]) (st' := []) (m' := m) ((24, .iload_n 0, 1, 0, 0, 0, 0), (0, 0, 0)) [((25, .iload_n 0, 1, 0, 0, 0, 0), (0, 0, 0)), ((26, .iconst 4, 1, 0, 0, 0, 0), (0, 0, 0)), ((27, .iushr, 1, 0, 0, 0, 0), (0, 0, 0)), ((28, .iadd, 1, 0, 0, 0, 0), (0, 0, 0)), ((29, .ldc_w 267, 3, 0, 0, 3159, 252645135), (0, 0, 0)), ((32, .iand, 1, 0, 0, 0, 0), (0, 0, 0)), ((33, .istore_n 0, 1, 0, 0, 0, 0), (0, 0, 0))] (by decide +kernel) rfl ?_
  exact hx_pick [0] h1

/-- bitCount from 34 on -/
theorem hr63_34 {xs : List Int32} {n : Nat} {Q : hQ} {m : gx_M} {x0 : Int}
    (h1 : hxn xs n yp_m63 41 [(0, .inl (gx_w (x0 + (hushr x0 8))))] [] m Q) : hxn xs (n + 1) yp_m63 34 [(0, .inl x0)] [] m Q := by
  refine hx_blks (npc := 41) (L' := [(0, .inl (gx_w (x0 + (hushr x0 8))))]) (st' := []) (m' := m) ((34, .iload_n 0, 1, 0, 0, 0, 0), (0, 0, 0)) [((35, .iload_n 0, 1, 0, 0, 0, 0), (0, 0, 0)), ((36, .bipush 8, 2, 0, 0, 0, 0), (0, 0, 0)), ((38, .iushr, 1, 0, 0, 0, 0), (0, 0, 0)), ((39, .iadd, 1, 0, 0, 0, 0), (0, 0, 0)), ((40, .istore_n 0, 1, 0, 0, 0, 0), (0, 0, 0))] (by decide +kernel) rfl ?_
  exact hx_pick [0] h1

/-- bitCount from 41 on -/
theorem hr63_41 {xs : List Int32} {n : Nat} {Q : hQ} {m : gx_M} {x0 : Int}
    (h1 : hxn xs n yp_m63 48 [(0, .inl (gx_w (x0 + (hushr x0 16))))] [] m Q) : hxn xs (n + 1) yp_m63 41 [(0, .inl x0)] [] m Q := by
  refine hx_blks (npc := 48) (L' := [(0, .inl (gx_w (x0 + (hushr x0 16))))]) (st' := []) (m' := m) ((41, .iload_n 0, 1, 0, 0, 0, 0), (0, 0, 0)) [((42, .iload_n 0, 1, 0, 0, 0, 0), (0, 0, 0)), ((43, .bipush 16, 2, 0, 0, 0, 0), (0, 0, 0)), ((45, .iushr, 1, 0, 0, 0, 0), (0, 0, 0)), ((46, .iadd, 1, 0, 0, 0, 0), (0, 0, 0)), ((47, .istore_n 0, 1, 0, 0, 0, 0), (0, 0, 0))] (by decide +kernel) rfl ?_
  exact hx_pick [0] h1

/-- bitCount from 48 on -/
theorem hr63_48 {xs : List Int32} {n : Nat} {Q : hQ} {m : gx_M} {x0 : Int}
    (h1 : Q (some (.inl (gx_and x0 63))) m) : hxn xs (n + 1) yp_m63 48 [(0, .inl x0)] [] m Q := by
  have f1 := gx_and_bd x0 63 (by decide)
  refine hx_blks (npc := 52) (L' := [(0, .inl x0)]) (st' := [.inl (gx_and x0 63)]) (m' := m) ((48, .iload_n 0, 1, 0, 0, 0, 0), (0, 0, 0)) [((49, .bipush 63, 2, 0, 0, 0, 0), (0, 0, 0)), ((51, .iand, 1, 0, 0, 0, 0), (0, 0, 0))] (by decide +kernel) rfl ?_
  exact hx_reti (by decide +kernel) h1

def hia (X : Nat) : Nat := X - ((X / 2) &&& 1431655765)
def hib (A : Nat) : Nat := (A &&& 858993459) + ((A / 4) &&& 858993459)
def hic (B : Nat) : Nat := (B + B / 16) &&& 252645135
theorem hi_all (X : Nat) (hX : X < 65536) : hia X < 65536 ∧ hib (hia X) < 65536 ∧ hic (hib (hia X)) < 65536 ∧ (hic (hib (hia X)) + hic (hib (hia X)) / 256) % 64 = hpop 20 X ∧ hic (hib (hia X)) + hic (hib (hia X)) / 256 < 65536 := by
  obtain ⟨b0, hb0⟩ : ∃ b, b = X % 256 := ⟨_, rfl⟩
  obtain ⟨b1, hb1⟩ : ∃ b, b = X / 256 := ⟨_, rfl⟩
  have hX' : X = b0 + 256 * (b1 + 256 * 0) := by omega
  obtain ⟨p0, q0, r0, s0, t0⟩ := hp_all b0 (by omega)
  obtain ⟨p1, q1, r1, s1, t1⟩ := hp_all b1 (by omega)
  have z1 : ∀ M, hpA M 0 = 0 := fun M => by unfold hpA; omega
  have z2 : ∀ M, hpB M 0 = 0 := fun M => by unfold hpB; rw [Nat.zero_div, Nat.zero_and]
  have z3 : ∀ M, hpC M 0 = 0 := fun M => by unfold hpC; rw [Nat.zero_div, Nat.add_zero, Nat.zero_and]
  have m1 : (1431655765 : Nat) = 85 + 256 * (85 + 256 * 21845) := by decide
  have m2 : (858993459 : Nat) = 51 + 256 * (51 + 256 * 13107) := by decide
  have m3 : (252645135 : Nat) = 15 + 256 * (15 + 256 * 3855) := by decide
  have eA : hia X = hpA 85 b0 + 256 * hpA 85 b1 := by
    show hpA 1431655765 X = _
    rw [m1, hX', hpA_b (by omega), hpA_b (by omega), z1, Nat.mul_zero, Nat.add_zero]
  have eB : hib (hia X) = hpB 51 (hpA 85 b0) + 256 * hpB 51 (hpA 85 b1) := by
    rw [eA]
    show hpB 858993459 _ = _
    have e : hpA 85 b0 + 256 * hpA 85 b1 = hpA 85 b0 + 256 * (hpA 85 b1 + 256 * 0) := by omega
    rw [e, m2, hpB_b p0, hpB_b p1, z2, Nat.mul_zero, Nat.add_zero]
  have eC : hic (hib (hia X)) = hpop 8 b0 + 256 * hpop 8 b1 := by
    rw [eB]
    show hpC 252645135 _ = _
    have e : hpB 51 (hpA 85 b0) + 256 * hpB 51 (hpA 85 b1) = hpB 51 (hpA 85 b0) + 256 * (hpB 51 (hpA 85 b1) + 256 * 0) := by omega
    rw [e, m3, hpC_b q0 r0 s0 (by omega), hpC_b q1 r1 s1 (by omega), z3, t0, t1, Nat.mul_zero, Nat.add_zero]
  have a1 := hpop_add 8 12 X
  have a2 := hpop_add 8 4 (X / 2 ^ 8)
  have a3 : hpop 8 (X % 2 ^ 8) = hpop 8 X := hpop_mod 8 X
  have e8 : (2 : Nat) ^ 8 = 256 := rfl
  have e0 : X / 2 ^ 8 / 2 ^ 8 = 0 := by rw [e8]; omega
  rw [e0] at a2
  have h0 : hpop 4 0 = 0 := rfl
  rw [h0, e8, ← hb1] at a2
  rw [e8, ← hb1] at a1
  rw [e8, ← hb0] at a3
  have l0 := hpop_le 8 b0
  have l1 := hpop_le 8 b1
  have esum : hpop 20 X = hpop 8 b0 + hpop 8 b1 := by
    have : hpop (8 + 12) X = hpop 20 X := rfl
    have : hpop (8 + 4) b1 = hpop 12 b1 := rfl
    omega
  refine ⟨by omega, by omega, by omega, ?_, by omega⟩
  rw [esum, eC]
  omega
