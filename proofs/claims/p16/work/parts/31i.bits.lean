/-! how many bits a long number has, by the library -/
/-- bitCount from 0 on -/
theorem hr61_0 {xs : List Int32} {n : Nat} {Q : hQ} {m : gx_M} {x0 : Int}
    (h1 : hxn xs n yp_m61 10 [(0, .inr (.inr (hlw (x0 - (hland (hlushr x0 1) 6148914691236517205)))))] [] m Q) : hxn xs (n + 1) yp_m61 0 [(0, .inr (.inr x0))] [] m Q := by
  refine hx_blks (npc := 10) (L' := [(0, .inr (.inr (hlw (x0 - (hland (hlushr x0 1) 6148914691236517205)))))]) (st' := []) (m' := m) ((0, .lload_n 0, 1, 0, 0, 0, 0), (0, 0, 0)) [((1, .lload_n 0, 1, 0, 0, 0, 0), (0, 0, 0)), ((2, .iconst 1, 1, 0, 0, 0, 0), (0, 0, 0)), ((3, .lushr, 1, 0, 0, 0, 0), (0, 0, 0)), ((4, .ldc2_w 314, 3, 0, 0, 3147, 6148914691236517205), (0, 0, 0)), ((7, .land, 1, 0, 0, 0, 0), (0, 0, 0)), ((8, .lsub, 1, 0, 0, 0, 0), (0, 0, 0)), ((9, .lstore_n 0, 1, 0, 0, 0, 0), (0, 0, 0))] (by decide +kernel) rfl ?_
  exact hx_pick [0] h1

/-- bitCount from 10 on -/
theorem hr61_10 {xs : List Int32} {n : Nat} {Q : hQ} {m : gx_M} {x0 : Int}
    (h1 : hxn xs n yp_m61 24 [(0, .inr (.inr (hlw ((hland x0 3689348814741910323) + (hland (hlushr x0 2) 3689348814741910323)))))] [] m Q) : hxn xs (n + 1) yp_m61 10 [(0, .inr (.inr x0))] [] m Q := by
  refine hx_blks (npc := 24) (L' := [(0, .inr (.inr (hlw ((hland x0 3689348814741910323) + (hland (hlushr x0 2) 3689348814741910323)))))]) (st' := []) (m' := m) ((10, .lload_n 0, 1, 0, 0, 0, 0), (0, 0, 0)) [((11, .ldc2_w 316, 3, 0, 0, 3148, 3689348814741910323), (0, 0, 0)), ((14, .land, 1, 0, 0, 0, 0), (0, 0, 0)), ((15, .lload_n 0, 1, 0, 0, 0, 0), (0, 0, 0)), ((16, .iconst 2, 1, 0, 0, 0, 0), (0, 0, 0)), ((17, .lushr, 1, 0, 0, 0, 0), (0, 0, 0)), ((18, .ldc2_w 316, 3, 0, 0, 3148, 3689348814741910323), (0, 0, 0)), ((21, .land, 1, 0, 0, 0, 0), (0, 0, 0)), ((22, .ladd, 1, 0, 0, 0, 0), (0, 0, 0)), ((23, .lstore_n 0, 1, 0, 0, 0, 0), (0, 0, 0))] (by decide +kernel) rfl ?_
  exact hx_pick [0] h1

/-- bitCount from 24 on -/
theorem hr61_24 {xs : List Int32} {n : Nat} {Q : hQ} {m : gx_M} {x0 : Int}
    (h1 : hxn xs n yp_m61 34 [(0, .inr (.inr (hland (hlw (x0 + (hlushr x0 4))) 1085102592571150095)))] [] m Q) : hxn xs (n + 1) yp_m61 24 [(0, .inr (.inr x0))] [] m Q := by
  refine hx_blks (npc := 34) (L' := [(0, .inr (.inr (hland (hlw (x0 + (hlushr x0 4))) 1085102592571150095)))]) (st' := []) (m' := m) ((24, .lload_n 0, 1, 0, 0, 0, 0), (0, 0, 0)) [((25, .lload_n 0, 1, 0, 0, 0, 0), (0, 0, 0)), ((26, .iconst 4, 1, 0, 0, 0, 0), (0, 0, 0)), ((27, .lushr, 1, 0, 0, 0, 0), (0, 0, 0)), ((28, .ladd, 1, 0, 0, 0, 0), (0, 0, 0)), ((29, .ldc2_w 318, 3, 0, 0, 3149, 1085102592571150095), (0, 0, 0)), ((32, .land, 1, 0, 0, 0, 0), (0, 0, 0)), ((33, .lstore_n 0, 1, 0, 0, 0, 0), (0, 0, 0))] (by decide +kernel) rfl ?_
  exact hx_pick [0] h1

/-- bitCount from 34 on -/
theorem hr61_34 {xs : List Int32} {n : Nat} {Q : hQ} {m : gx_M} {x0 : Int}
    (h1 : hxn xs n yp_m61 41 [(0, .inr (.inr (hlw (x0 + (hlushr x0 8)))))] [] m Q) : hxn xs (n + 1) yp_m61 34 [(0, .inr (.inr x0))] [] m Q := by
  refine hx_blks (npc := 41) (L' := [(0, .inr (.inr (hlw (x0 + (hlushr x0 8)))))]) (st' := []) (m' := m) ((34, .lload_n 0, 1, 0, 0, 0, 0), (0, 0, 0)) [((35, .lload_n 0, 1, 0, 0, 0, 0), (0, 0, 0)), ((36, .bipush 8, 2, 0, 0, 0, 0), (0, 0, 0)), ((38, .lushr, 1, 0, 0, 0, 0), (0, 0, 0)), ((39, .ladd, 1, 0, 0, 0, 0), (0, 0, 0)), ((40, .lstore_n 0, 1, 0, 0, 0, 0), (0, 0, 0))] (by decide +kernel) rfl ?_
  exact hx_pick [0] h1

/-- bitCount from 41 on -/
theorem hr61_41 {xs : List Int32} {n : Nat} {Q : hQ} {m : gx_M} {x0 : Int}
    (h1 : hxn xs n yp_m61 48 [(0, .inr (.inr (hlw (x0 + (hlushr x0 16)))))] [] m Q) : hxn xs (n + 1) yp_m61 41 [(0, .inr (.inr x0))] [] m Q := by
  refine hx_blks (npc := 48) (L' := [(0, .inr (.inr (hlw (x0 + (hlushr x0 16)))))]) (st' := []) (m' := m) ((41, .lload_n 0, 1, 0, 0, 0, 0), (0, 0, 0)) [((42, .lload_n 0, 1, 0, 0, 0, 0), (0, 0, 0)), ((43, .bipush 16, 2, 0, 0, 0, 0), (0, 0, 0)), ((45, .lushr, 1, 0, 0, 0, 0), (0, 0, 0)), ((46, .ladd, 1, 0, 0, 0, 0), (0, 0, 0)), ((47, .lstore_n 0, 1, 0, 0, 0, 0), (0, 0, 0))] (by decide +kernel) rfl ?_
  exact hx_pick [0] h1

/-- bitCount from 48 on -/
theorem hr61_48 {xs : List Int32} {n : Nat} {Q : hQ} {m : gx_M} {x0 : Int}
    (h1 : hxn xs n yp_m61 55 [(0, .inr (.inr (hlw (x0 + (hlushr x0 32)))))] [] m Q) : hxn xs (n + 1) yp_m61 48 [(0, .inr (.inr x0))] [] m Q := by
  refine hx_blks (npc := 55) (L' := [(0, .inr (.inr (hlw (x0 + (hlushr x0 32)))))]) (st' := []) (m' := m) ((48, .lload_n 0, 1, 0, 0, 0, 0), (0, 0, 0)) [((49, .lload_n 0, 1, 0, 0, 0, 0), (0, 0, 0)), ((50, .bipush 32, 2, 0, 0, 0, 0), (0, 0, 0)), ((52, .lushr, 1, 0, 0, 0, 0), (0, 0, 0)), ((53, .ladd, 1, 0, 0, 0, 0), (0, 0, 0)), ((54, .lstore_n 0, 1, 0, 0, 0, 0), (0, 0, 0))] (by decide +kernel) rfl ?_
  exact hx_pick [0] h1

/-- bitCount from 55 on -/
theorem hr61_55 {xs : List Int32} {n : Nat} {Q : hQ} {m : gx_M} {x0 : Int}
    (h1 : Q (some (.inl (gx_and (gx_w x0) 127))) m) : hxn xs (n + 1) yp_m61 55 [(0, .inr (.inr x0))] [] m Q := by
  have f1 := gx_and_bd (gx_w x0) 127 (by decide)
  refine hx_blks (npc := 60) (L' := [(0, .inr (.inr x0))]) (st' := [.inl (gx_and (gx_w x0) 127)]) (m' := m) ((55, .lload_n 0, 1, 0, 0, 0, 0), (0, 0, 0)) [((56, .l2i, 1, 0, 0, 0, 0), (0, 0, 0)), ((57, .bipush 127, 2, 0, 0, 0, 0), (0, 0, 0)), ((59, .iand, 1, 0, 0, 0, 0), (0, 0, 0))] (by decide +kernel) rfl ?_
  exact hx_reti (by decide +kernel) h1

theorem hp_fin {p0 p1 p2 p3 p4 C D E F : Nat} (h0 : p0 ≤ 8) (h1 : p1 ≤ 8) (h2 : p2 ≤ 8) (h3 : p3 ≤ 8) (h4 : p4 ≤ 8) (hC : C = p0 + 256 * (p1 + 256 * (p2 + 256 * (p3 + 256 * p4)))) (hD : D = C + C / 256) (hE : E = D + D / 65536) (hF : F = E + E / 4294967296) : C < 2 ^ 50 ∧ D < 2 ^ 50 ∧ E < 2 ^ 50 ∧ F % 4294967296 < 2147483648 ∧ F % 4294967296 % 128 = p0 + p1 + p2 + p3 + p4 := by
  have k1 : C / 256 = p1 + 256 * (p2 + 256 * (p3 + 256 * p4)) := by omega
  rw [k1] at hD
  have k2 : D = (p0 + p1) + 256 * (p1 + p2) + 65536 * ((p2 + p3) + 256 * (p3 + p4) + 65536 * p4) := by omega
  have k3 : D / 65536 = (p2 + p3) + 256 * (p3 + p4) + 65536 * p4 := by
    clear hC hD hE hF k1
    omega
  rw [k3] at hE
  have k4 : E = ((p0 + p1 + p2 + p3) + 256 * (p1 + p2 + p3 + p4) + 65536 * (p2 + p3 + p4) + 16777216 * (p3 + p4)) + 4294967296 * p4 := by
    clear hC hD hF k1 k3
    omega
  have k5 : E / 4294967296 = p4 := by
    clear hC hD hE hF k1 k2 k3
    omega
  rw [k5] at hF
  have k6 : F % 4294967296 = ((p0 + p1 + p2 + p3 + p4) + 256 * (p1 + p2 + p3 + p4) + 65536 * (p2 + p3 + p4) + 16777216 * (p3 + p4)) := by
    clear hC hD hE k1 k2 k3 k5
    omega
  refine ⟨by clear hD hE hF k1 k2 k3 k4 k5 k6; omega, by clear hC hE hF hD k1 k3 k4 k5 k6; omega, by clear hC hD hF hE k1 k2 k3 k5 k6; omega, ?_, ?_⟩
  · rw [k6]; clear hC hD hE hF k1 k2 k3 k4 k5 k6; omega
  · rw [k6]; clear hC hD hE hF k1 k2 k3 k4 k5 k6; omega
theorem hs61 {xs : List Int32} {n : Nat} {Q : hQ} {m : gx_M} {X : Nat} (hX : X < 2 ^ 40) (h : Q (some (.inl ((hpop 40 X : Nat) : Int))) m) : hxn xs n yp_m61 0 [(0, .inr (.inr (X : Int)))] [] m Q := by
  have hXX : X < 2 ^ 63 := by omega
  have la : ∀ X Z : Nat, X < 2 ^ 63 → Z < 2 ^ 63 → hland (X : Int) (Z : Int) = ((X &&& Z : Nat) : Int) := fun X Z h1 h2 => hland_nat h1 h2
  have ls : ∀ X y : Nat, X < 2 ^ 63 → y < 64 → hlushr (X : Int) (y : Int) = ((X / 2 ^ y : Nat) : Int) := fun X y h1 h2 => hlushr_nat h1 h2
  have bound : ∀ X k : Nat, X / k ≤ X := Nat.div_le_self
  refine hx_dn (hr61_0 (hx_dn ?_))
  -- a
  obtain ⟨A, hA⟩ : ∃ A, A = hpA 6148914691236517205 X := ⟨_, rfl⟩
  have eA : hlw ((X : Int) - hland (hlushr (X : Int) 1) 6148914691236517205) = (A : Int) := by
    have e1 := ls X 1 hXX (by decide)
    have e2 := la (X / 2 ^ 1) 6148914691236517205 (by have := bound X (2 ^ 1); omega) (by decide)
    have l1 : (X / 2 ^ 1 &&& 6148914691236517205) ≤ X / 2 ^ 1 := Nat.and_le_left
    have l2 := bound X (2 ^ 1)
    have c1 : ((1 : Nat) : Int) = 1 := rfl
    have c2 : ((6148914691236517205 : Nat) : Int) = 6148914691236517205 := rfl
    rw [c1] at e1
    rw [c2] at e2
    rw [e1, e2, hA]
    unfold hpA
    have p2 : X / 2 ^ 1 = X / 2 := rfl
    rw [p2] at l1 l2 ⊢
    rw [hlw_id (by omega) (by omega)]
    omega
  rw [eA]
  have bA : A < 2 ^ 40 := by rw [hA]; unfold hpA; omega
  refine hr61_10 (hx_dn ?_)
  obtain ⟨B, hB⟩ : ∃ B, B = hpB 3689348814741910323 A := ⟨_, rfl⟩
  have bB0 : B ≤ A + A := by
    rw [hB]; unfold hpB
    have l1 : (A &&& 3689348814741910323) ≤ A := Nat.and_le_left
    have l2 : (A / 4 &&& 3689348814741910323) ≤ A / 4 := Nat.and_le_left
    omega
  have eB : hlw (hland (A : Int) 3689348814741910323 + hland (hlushr (A : Int) 2) 3689348814741910323) = (B : Int) := by
    have e0 := la A 3689348814741910323 (by omega) (by decide)
    have e1 := ls A 2 (by omega) (by decide)
    have e2 := la (A / 2 ^ 2) 3689348814741910323 (by have := bound A (2 ^ 2); omega) (by decide)
    have c1 : ((2 : Nat) : Int) = 2 := rfl
    have c2 : ((3689348814741910323 : Nat) : Int) = 3689348814741910323 := rfl
    rw [c1] at e1
    rw [c2] at e0 e2
    rw [e1, e2, e0]
    have p2 : A / 2 ^ 2 = A / 4 := rfl
    have hB' : B = (A &&& 3689348814741910323) + (A / 4 &&& 3689348814741910323) := hB
    rw [p2, hlw_id (by omega) (by omega)]
    omega
  rw [eB]
  refine hr61_24 (hx_dn ?_)
  obtain ⟨C, hC⟩ : ∃ C, C = hpC 1085102592571150095 B := ⟨_, rfl⟩
  have eC : hland (hlw ((B : Int) + hlushr (B : Int) 4)) 1085102592571150095 = (C : Int) := by
    have e1 := ls B 4 (by omega) (by decide)
    have c1 : ((4 : Nat) : Int) = 4 := rfl
    have c2 : ((1085102592571150095 : Nat) : Int) = 1085102592571150095 := rfl
    rw [c1] at e1
    have p2 : B / 2 ^ 4 = B / 16 := rfl
    have l2 := bound B 16
    rw [e1, p2, hlw_id (by omega) (by omega)]
    have e2 := la (B + B / 16) 1085102592571150095 (by omega) (by decide)
    rw [c2] at e2
    have e3 : ((B + B / 16 : Nat) : Int) = (B : Int) + ((B / 16 : Nat) : Int) := by omega
    rw [e3] at e2
    rw [e2, hC]
    rfl
  rw [eC]
  have hCv := hp_long hX
  rw [← hA, ← hB, ← hC] at hCv
  have hsum := hp_sum hX
  have q0 := hpop_le 8 (X % 256)
  have q1 := hpop_le 8 (X / 256 % 256)
  have q2 := hpop_le 8 (X / 65536 % 256)
  have q3 := hpop_le 8 (X / 16777216 % 256)
  have q4 := hpop_le 8 (X / 4294967296 % 256)
  have hfin := fun D E F h1 h2 h3 => hp_fin (C := C) (D := D) (E := E) (F := F) q0 q1 q2 q3 q4 hCv h1 h2 h3
  clear hCv q0 q1 q2 q3 q4 eA eB eC bB0 bA hA hB hC
  have step : ∀ (D k : Nat), D < 2 ^ 62 → k < 64 → hlw ((D : Int) + hlushr (D : Int) (k : Int)) = ((D + D / 2 ^ k : Nat) : Int) := fun D k h1 h2 => by
    rw [ls D k (by omega) h2]
    have := bound D (2 ^ k)
    generalize D / 2 ^ k = z at *
    rw [hlw_id (by omega) (by omega)]
    omega
  refine hr61_34 (hx_dn ?_)
  have s1 := step C 8 (Nat.lt_trans (hfin _ _ _ rfl rfl rfl).1 (by decide)) (by decide)
  have c8 : ((8 : Nat) : Int) = 8 := rfl
  rw [c8] at s1
  rw [s1]
  have d1 : C + C / 2 ^ 8 = C + C / 256 := rfl
  rw [d1]
  refine hr61_41 (hx_dn ?_)
  obtain ⟨D, hD⟩ : ∃ D, D = C + C / 256 := ⟨_, rfl⟩
  rw [← hD]
  have s2 := step D 16 (Nat.lt_trans (hfin D _ _ hD rfl rfl).2.1 (by decide)) (by decide)
  have c16 : ((16 : Nat) : Int) = 16 := rfl
  rw [c16] at s2
  rw [s2]
  have d2 : D + D / 2 ^ 16 = D + D / 65536 := rfl
  rw [d2]
  obtain ⟨E, hE⟩ : ∃ E, E = D + D / 65536 := ⟨_, rfl⟩
  rw [← hE]
  refine hr61_48 (hx_dn ?_)
  have s3 := step E 32 (Nat.lt_trans (hfin D E _ hD hE rfl).2.2.1 (by decide)) (by decide)
  have c32 : ((32 : Nat) : Int) = 32 := rfl
  rw [c32] at s3
  rw [s3]
  have d3 : E + E / 2 ^ 32 = E + E / 4294967296 := rfl
  rw [d3]
  obtain ⟨F, hF⟩ : ∃ F, F = E + E / 4294967296 := ⟨_, rfl⟩
  rw [← hF]
  refine hr61_55 ?_
  have e : gx_and (gx_w (F : Int)) 127 = ((hpop 40 X : Nat) : Int) := by
    have e0 : gx_w (F : Int) = ((F % 4294967296 : Nat) : Int) - (if F % 4294967296 < 2147483648 then 0 else 4294967296) := by
      unfold gx_w
      split <;> omega
    have hlow : F % 4294967296 < 2147483648 := (hfin D E F hD hE hF).2.2.2.1
    rw [e0, if_pos hlow, Int.sub_zero]
    have e1 : gx_and ((F % 4294967296 : Nat) : Int) ((127 : Nat) : Int) = ((F % 4294967296 &&& 127 : Nat) : Int) := hand_nat (by omega) (by decide)
    have c127 : ((127 : Nat) : Int) = 127 := rfl
    rw [c127] at e1
    have e2 : (F % 4294967296 &&& 127) = F % 4294967296 % 128 := Nat.and_two_pow_sub_one_eq_mod _ 7
    rw [e1, e2, hsum, (hfin D E F hD hE hF).2.2.2.2]
  rw [e]
  exact h
