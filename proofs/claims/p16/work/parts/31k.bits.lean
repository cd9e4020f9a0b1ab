/-! the same, 2 -/
theorem hs63 {xs : List Int32} {n : Nat} {Q : hQ} {m : gx_M} {X : Nat} (hX : X < 65536) (h : Q (some (.inl ((hpop 20 X : Nat) : Int))) m) : hxn xs n yp_m63 0 [(0, .inl (X : Int))] [] m Q := by
  obtain ⟨b1, b2, b3, b4, b5⟩ := hi_all X hX
  have la : ∀ X Z : Nat, X < 2 ^ 31 → Z < 2 ^ 31 → gx_and (X : Int) (Z : Int) = ((X &&& Z : Nat) : Int) := fun X Z h1 h2 => hand_nat h1 h2
  have ls : ∀ X y : Nat, X < 2 ^ 31 → y < 32 → hushr (X : Int) (y : Int) = ((X / 2 ^ y : Nat) : Int) := fun X y h1 h2 => hushr_nat h1 h2
  have bound : ∀ X k : Nat, X / k ≤ X := Nat.div_le_self
  refine hx_dn (hr63_0 (hx_dn ?_))
  obtain ⟨A, hA⟩ : ∃ A, A = hia X := ⟨_, rfl⟩
  rw [← hA] at b1 b2 b3 b4 b5
  have eA : gx_w ((X : Int) - gx_and (hushr (X : Int) 1) 1431655765) = (A : Int) := by
    have e1 := ls X 1 (by omega) (by decide)
    have l2 := bound X (2 ^ 1)
    have e2 := la (X / 2 ^ 1) 1431655765 (by omega) (by decide)
    have l1 : (X / 2 ^ 1 &&& 1431655765) ≤ X / 2 ^ 1 := Nat.and_le_left
    have c1 : ((1 : Nat) : Int) = 1 := rfl
    have c2 : ((1431655765 : Nat) : Int) = 1431655765 := rfl
    rw [c1] at e1
    rw [c2] at e2
    have p2 : X / 2 ^ 1 = X / 2 := rfl
    rw [e1, e2]
    rw [p2] at l1 l2 ⊢
    have hA' : A = X - ((X / 2) &&& 1431655765) := hA
    rw [gx_w_id (by omega) (by omega)]
    omega
  rw [eA]
  refine hr63_10 (hx_dn ?_)
  obtain ⟨B, hB⟩ : ∃ B, B = hib A := ⟨_, rfl⟩
  rw [← hB] at b2 b3 b4 b5
  have eB : gx_and (A : Int) 858993459 + gx_and (hushr (A : Int) 2) 858993459 = (B : Int) := by
    have e0 := la A 858993459 (by omega) (by decide)
    have e1 := ls A 2 (by omega) (by decide)
    have e2 := la (A / 2 ^ 2) 858993459 (by have := bound A (2 ^ 2); omega) (by decide)
    have c1 : ((2 : Nat) : Int) = 2 := rfl
    have c2 : ((858993459 : Nat) : Int) = 858993459 := rfl
    rw [c1] at e1
    rw [c2] at e0 e2
    rw [e1, e2, e0]
    have p2 : A / 2 ^ 2 = A / 4 := rfl
    have hB' : B = (A &&& 858993459) + (A / 4 &&& 858993459) := hB
    rw [p2]
    omega
  rw [eB]
  refine hr63_24 (hx_dn ?_)
  obtain ⟨C, hC⟩ : ∃ C, C = hic B := ⟨_, rfl⟩
  rw [← hC] at b3 b4 b5
  have eC : gx_and (gx_w ((B : Int) + hushr (B : Int) 4)) 252645135 = (C : Int) := by
    have e1 := ls B 4 (by omega) (by decide)
    have c1 : ((4 : Nat) : Int) = 4 := rfl
    have c2 : ((252645135 : Nat) : Int) = 252645135 := rfl
    rw [c1] at e1
    have p2 : B / 2 ^ 4 = B / 16 := rfl
    have l2 := bound B 16
    rw [e1, p2, gx_w_id (by omega) (by omega)]
    have e2 := la (B + B / 16) 252645135 (by omega) (by decide)
    rw [c2] at e2
    have e3 : ((B + B / 16 : Nat) : Int) = (B : Int) + ((B / 16 : Nat) : Int) := by omega
    rw [e3] at e2
    rw [e2, hC]
    rfl
  rw [eC]
  have step : ∀ (D k : Nat), D < 2 ^ 30 → k < 32 → gx_w ((D : Int) + hushr (D : Int) (k : Int)) = ((D + D / 2 ^ k : Nat) : Int) := fun D k h1 h2 => by
    rw [ls D k (by omega) h2]
    have := bound D (2 ^ k)
    generalize D / 2 ^ k = z at *
    rw [gx_w_id (by omega) (by omega)]
    omega
  refine hr63_34 (hx_dn ?_)
  have s1 := step C 8 (by omega) (by decide)
  have c8 : ((8 : Nat) : Int) = 8 := rfl
  rw [c8] at s1
  rw [s1]
  have d1 : C + C / 2 ^ 8 = C + C / 256 := rfl
  rw [d1]
  refine hr63_41 (hx_dn ?_)
  obtain ⟨D, hD⟩ : ∃ D, D = C + C / 256 := ⟨_, rfl⟩
  rw [← hD] at b4 b5 ⊢
  have s2 := step D 16 (by omega) (by decide)
  have c16 : ((16 : Nat) : Int) = 16 := rfl
  rw [c16] at s2
  rw [s2]
  have d2 : D + D / 2 ^ 16 = D + D / 65536 := rfl
  rw [d2]
  have hz : D / 65536 = 0 ∨ D / 65536 = 1 := by omega
  refine hr63_48 ?_
  have e1 := la (D + D / 65536) 63 (by omega) (by decide)
  have c63 : ((63 : Nat) : Int) = 63 := rfl
  rw [c63] at e1
  have e2 : (D + D / 65536 &&& 63) = (D + D / 65536) % 64 := Nat.and_two_pow_sub_one_eq_mod _ 6
  have e3 : D / 65536 = 0 := by
    omega
  rw [e3, Nat.add_zero] at e1 e2 ⊢
  rw [e1, e2, b4]
  exact h
