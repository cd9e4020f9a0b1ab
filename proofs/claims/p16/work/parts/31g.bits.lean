/-! BITS: numbers that are not below 0 as sets; how many are in them -/
theorem hbv_nat {X : Nat} (h : X < 2 ^ 63) : (Int64.ofInt (X : Int)).toBitVec.toNat = X := by
  rw [Int64.toBitVec_ofInt, BitVec.toNat_ofInt]
  omega
theorem hbv_to {x : Int64} (h : x.toBitVec.toNat < 2 ^ 63) : x.toInt = (x.toBitVec.toNat : Int) := by
  have e : x.toInt = x.toBitVec.toInt := rfl
  rw [e, BitVec.toInt_eq_toNat_cond, if_pos (by omega)]
theorem hland_of {x z : Int} {A B : Nat} (hA : (Int64.ofInt x).toBitVec.toNat = A) (hB : (Int64.ofInt z).toBitVec.toNat = B) (h : A &&& B < 2 ^ 63) : hland x z = ((A &&& B : Nat) : Int) := by
  have e : (Int64.ofInt x &&& Int64.ofInt z).toBitVec.toNat = A &&& B := by
    show ((Int64.ofInt x).toBitVec &&& (Int64.ofInt z).toBitVec).toNat = _
    rw [BitVec.toNat_and, hA, hB]
  unfold hland
  rw [hbv_to (by rw [e]; exact h), e]
theorem hland_nat {X Z : Nat} (hX : X < 2 ^ 63) (hZ : Z < 2 ^ 63) : hland (X : Int) (Z : Int) = ((X &&& Z : Nat) : Int) :=
  hland_of (hbv_nat hX) (hbv_nat hZ) (Nat.lt_of_le_of_lt Nat.and_le_left hX)
theorem hlor_nat {X Z : Nat} (hX : X < 2 ^ 63) (hZ : Z < 2 ^ 63) : hlor (X : Int) (Z : Int) = ((X ||| Z : Nat) : Int) := by
  have e : (Int64.ofInt (X : Int) ||| Int64.ofInt (Z : Int)).toBitVec.toNat = X ||| Z := by
    show ((Int64.ofInt (X : Int)).toBitVec ||| (Int64.ofInt (Z : Int)).toBitVec).toNat = _
    rw [BitVec.toNat_or, hbv_nat hX, hbv_nat hZ]
  unfold hlor
  rw [hbv_to (by rw [e]; exact Nat.or_lt_two_pow hX hZ), e]
theorem hl_amt : ∀ y : Nat, y < 64 → ((Int32.ofInt (y : Int)).toInt64.toUInt64 &&& Int64.toUInt64 63) = UInt64.ofNat y := by decide +kernel
theorem hlushr_nat {X y : Nat} (hX : X < 2 ^ 63) (hy : y < 64) : hlushr (X : Int) (y : Int) = ((X / 2 ^ y : Nat) : Int) := by
  unfold hlushr
  rw [hl_amt y hy]
  have e : ((Int64.ofInt (X : Int)).toUInt64 >>> UInt64.ofNat y).toInt64.toBitVec.toNat = X / 2 ^ y := by
    show ((Int64.ofInt (X : Int)).toUInt64 >>> UInt64.ofNat y).toNat = _
    rw [UInt64.toNat_shiftRight, UInt64.toNat_ofNat']
    have e1 : (Int64.ofInt (X : Int)).toUInt64.toNat = X := hbv_nat hX
    rw [e1, Nat.mod_eq_of_lt (show y % 2 ^ 64 < 64 by omega), Nat.mod_eq_of_lt (show y < 2 ^ 64 by omega), Nat.shiftRight_eq_div_pow]
  have hl : X / 2 ^ y ≤ X := Nat.div_le_self _ _
  rw [hbv_to (by rw [e]; omega), e]
theorem hlshl_one : ∀ y : Nat, y < 63 → hlshl 1 (y : Int) = ((2 ^ y : Nat) : Int) := by decide +kernel
theorem hlnot_one : ∀ y : Nat, y < 63 → (Int64.ofInt (hlxor (hlshl 1 (y : Int)) (-1))).toBitVec.toNat = 2 ^ 64 - 1 - 2 ^ y := by decide +kernel
theorem hbit_eq (X y : Nat) : X / 2 ^ y % 2 = if X.testBit y = true then 1 else 0 := by
  rw [Nat.testBit_eq_decide_div_mod_eq]
  by_cases h : X / 2 ^ y % 2 = 1
  · rw [h, if_pos (by simp)]
  · rw [if_neg (by simp only [decide_eq_true_eq]; exact h)]
    omega
/-- the test of a bit -/
theorem hlbit {X y : Nat} (hX : X < 2 ^ 63) (hy : y < 63) : hlcmp (hland (hlushr (X : Int) (y : Int)) 1) 0 = if X.testBit y = true then 1 else 0 := by
  rw [hlushr_nat hX (by omega)]
  have hl : X / 2 ^ y ≤ X := Nat.div_le_self _ _
  have e1 : hland ((X / 2 ^ y : Nat) : Int) ((1 : Nat) : Int) = ((X / 2 ^ y &&& 1 : Nat) : Int) := hland_nat (by omega) (by omega)
  have e2 : ((1 : Nat) : Int) = 1 := rfl
  rw [e2] at e1
  rw [e1, Nat.and_one_is_mod, hbit_eq]
  by_cases h : X.testBit y = true
  · rw [if_pos h, if_pos h]; rfl
  · rw [if_neg h, if_neg h]; rfl
/-! sets as numbers -/
def hmask (f : Nat → Bool) : Nat → Nat
  | 0 => 0
  | k + 1 => hmask f k + if f k = true then 2 ^ k else 0
def hcnt (f : Nat → Bool) : Nat → Nat
  | 0 => 0
  | k + 1 => hcnt f k + if f k = true then 1 else 0
theorem hmask_lt (f : Nat → Bool) : ∀ k, hmask f k < 2 ^ k
  | 0 => by show 0 < 1; decide
  | k + 1 => by
    have h := hmask_lt f k
    unfold hmask
    rw [Nat.pow_succ]
    split <;> omega
theorem hmask_bit (f : Nat → Bool) : ∀ k j : Nat, (hmask f k).testBit j = (decide (j < k) && f j)
  | 0, j => by
    unfold hmask
    rw [Nat.zero_testBit]
    simp
  | k + 1, j => by
    have ih := hmask_bit f k j
    have hlt := hmask_lt f k
    unfold hmask
    by_cases hk : f k = true
    · rw [if_pos hk, Nat.add_comm]
      rcases Nat.lt_trichotomy j k with h | h | h
      · rw [Nat.testBit_two_pow_add_gt h, ih]
        have e1 : decide (j < k) = true := decide_eq_true h
        have e2 : decide (j < k + 1) = true := decide_eq_true (by omega)
        rw [e1, e2]
      · subst h
        rw [Nat.testBit_two_pow_add_eq, ih, hk]
        simp
      · rw [Nat.testBit_lt_two_pow (by
          have : 2 ^ (k + 1) ≤ 2 ^ j := Nat.pow_le_pow_right (by decide) h
          rw [Nat.pow_succ] at this
          omega)]
        have e2 : decide (j < k + 1) = false := decide_eq_false (by omega)
        rw [e2]
        rfl
    · rw [if_neg hk, Nat.add_zero, ih]
      by_cases hj : j = k
      · subst hj
        have : f j = false := by simpa using hk
        rw [this]
        simp
      · have : decide (j < k + 1) = decide (j < k) := decide_eq_decide.mpr (by omega)
        rw [this]
theorem hmask_ext {f g : Nat → Bool} : ∀ k, (∀ j, j < k → f j = g j) → hmask f k = hmask g k
  | 0, _ => rfl
  | k + 1, h => by
    unfold hmask
    rw [hmask_ext k (fun j hj => h j (by omega)), h k (by omega)]
theorem hcnt_ext {f g : Nat → Bool} : ∀ k, (∀ j, j < k → f j = g j) → hcnt f k = hcnt g k
  | 0, _ => rfl
  | k + 1, h => by
    unfold hcnt
    rw [hcnt_ext k (fun j hj => h j (by omega)), h k (by omega)]
theorem hcnt_le (f : Nat → Bool) : ∀ k, hcnt f k ≤ k
  | 0 => Nat.le_refl _
  | k + 1 => by
    have := hcnt_le f k
    unfold hcnt
    split <;> omega
theorem hmask_eq {X k : Nat} (h : X < 2 ^ k) : hmask (fun j => X.testBit j) k = X := by
  apply Nat.eq_of_testBit_eq
  intro j
  rw [hmask_bit]
  by_cases hj : j < k
  · rw [decide_eq_true hj, Bool.true_and]
  · rw [decide_eq_false hj, Bool.false_and]
    exact (Nat.testBit_lt_two_pow (Nat.lt_of_lt_of_le h (Nat.pow_le_pow_right (by decide) (by omega)))).symm
theorem hmask_40 (f : Nat → Bool) : hmask f 40 < 2 ^ 63 := Nat.lt_of_lt_of_le (hmask_lt f 40) (by decide)
theorem hmask_test {f : Nat → Bool} {y : Nat} (hy : y < 40) : hlcmp (hland (hlushr ((hmask f 40 : Nat) : Int) (y : Int)) 1) 0 = if f y = true then 1 else 0 := by
  rw [hlbit (hmask_40 f) (by omega), hmask_bit, decide_eq_true hy, Bool.true_and]
/-- one more -/
theorem hmask_put {f : Nat → Bool} {y : Nat} (hy : y < 40) : hlor ((hmask f 40 : Nat) : Int) (hlshl 1 (y : Int)) = ((hmask (fun j => f j || decide (j = y)) 40 : Nat) : Int) := by
  rw [hlshl_one y (by omega), hlor_nat (hmask_40 f) (Nat.pow_lt_pow_right (by decide) (by omega))]
  congr 1
  apply Nat.eq_of_testBit_eq
  intro j
  rw [Nat.testBit_or, hmask_bit, hmask_bit, Nat.testBit_two_pow]
  by_cases hj : j < 40
  · rw [decide_eq_true hj, Bool.true_and, Bool.true_and]
    congr 1
    exact decide_eq_decide.mpr ⟨fun h => h.symm, fun h => h.symm⟩
  · rw [decide_eq_false hj, Bool.false_and, Bool.false_and, Bool.false_or]
    exact decide_eq_false (by omega)
theorem hmask_del {f : Nat → Bool} {y : Nat} (hy : y < 40) : hland ((hmask f 40 : Nat) : Int) (hlxor (hlshl 1 (y : Int)) (-1)) = ((hmask (fun j => f j && !(decide (j = y))) 40 : Nat) : Int) := by
  rw [hland_of (hbv_nat (hmask_40 f)) (hlnot_one y (by omega)) (Nat.lt_of_le_of_lt Nat.and_le_left (hmask_40 f))]
  congr 1
  apply Nat.eq_of_testBit_eq
  intro j
  rw [Nat.testBit_and, hmask_bit, hmask_bit]
  by_cases hj : j < 40
  · rw [decide_eq_true hj, Bool.true_and, Bool.true_and]
    congr 1
    have e : 2 ^ 64 - 1 - 2 ^ y = 2 ^ 64 - (2 ^ y + 1) := by omega
    rw [e, Nat.testBit_two_pow_sub_succ (Nat.pow_lt_pow_right (by decide) (by omega)), Nat.testBit_two_pow]
    have e1 : decide (j < 64) = true := decide_eq_true (by omega)
    rw [e1, Bool.true_and]
    congr 1
    exact decide_eq_decide.mpr ⟨fun h => h.symm, fun h => h.symm⟩
  · rw [decide_eq_false hj, Bool.false_and, Bool.false_and, Bool.false_and]
theorem hmask_and (f g : Nat → Bool) : hland ((hmask f 40 : Nat) : Int) ((hmask g 40 : Nat) : Int) = ((hmask (fun j => f j && g j) 40 : Nat) : Int) := by
  rw [hland_nat (hmask_40 f) (hmask_40 g)]
  congr 1
  apply Nat.eq_of_testBit_eq
  intro j
  rw [Nat.testBit_and, hmask_bit, hmask_bit, hmask_bit]
  cases decide (j < 40) <;> simp
/-- a set that grows from the left on -/
theorem hmask_grow {f : Nat → Bool} {y : Nat} (hy : y < 40) : hlor ((hmask f y : Nat) : Int) (hlshl 1 (y : Int)) = ((hmask f y + 2 ^ y : Nat) : Int) := by
  have h40 : hmask f y < 2 ^ 63 := Nat.lt_of_lt_of_le (hmask_lt f y) (Nat.pow_le_pow_right (by decide) (by omega))
  rw [hlshl_one y (by omega), hlor_nat h40 (Nat.pow_lt_pow_right (by decide) (by omega))]
  congr 1
  have h1 := Nat.two_pow_add_eq_or_of_lt (hmask_lt f y) 1
  rw [Nat.mul_one] at h1
  rw [Nat.or_comm, ← h1, Nat.add_comm]
/-! how many bits of a long number below 2^40: by bytes -/
theorem hp_byte {b Y μ M s : Nat} (hb : b < 256) (hμ : μ < 2 ^ (8 - s)) (hs : s ≤ 8) : ((b + 256 * Y) / 2 ^ s) &&& (μ + 256 * M) = ((b / 2 ^ s) &&& μ) + 256 * ((Y / 2 ^ s) &&& M) := by
  have h8 : (256 : Nat) = 2 ^ 8 := by decide
  have hμ8 : μ < 2 ^ 8 := Nat.lt_of_lt_of_le hμ (Nat.pow_le_pow_right (by decide) (by omega))
  have hlo : (b / 2 ^ s) &&& μ < 2 ^ 8 := Nat.lt_of_le_of_lt Nat.and_le_right hμ8
  apply Nat.eq_of_testBit_eq
  intro j
  rw [Nat.add_comm b, Nat.add_comm μ, Nat.add_comm (_ &&& μ), h8, Nat.testBit_and, ← Nat.shiftRight_eq_div_pow, ← Nat.shiftRight_eq_div_pow, ← Nat.shiftRight_eq_div_pow, Nat.testBit_shiftRight, Nat.testBit_two_pow_mul_add _ (by rw [← h8]; exact hb), Nat.testBit_two_pow_mul_add _ hμ8, Nat.testBit_two_pow_mul_add _ (by rw [Nat.shiftRight_eq_div_pow]; exact hlo)]
  by_cases hj : j < 8
  · rw [if_pos hj, if_pos hj, Nat.testBit_and, Nat.testBit_shiftRight]
    by_cases hjs : s + j < 8
    · rw [if_pos hjs]
    · rw [if_neg hjs]
      have : μ.testBit j = false := Nat.testBit_lt_two_pow (Nat.lt_of_lt_of_le hμ (Nat.pow_le_pow_right (by decide) (by omega)))
      rw [this, Bool.and_false, Bool.and_false]
  · rw [if_neg hj, if_neg hj, if_neg (by omega), Nat.testBit_and, Nat.testBit_shiftRight]
    have : s + j - 8 = s + (j - 8) := by omega
    rw [this]
def hpA (M X : Nat) : Nat := X - ((X / 2) &&& M)
def hpB (M X : Nat) : Nat := (X &&& M) + ((X / 4) &&& M)
def hpC (M X : Nat) : Nat := (X + X / 16) &&& M
theorem hpA_b {b Y M : Nat} (hb : b < 256) : hpA (85 + 256 * M) (b + 256 * Y) = hpA 85 b + 256 * hpA M Y := by
  have h := hp_byte (s := 1) (μ := 85) (M := M) (Y := Y) hb (by decide) (by decide)
  have e : (2 : Nat) ^ 1 = 2 := rfl
  rw [e] at h
  unfold hpA
  rw [h]
  have h1 : (b / 2 &&& 85) ≤ b / 2 := Nat.and_le_left
  have h2 : (Y / 2 &&& M) ≤ Y / 2 := Nat.and_le_left
  omega
theorem hpB_b {b Y M : Nat} (hb : b < 256) : hpB (51 + 256 * M) (b + 256 * Y) = hpB 51 b + 256 * hpB M Y := by
  have h := hp_byte (s := 2) (μ := 51) (M := M) (Y := Y) hb (by decide) (by decide)
  have h0 := hp_byte (s := 0) (μ := 51) (M := M) (Y := Y) hb (by decide) (by decide)
  have e : (2 : Nat) ^ 2 = 4 := rfl
  have e0 : (2 : Nat) ^ 0 = 1 := rfl
  rw [e] at h
  rw [e0, Nat.div_one, Nat.div_one, Nat.div_one] at h0
  unfold hpB
  rw [h, h0]
  omega
theorem hpC_b {p Y M : Nat} (hp : p < 256) (h1 : p % 16 ≤ 4) (h2 : p / 16 ≤ 4) (h3 : Y % 16 ≤ 4) : hpC (15 + 256 * M) (p + 256 * Y) = (p % 16 + p / 16) + 256 * hpC M Y := by
  unfold hpC
  have e : p + 256 * Y + (p + 256 * Y) / 16 = (p % 16 + p / 16 + 16 * (p / 16 + Y % 16)) + 256 * (Y + Y / 16) := by omega
  have hb : p % 16 + p / 16 + 16 * (p / 16 + Y % 16) < 256 := by omega
  have h0 := hp_byte (s := 0) (μ := 15) (M := M) (Y := Y + Y / 16) hb (by decide) (by decide)
  have e0 : (2 : Nat) ^ 0 = 1 := rfl
  rw [e0, Nat.div_one, Nat.div_one, Nat.div_one] at h0
  rw [e, h0]
  congr 1
  have e1 : ∀ z : Nat, z &&& 15 = z % 16 := fun z => Nat.and_two_pow_sub_one_eq_mod z 4
  rw [e1]
  omega
def hpop : Nat → Nat → Nat
  | 0, _ => 0
  | k + 1, x => x % 2 + hpop k (x / 2)
theorem hp_all : ∀ b : Nat, b < 256 → hpA 85 b < 256 ∧ hpB 51 (hpA 85 b) < 256 ∧ hpB 51 (hpA 85 b) % 16 ≤ 4 ∧ hpB 51 (hpA 85 b) / 16 ≤ 4 ∧ hpB 51 (hpA 85 b) % 16 + hpB 51 (hpA 85 b) / 16 = hpop 8 b := by decide +kernel
theorem hpop_le : ∀ k x : Nat, hpop k x ≤ k
  | 0, _ => Nat.le_refl _
  | k + 1, x => by
    have := hpop_le k (x / 2)
    unfold hpop
    omega
theorem hpop_add : ∀ j k x : Nat, hpop (j + k) x = hpop j x + hpop k (x / 2 ^ j)
  | 0, k, x => by
    rw [Nat.zero_add, Nat.pow_zero, Nat.div_one]
    show _ = 0 + _
    omega
  | j + 1, k, x => by
    have e : j + 1 + k = (j + k) + 1 := by omega
    rw [e]
    show x % 2 + hpop (j + k) (x / 2) = (x % 2 + hpop j (x / 2)) + hpop k (x / 2 ^ (j + 1))
    rw [hpop_add j k (x / 2), Nat.div_div_eq_div_mul, Nat.pow_succ, Nat.mul_comm 2]
    omega
theorem hpop_mod : ∀ k x : Nat, hpop k (x % 2 ^ k) = hpop k x
  | 0, _ => rfl
  | k + 1, x => by
    unfold hpop
    have e1 : x % 2 ^ (k + 1) % 2 = x % 2 := Nat.mod_mod_of_dvd _ ⟨2 ^ k, by rw [Nat.pow_succ, Nat.mul_comm]⟩
    have e2 : x % 2 ^ (k + 1) / 2 = x / 2 % 2 ^ k := by
      rw [Nat.pow_succ, Nat.mul_comm, Nat.mod_mul_right_div_self]
    rw [e1, e2, hpop_mod k (x / 2)]
theorem hcnt_pop (f : Nat → Bool) : ∀ k X, (∀ j, j < k → X.testBit j = f j) → hpop k X = hcnt f k
  | 0, _, _ => rfl
  | k + 1, X, h => by
    have h1 := hpop_add k 1 X
    rw [h1, hcnt_pop f k X (fun j hj => h j (by omega))]
    show _ = hcnt f k + _
    have e : hpop 1 (X / 2 ^ k) = X / 2 ^ k % 2 := by
      show X / 2 ^ k % 2 + 0 = _
      omega
    rw [e, hbit_eq, h k (by omega)]
theorem hpop_hmask (f : Nat → Bool) (k : Nat) : hpop k (hmask f k) = hcnt f k :=
  hcnt_pop f k _ (fun j hj => by rw [hmask_bit, decide_eq_true hj, Bool.true_and])
/-- the bytes of a number below 2^40 -/
theorem hp_long {X : Nat} (h : X < 2 ^ 40) : hpC 1085102592571150095 (hpB 3689348814741910323 (hpA 6148914691236517205 X)) = hpop 8 (X % 256) + 256 * (hpop 8 (X / 256 % 256) + 256 * (hpop 8 (X / 65536 % 256) + 256 * (hpop 8 (X / 16777216 % 256) + 256 * hpop 8 (X / 4294967296 % 256)))) := by
  obtain ⟨b0, hb0⟩ : ∃ b, b = X % 256 := ⟨_, rfl⟩
  obtain ⟨b1, hb1⟩ : ∃ b, b = X / 256 % 256 := ⟨_, rfl⟩
  obtain ⟨b2, hb2⟩ : ∃ b, b = X / 65536 % 256 := ⟨_, rfl⟩
  obtain ⟨b3, hb3⟩ : ∃ b, b = X / 16777216 % 256 := ⟨_, rfl⟩
  obtain ⟨b4, hb4⟩ : ∃ b, b = X / 4294967296 % 256 := ⟨_, rfl⟩
  rw [← hb0, ← hb1, ← hb2, ← hb3, ← hb4]
  have hX : X = b0 + 256 * (b1 + 256 * (b2 + 256 * (b3 + 256 * (b4 + 256 * 0)))) := by omega
  obtain ⟨p0, q0, r0, s0, t0⟩ := hp_all b0 (by omega)
  obtain ⟨p1, q1, r1, s1, t1⟩ := hp_all b1 (by omega)
  obtain ⟨p2, q2, r2, s2, t2⟩ := hp_all b2 (by omega)
  obtain ⟨p3, q3, r3, s3, t3⟩ := hp_all b3 (by omega)
  obtain ⟨p4, q4, r4, s4, t4⟩ := hp_all b4 (by omega)
  have z1 : ∀ M, hpA M 0 = 0 := fun M => by unfold hpA; omega
  have z2 : ∀ M, hpB M 0 = 0 := fun M => by unfold hpB; rw [Nat.zero_div, Nat.zero_and]
  have z3 : ∀ M, hpC M 0 = 0 := fun M => by unfold hpC; rw [Nat.zero_div, Nat.add_zero, Nat.zero_and]
  have m1 : (6148914691236517205 : Nat) = 85 + 256 * (85 + 256 * (85 + 256 * (85 + 256 * (85 + 256 * 5592405)))) := by decide
  have m2 : (3689348814741910323 : Nat) = 51 + 256 * (51 + 256 * (51 + 256 * (51 + 256 * (51 + 256 * 3355443)))) := by decide
  have m3 : (1085102592571150095 : Nat) = 15 + 256 * (15 + 256 * (15 + 256 * (15 + 256 * (15 + 256 * 986895)))) := by decide
  rw [hX, m1, m2, m3, hpA_b (by omega), hpA_b (by omega), hpA_b (by omega), hpA_b (by omega), hpA_b (by omega), z1, hpB_b p0, hpB_b p1, hpB_b p2, hpB_b p3, hpB_b p4, z2]
  rw [hpC_b q0 r0 s0 (by omega), hpC_b q1 r1 s1 (by omega), hpC_b q2 r2 s2 (by omega), hpC_b q3 r3 s3 (by omega), hpC_b q4 r4 s4 (by omega), z3, t0, t1, t2, t3, t4]
  omega
theorem hp_sum {X : Nat} (h : X < 2 ^ 40) : hpop 40 X = hpop 8 (X % 256) + hpop 8 (X / 256 % 256) + hpop 8 (X / 65536 % 256) + hpop 8 (X / 16777216 % 256) + hpop 8 (X / 4294967296 % 256) := by
  have e : ∀ z, hpop 8 (z % 256) = hpop 8 z := fun z => hpop_mod 8 z
  rw [e, e, e, e, e]
  have a1 := hpop_add 8 32 X
  have a2 := hpop_add 8 24 (X / 2 ^ 8)
  have a3 := hpop_add 8 16 (X / 2 ^ 8 / 2 ^ 8)
  have a4 := hpop_add 8 8 (X / 2 ^ 8 / 2 ^ 8 / 2 ^ 8)
  rw [Nat.div_div_eq_div_mul] at a3 a4
  rw [Nat.div_div_eq_div_mul] at a3 a4
  rw [Nat.div_div_eq_div_mul] at a4
  rw [Nat.div_div_eq_div_mul] at a2
  simp only [Nat.reducePow, Nat.reduceMul, Nat.reduceAdd] at a1 a2 a3 a4
  omega
