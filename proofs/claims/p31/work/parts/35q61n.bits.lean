/-! complements, and how many bits -/
theorem i3_of (z : Int32) : Int32.ofInt z.toInt = z := Int32.ofInt_toInt z
theorem hand_not {M X : Nat} (hM : M < 2 ^ 31) (hX : X < 2 ^ 31) : gx_and (M : Int) (gx_xor (X : Int) (-1)) = ((M &&& (2 ^ 32 - (X + 1)) : Nat) : Int) := by
  unfold gx_and gx_xor
  rw [i3_of]
  have e : (Int32.ofInt (M : Int) &&& (Int32.ofInt (X : Int) ^^^ Int32.ofInt (-1))).toBitVec.toNat = M &&& (2 ^ 32 - (X + 1)) := by
    rw [Int32.toBitVec_and, BitVec.toNat_and, hiv_nat hM, Int32.toBitVec_xor]
    congr 1
    have o : (Int32.ofInt (-1)).toBitVec = BitVec.allOnes 32 := by decide
    rw [o, BitVec.xor_allOnes, BitVec.toNat_not, hiv_nat hX]
    omega
  rw [hiv_to (by rw [e]; exact Nat.lt_of_le_of_lt Nat.and_le_left hM), e]
theorem hnot_bit {M X i : Nat} (hX : X < 2 ^ 31) (hi : i < 31) : (M &&& (2 ^ 32 - (X + 1))).testBit i = (M.testBit i && !(X.testBit i)) := by
  rw [Nat.testBit_and, Nat.testBit_two_pow_sub_succ (by omega), decide_eq_true (by omega), Bool.true_and]
theorem hpop_0 : ∀ k, hpop k 0 = 0
  | 0 => rfl
  | k + 1 => by
    show 0 % 2 + hpop k (0 / 2) = 0
    rw [Nat.zero_div, hpop_0 k]
theorem hpop_lo {j k t : Nat} (h : t < 2 ^ k) : hpop (k + j) t = hpop k t := by
  rw [hpop_add, Nat.div_eq_of_lt h, hpop_0]
  rfl
theorem hpop_20 {k t : Nat} (hk : k ≤ 20) (h : t < 2 ^ k) : hpop 20 t = hpop k t := by
  have e : 20 = k + (20 - k) := by omega
  rw [e, hpop_lo h]
theorem hpop_full : ∀ k t : Nat, t < 2 ^ k → hpop k t = k → t + 1 = 2 ^ k
  | 0, t, h, _ => by
    have h : t < 1 := h
    show t + 1 = 1
    omega
  | k + 1, t, h, e => by
    rw [Nat.pow_succ] at h ⊢
    have e : t % 2 + hpop k (t / 2) = k + 1 := e
    have l := hpop_le k (t / 2)
    have := hpop_full k (t / 2) (by omega) (by omega)
    omega
theorem hpop_all : ∀ k : Nat, hpop k (2 ^ k - 1) = k
  | 0 => rfl
  | k + 1 => by
    have p : 1 ≤ 2 ^ k := Nat.one_le_two_pow
    have e2 : (2 ^ (k + 1) - 1) / 2 = 2 ^ k - 1 := by
      rw [Nat.pow_succ]
      omega
    have e1 : (2 ^ (k + 1) - 1) % 2 = 1 := by
      rw [Nat.pow_succ]
      omega
    show (2 ^ (k + 1) - 1) % 2 + hpop k ((2 ^ (k + 1) - 1) / 2) = k + 1
    rw [e1, e2, hpop_all k]
    omega
theorem hmask_or (f : Nat → Bool) (y : Nat) : hmask f y ||| 2 ^ y = hmask f y + 2 ^ y := by
  have := Nat.two_pow_add_eq_or_of_lt (hmask_lt f y) 1
  rw [Nat.mul_one] at this
  rw [Nat.or_comm, ← this, Nat.add_comm]
theorem hmask_grow32 {f : Nat → Bool} {y : Nat} (hy : y < 30) : gx_or ((hmask f y : Nat) : Int) (gx_shl 1 (y : Int)) = ((hmask f y + 2 ^ y : Nat) : Int) := by
  have l := hmask_lt f y
  have l2 : 2 ^ y < 2 ^ 31 := Nat.pow_lt_pow_right (by decide) (by omega)
  rw [hshl_one y (by omega), hor_nat (by omega) l2, hmask_or]
theorem hcnt_less {f g : Nat → Bool} {p : Nat} : ∀ k, (∀ q, q < k → f q = true → g q = true) → p < k → g p = true → f p = false → hcnt f k + 1 ≤ hcnt g k := by
  have mono : ∀ k, (∀ q, q < k → f q = true → g q = true) → hcnt f k ≤ hcnt g k := by
    intro k
    induction k with
    | zero => exact fun _ => Nat.le_refl _
    | succ k ih =>
      intro h
      have ih := ih (fun q hq => h q (by omega))
      show hcnt f k + (if f k = true then 1 else 0) ≤ hcnt g k + (if g k = true then 1 else 0)
      by_cases c : f k = true
      · rw [if_pos c, if_pos (h k (by omega) c)]
        omega
      · rw [if_neg c]
        omega
  intro k
  induction k with
  | zero => exact fun _ hp => absurd hp (Nat.not_lt_zero _)
  | succ k ih =>
    intro h hp hg hf
    show hcnt f k + (if f k = true then 1 else 0) + 1 ≤ hcnt g k + (if g k = true then 1 else 0)
    by_cases e : p = k
    · subst e
      have := mono p (fun q hq => h q (by omega))
      rw [hf, hg, if_neg (by decide), if_pos rfl]
      omega
    · have ih := ih (fun q hq => h q (by omega)) (by omega) hg hf
      by_cases c : f k = true
      · rw [if_pos c, if_pos (h k (by omega) c)]
        omega
      · rw [if_neg c]
        omega
