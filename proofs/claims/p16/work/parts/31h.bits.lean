/-! BITS of 32 bits; the library's counts of bits -/
theorem hiv_nat {X : Nat} (h : X < 2 ^ 31) : (Int32.ofInt (X : Int)).toBitVec.toNat = X := by
  rw [Int32.toBitVec_ofInt, BitVec.toNat_ofInt]
  omega
theorem hiv_to {x : Int32} (h : x.toBitVec.toNat < 2 ^ 31) : x.toInt = (x.toBitVec.toNat : Int) := by
  have e : x.toInt = x.toBitVec.toInt := rfl
  rw [e, BitVec.toInt_eq_toNat_cond, if_pos (by omega)]
theorem hand_nat {X Z : Nat} (hX : X < 2 ^ 31) (hZ : Z < 2 ^ 31) : gx_and (X : Int) (Z : Int) = ((X &&& Z : Nat) : Int) := by
  have e : (Int32.ofInt (X : Int) &&& Int32.ofInt (Z : Int)).toBitVec.toNat = X &&& Z := by
    show ((Int32.ofInt (X : Int)).toBitVec &&& (Int32.ofInt (Z : Int)).toBitVec).toNat = _
    rw [BitVec.toNat_and, hiv_nat hX, hiv_nat hZ]
  unfold gx_and
  rw [hiv_to (by rw [e]; exact Nat.lt_of_le_of_lt Nat.and_le_left hX), e]
theorem hor_nat {X Z : Nat} (hX : X < 2 ^ 31) (hZ : Z < 2 ^ 31) : gx_or (X : Int) (Z : Int) = ((X ||| Z : Nat) : Int) := by
  have e : (Int32.ofInt (X : Int) ||| Int32.ofInt (Z : Int)).toBitVec.toNat = X ||| Z := by
    show ((Int32.ofInt (X : Int)).toBitVec ||| (Int32.ofInt (Z : Int)).toBitVec).toNat = _
    rw [BitVec.toNat_or, hiv_nat hX, hiv_nat hZ]
  unfold gx_or
  rw [hiv_to (by rw [e]; exact Nat.or_lt_two_pow hX hZ), e]
theorem hi_amt : ∀ y : Nat, y < 32 → ((Int32.ofInt (y : Int)).toUInt32 &&& Int32.toUInt32 31) = UInt32.ofNat y := by decide +kernel
theorem hi_sam : ∀ y : Nat, y < 32 → ((Int32.ofInt (y : Int) &&& 31).toBitVec.smod 32).toNat = y := by decide +kernel
theorem hushr_nat {X y : Nat} (hX : X < 2 ^ 31) (hy : y < 32) : hushr (X : Int) (y : Int) = ((X / 2 ^ y : Nat) : Int) := by
  unfold hushr
  rw [hi_amt y hy]
  have e : ((Int32.ofInt (X : Int)).toUInt32 >>> UInt32.ofNat y).toInt32.toBitVec.toNat = X / 2 ^ y := by
    show ((Int32.ofInt (X : Int)).toUInt32 >>> UInt32.ofNat y).toNat = _
    rw [UInt32.toNat_shiftRight, UInt32.toNat_ofNat']
    have e1 : (Int32.ofInt (X : Int)).toUInt32.toNat = X := hiv_nat hX
    rw [e1, Nat.mod_eq_of_lt (show y % 2 ^ 32 < 32 by omega), Nat.mod_eq_of_lt (show y < 2 ^ 32 by omega), Nat.shiftRight_eq_div_pow]
  have hl : X / 2 ^ y ≤ X := Nat.div_le_self _ _
  rw [hiv_to (by rw [e]; omega), e]
theorem hshr_nat {X y : Nat} (hX : X < 2 ^ 31) (hy : y < 32) : gx_shr (X : Int) (y : Int) = ((X / 2 ^ y : Nat) : Int) := by
  unfold gx_shr
  have hl : X / 2 ^ y ≤ X := Nat.div_le_self _ _
  have e : (Int32.ofInt (X : Int) >>> (Int32.ofInt (y : Int) &&& 31)).toInt = (((Int32.ofInt (X : Int)).toBitVec).sshiftRight' ((Int32.ofInt (y : Int) &&& 31).toBitVec.smod 32)).toInt := rfl
  rw [e, BitVec.toInt_sshiftRight', hi_sam y hy]
  have e1 : (Int32.ofInt (X : Int)).toBitVec.toInt = (X : Int) := by
    rw [BitVec.toInt_eq_toNat_cond, hiv_nat hX, if_pos (by omega)]
  rw [e1, Int.shiftRight_eq_div_pow]
  norm_cast
theorem hshl_one : ∀ y : Nat, y < 31 → gx_shl 1 (y : Int) = ((2 ^ y : Nat) : Int) := by decide +kernel
theorem hibit {X y : Nat} (hX : X < 2 ^ 31) (hy : y < 32) : gx_and (gx_shr (X : Int) (y : Int)) 1 = if X.testBit y = true then 1 else 0 := by
  rw [hshr_nat hX hy]
  have hl : X / 2 ^ y ≤ X := Nat.div_le_self _ _
  have e1 : gx_and ((X / 2 ^ y : Nat) : Int) ((1 : Nat) : Int) = ((X / 2 ^ y &&& 1 : Nat) : Int) := hand_nat (by omega) (by omega)
  have e2 : ((1 : Nat) : Int) = 1 := rfl
  rw [e2] at e1
  rw [e1, Nat.and_one_is_mod, hbit_eq]
  split <;> rfl
theorem hlw_id {x : Int} (h1 : -9223372036854775808 ≤ x) (h2 : x < 9223372036854775808) : hlw x = x := by unfold hlw; omega
