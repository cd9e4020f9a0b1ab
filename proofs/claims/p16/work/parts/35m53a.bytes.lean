/-! bytes of an int, as both put them on the tape -/
theorem tb_id {v : Int} (h : hB v) : (Int32.ofInt v).toInt = v := by
  unfold hB at h
  have e0 : (Int32.ofInt v).toInt = v.bmod (2 ^ 32) := Int32.toInt_ofInt
  have e1 : ((2 ^ 32 : Nat) : Int) = 4294967296 := by decide
  rw [e0, Int.bmod_def, e1]
  split <;> omega
theorem tb_nat (v : Int) : (Int32.ofInt v).toBitVec.toNat = (v % 4294967296).toNat := by
  have e1 : ((2 ^ 32 : Nat) : Int) = 4294967296 := by decide
  rw [Int32.toBitVec_ofInt, BitVec.toNat_ofInt, e1]
theorem tb_and0 (z : Int32) : gx_and z.toInt 255 = ((z.toBitVec.toNat % 256 : Nat) : Int) := by
  have e : (Int32.ofInt z.toInt &&& Int32.ofInt 255).toBitVec.toNat = z.toBitVec.toNat % 256 := by
    rw [Int32.ofInt_toInt]
    show (z.toBitVec &&& (Int32.ofInt 255).toBitVec).toNat = _
    have e2 : (Int32.ofInt 255).toBitVec.toNat = 2 ^ 8 - 1 := by decide
    rw [BitVec.toNat_and, e2, Nat.and_two_pow_sub_one_eq_mod]
  unfold gx_and
  rw [hiv_to (by rw [e]; omega), e]
theorem tb_and {v : Int} (h : hB v) : gx_and v 255 = v % 256 := by
  have := tb_and0 (Int32.ofInt v)
  rw [tb_id h, tb_nat] at this
  rw [this]
  omega
theorem tb_b8 {x : Int} (h : hB x) : hi2b x = (x + 128) % 256 - 128 := by
  unfold hi2b
  have e1 : ((2 ^ 8 : Nat) : Int) = 256 := by decide
  rw [Int8.toInt_toInt32, Int32.toInt_toInt8, tb_id h, Int.bmod_def, e1]
  split <;> omega
theorem tb_by {x : Int} (h : hB x) : hbyte x = (x + 128) % 256 - 128 := by
  unfold hbyte
  rw [vp_nar_byte]
  exact tb_b8 h
theorem tb_shr {v : Int} (h : hB v) {s : Nat} (hs : s < 32) : gx_shr v (s : Int) = v / ((2 ^ s : Nat) : Int) := by
  unfold gx_shr
  have e : (Int32.ofInt v >>> (Int32.ofInt (s : Int) &&& 31)).toInt = (((Int32.ofInt v).toBitVec).sshiftRight' ((Int32.ofInt (s : Int) &&& 31).toBitVec.smod 32)).toInt := rfl
  have e1 : (Int32.ofInt v).toBitVec.toInt = v := tb_id h
  rw [e, BitVec.toInt_sshiftRight', hi_sam s hs, e1, Int.shiftRight_eq_div_pow]
theorem tb_ush {v : Int} {s : Nat} (hs : s < 32) : gx_and (hushr v (s : Int)) 255 = (((v % 4294967296).toNat / 2 ^ s % 256 : Nat) : Int) := by
  have e : ((Int32.ofInt v).toUInt32 >>> UInt32.ofNat s).toInt32.toBitVec.toNat = (v % 4294967296).toNat / 2 ^ s := by
    show ((Int32.ofInt v).toUInt32 >>> UInt32.ofNat s).toNat = _
    rw [UInt32.toNat_shiftRight, UInt32.toNat_ofNat']
    have e1 : (Int32.ofInt v).toUInt32.toNat = (v % 4294967296).toNat := tb_nat v
    rw [e1, Nat.mod_eq_of_lt (show s % 2 ^ 32 < 32 by omega), Nat.mod_eq_of_lt (show s < 2 ^ 32 by omega), Nat.shiftRight_eq_div_pow]
  unfold hushr
  rw [hi_amt s hs, tb_and0, e]
/-- the byte i of an int, from the highest on -/
def tb4 (v : Int) (i : Nat) : Int := gx_and (hushr v ((24 - 8 * i : Nat) : Int)) 255
theorem tb_same {v : Int} (h : hB v) {i : Nat} (hi : i < 4) : gx_and (hbyte (hi2b (gx_shr v ((24 - 8 * i : Nat) : Int)))) 255 = tb4 v i := by
  unfold tb4
  have hb := h
  unfold hB at hb
  rw [tb_shr h (by omega), tb_ush (by omega)]
  have k : i = 0 ∨ i = 1 ∨ i = 2 ∨ i = 3 := by omega
  rcases k with rfl | rfl | rfl | rfl
  · have e : ((2 ^ (24 - 8 * 0) : Nat) : Int) = 16777216 := by decide
    have e2 : (2 : Nat) ^ (24 - 8 * 0) = 16777216 := by decide
    rw [e, e2, tb_b8 (by unfold hB; omega), tb_by (by unfold hB; omega), tb_and (by unfold hB; omega)]
    omega
  · have e : ((2 ^ (24 - 8 * 1) : Nat) : Int) = 65536 := by decide
    have e2 : (2 : Nat) ^ (24 - 8 * 1) = 65536 := by decide
    rw [e, e2, tb_b8 (by unfold hB; omega), tb_by (by unfold hB; omega), tb_and (by unfold hB; omega)]
    omega
  · have e : ((2 ^ (24 - 8 * 2) : Nat) : Int) = 256 := by decide
    have e2 : (2 : Nat) ^ (24 - 8 * 2) = 256 := by decide
    rw [e, e2, tb_b8 (by unfold hB; omega), tb_by (by unfold hB; omega), tb_and (by unfold hB; omega)]
    omega
  · have e : ((2 ^ (24 - 8 * 3) : Nat) : Int) = 1 := by decide
    have e2 : (2 : Nat) ^ (24 - 8 * 3) = 1 := by decide
    rw [e, e2, tb_b8 (by unfold hB; omega), tb_by (by unfold hB; omega), tb_and (by unfold hB; omega)]
    omega
