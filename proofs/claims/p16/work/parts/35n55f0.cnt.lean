/-! counting: one more place -/
theorem hcnt_t {f : Nat → Bool} {k : Nat} (h : f k = true) : ((hcnt f (k + 1) : Nat) : Int) = ((hcnt f k : Nat) : Int) + 1 := by
  show ((hcnt f k + (if f k = true then 1 else 0) : Nat) : Int) = _
  rw [if_pos h]
  omega
theorem hcnt_f {f : Nat → Bool} {k : Nat} (h : f k = false) : ((hcnt f (k + 1) : Nat) : Int) = ((hcnt f k : Nat) : Int) + 0 := by
  show ((hcnt f k + (if f k = true then 1 else 0) : Nat) : Int) = _
  rw [if_neg (by rw [h]; decide)]
  omega
theorem hcnt_f0 {f : Nat → Bool} {k : Nat} (h : f k = false) : ((hcnt f (k + 1) : Nat) : Int) = ((hcnt f k : Nat) : Int) := by
  have := hcnt_f h
  omega
