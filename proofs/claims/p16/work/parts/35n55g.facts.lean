/-! what a letter stands for -/
def aOwn (s : Nat → Int) (p : Int) (y : Nat) : Bool := decide (s (440 + y) = 1) && decide (s (240 + y) = p)
def aKn (s : Nat → Int) (p w : Int) (y : Nat) : Bool := aOwn s p y && !(decide ((y : Int) = w))
def hOr (f : Nat → Bool) (v : Nat → Int) : Nat → Int
  | 0 => 0
  | k + 1 => if f k = true then gx_or (hOr f v k) (v k) else hOr f v k
theorem hOr_t {f : Nat → Bool} {v : Nat → Int} {k : Nat} (h : f k = true) : hOr f v (k + 1) = gx_or (hOr f v k) (v k) := if_pos h
theorem hOr_f {f : Nat → Bool} {v : Nat → Int} {k : Nat} (h : f k = false) : hOr f v (k + 1) = hOr f v k := if_neg (by rw [h]; decide)
theorem hOr_ext {f g : Nat → Bool} {v w : Nat → Int} : ∀ k, (∀ j, j < k → f j = g j) → (∀ j, j < k → v j = w j) → hOr f v k = hOr g w k
  | 0, _, _ => rfl
  | k + 1, h1, h2 => by
    show (if f k = true then gx_or (hOr f v k) (v k) else hOr f v k) = (if g k = true then gx_or (hOr g w k) (w k) else hOr g w k)
    rw [h1 k (by omega), h2 k (by omega), hOr_ext k (fun j hj => h1 j (by omega)) (fun j hj => h2 j (by omega))]
theorem hmask_t {f : Nat → Bool} {k : Nat} (h : f k = true) : hmask f (k + 1) = hmask f k + 2 ^ k := by
  show hmask f k + (if f k = true then 2 ^ k else 0) = _
  rw [if_pos h]
theorem hmask_f {f : Nat → Bool} {k : Nat} (h : f k = false) : hmask f (k + 1) = hmask f k := by
  show hmask f k + (if f k = true then 2 ^ k else 0) = _
  rw [if_neg (by rw [h]; decide)]
  rfl
theorem hOr_bd {f : Nat → Bool} {v : Nat → Int} : ∀ k, (∀ j, j < k → 0 ≤ v j ∧ v j ≤ 4095) → ∃ X : Nat, hOr f v k = (X : Int) ∧ X < 4096
  | 0, _ => ⟨0, rfl, by decide⟩
  | k + 1, h => by
    obtain ⟨X, e, hX⟩ := hOr_bd (f := f) k (fun j hj => h j (by omega))
    have hv := h k (by omega)
    by_cases c : f k = true
    · obtain ⟨Y, hY⟩ : ∃ Y : Nat, v k = (Y : Int) := ⟨(v k).toNat, by omega⟩
      rw [hOr_t c, e, hY, hor_nat (by omega) (by omega)]
      exact ⟨_, rfl, Nat.or_lt_two_pow (n := 12) hX (by omega)⟩
    · rw [hOr_f (by simpa using c), e]
      exact ⟨X, rfl, hX⟩
section FB5
variable {xs : List Int32} {n : Nat} {Q : hQ} {m : gx_M} {p : Int}
theorem hs60 {s : Nat → Int} (h1 : m 5 1 = ((hmask (fun y => decide (s (440 + y) = 1)) 40 : Nat) : Int)) (h2 : ∀ y, y < 40 → m 12 y = s (240 + y)) (h : Q (some (.inr (.inr ((hmask (aOwn s p) 40 : Nat) : Int)))) m) : hxn xs n yp_m60 0 [(0, .inr (.inl 5)), (1, .inl p)] [] m Q := by
  have hl : ∀ d k : Nat, k + d = 40 → hxn xs n yp_m60 5 [(0, .inr (.inl 5)), (1, .inl p), (2, .inr (.inr ((hmask (aOwn s p) k : Nat) : Int))), (4, .inl (k : Int))] [] m Q := by
    intro d
    induction d with
    | zero =>
      intro k hk
      have e : k = 40 := by omega
      subst e
      exact hx_dn (hr60_5 (fun _ => h) (fun c => absurd c (by omega)) (fun c => absurd c (by omega)) (fun c => absurd c (by omega)))
    | succ d ih =>
      intro k hk
      have hi := ih (k + 1) (by omega)
      have hb : hlcmp (hland (hlushr (m 5 1) (k : Int)) 1) 0 = if decide (s (440 + k) = 1) = true then 1 else 0 := by
        rw [h1]
        exact hmask_test (by omega)
      have ho := h2 k (by omega)
      refine hx_dn (hr60_5 (fun c => absurd c (by omega)) (fun _ c => ?_) (fun _ c1 c2 => ?_) (fun _ c1 c2 => ?_))
      · rw [ew_u (by omega)]
        rw [hb] at c
        have hf : aOwn s p k = false := by
          unfold aOwn
          split at c
          · cases c
          · rename_i g
            rw [Bool.eq_false_iff.mpr g, Bool.false_and]
        rw [hmask_f hf] at hi
        exact hi
      · rw [ew_u (by omega)]
        rw [Int.toNat_natCast, ho] at c2
        have hf : aOwn s p k = false := by
          unfold aOwn
          rw [decide_eq_false c2, Bool.and_false]
        rw [hmask_f hf] at hi
        exact hi
      · rw [ew_u (by omega), hmask_grow (by omega)]
        rw [Int.toNat_natCast, ho] at c2
        rw [hb] at c1
        have hf : aOwn s p k = true := by
          unfold aOwn
          split at c1
          · rename_i g
            rw [g, decide_eq_true c2]
            rfl
          · exact absurd rfl c1
        rw [hmask_t hf] at hi
        exact hi
  exact hx_dn (hr60_0 (hl 40 0 rfl))
theorem hs64 {f : Nat → Bool} {v : Nat → Int} (h2 : ∀ y, y < 40 → m 9 y = v y) (h : Q (some (.inl (hOr f v 40))) m) : hxn xs n yp_m64 0 [(0, .inr (.inl 5)), (1, .inr (.inr ((hmask f 40 : Nat) : Int)))] [] m Q := by
  have hl : ∀ d k : Nat, k + d = 40 → hxn xs n yp_m64 5 [(0, .inr (.inl 5)), (1, .inr (.inr ((hmask f 40 : Nat) : Int))), (3, .inl (hOr f v k)), (4, .inl (k : Int))] [] m Q := by
    intro d
    induction d with
    | zero =>
      intro k hk
      have e : k = 40 := by omega
      subst e
      exact hx_dn (hr64_5 (fun _ => h) (fun c => absurd c (by omega)) (fun c => absurd c (by omega)))
    | succ d ih =>
      intro k hk
      have hi := ih (k + 1) (by omega)
      have hb : hlcmp (hland (hlushr ((hmask f 40 : Nat) : Int) (k : Int)) 1) 0 = if f k = true then 1 else 0 := hmask_test (by omega)
      refine hx_dn (hr64_5 (fun c => absurd c (by omega)) (fun _ c => ?_) (fun _ c => ?_))
      · rw [ew_u (by omega)]
        rw [hb] at c
        have hf : f k = false := by
          split at c
          · cases c
          · rename_i g
            exact Bool.eq_false_iff.mpr g
        rw [hOr_f hf] at hi
        exact hi
      · rw [ew_u (by omega), Int.toNat_natCast, h2 k (by omega)]
        rw [hb] at c
        have hf : f k = true := by
          split at c
          · assumption
          · exact absurd rfl c
        rw [hOr_t hf] at hi
        exact hi
  exact hx_dn (hr64_0 (hl 40 0 rfl))
end FB5
section FB31
variable {xs : List Int32} {n : Nat} {Q : hQ} {m : gx_M} {p : Int}
theorem hs31_60 {s : Nat → Int} (h1 : m 31 1 = ((hmask (fun y => decide (s (440 + y) = 1)) 40 : Nat) : Int)) (h2 : ∀ y, y < 40 → m 38 y = s (240 + y)) (h : Q (some (.inr (.inr ((hmask (aOwn s p) 40 : Nat) : Int)))) m) : hxn xs n yp_m60 0 [(0, .inr (.inl 31)), (1, .inl p)] [] m Q := by
  have hl : ∀ d k : Nat, k + d = 40 → hxn xs n yp_m60 5 [(0, .inr (.inl 31)), (1, .inl p), (2, .inr (.inr ((hmask (aOwn s p) k : Nat) : Int))), (4, .inl (k : Int))] [] m Q := by
    intro d
    induction d with
    | zero =>
      intro k hk
      have e : k = 40 := by omega
      subst e
      exact hx_dn (hr31_60_5 (fun _ => h) (fun c => absurd c (by omega)) (fun c => absurd c (by omega)) (fun c => absurd c (by omega)))
    | succ d ih =>
      intro k hk
      have hi := ih (k + 1) (by omega)
      have hb : hlcmp (hland (hlushr (m 31 1) (k : Int)) 1) 0 = if decide (s (440 + k) = 1) = true then 1 else 0 := by
        rw [h1]
        exact hmask_test (by omega)
      have ho := h2 k (by omega)
      refine hx_dn (hr31_60_5 (fun c => absurd c (by omega)) (fun _ c => ?_) (fun _ c1 c2 => ?_) (fun _ c1 c2 => ?_))
      · rw [ew_u (by omega)]
        rw [hb] at c
        have hf : aOwn s p k = false := by
          unfold aOwn
          split at c
          · cases c
          · rename_i g
            rw [Bool.eq_false_iff.mpr g, Bool.false_and]
        rw [hmask_f hf] at hi
        exact hi
      · rw [ew_u (by omega)]
        rw [Int.toNat_natCast, ho] at c2
        have hf : aOwn s p k = false := by
          unfold aOwn
          rw [decide_eq_false c2, Bool.and_false]
        rw [hmask_f hf] at hi
        exact hi
      · rw [ew_u (by omega), hmask_grow (by omega)]
        rw [Int.toNat_natCast, ho] at c2
        rw [hb] at c1
        have hf : aOwn s p k = true := by
          unfold aOwn
          split at c1
          · rename_i g
            rw [g, decide_eq_true c2]
            rfl
          · exact absurd rfl c1
        rw [hmask_t hf] at hi
        exact hi
  exact hx_dn (hr31_60_0 (hl 40 0 rfl))
theorem hs31_64 {f : Nat → Bool} {v : Nat → Int} (h2 : ∀ y, y < 40 → m 35 y = v y) (h : Q (some (.inl (hOr f v 40))) m) : hxn xs n yp_m64 0 [(0, .inr (.inl 31)), (1, .inr (.inr ((hmask f 40 : Nat) : Int)))] [] m Q := by
  have hl : ∀ d k : Nat, k + d = 40 → hxn xs n yp_m64 5 [(0, .inr (.inl 31)), (1, .inr (.inr ((hmask f 40 : Nat) : Int))), (3, .inl (hOr f v k)), (4, .inl (k : Int))] [] m Q := by
    intro d
    induction d with
    | zero =>
      intro k hk
      have e : k = 40 := by omega
      subst e
      exact hx_dn (hr31_64_5 (fun _ => h) (fun c => absurd c (by omega)) (fun c => absurd c (by omega)))
    | succ d ih =>
      intro k hk
      have hi := ih (k + 1) (by omega)
      have hb : hlcmp (hland (hlushr ((hmask f 40 : Nat) : Int) (k : Int)) 1) 0 = if f k = true then 1 else 0 := hmask_test (by omega)
      refine hx_dn (hr31_64_5 (fun c => absurd c (by omega)) (fun _ c => ?_) (fun _ c => ?_))
      · rw [ew_u (by omega)]
        rw [hb] at c
        have hf : f k = false := by
          split at c
          · cases c
          · rename_i g
            exact Bool.eq_false_iff.mpr g
        rw [hOr_f hf] at hi
        exact hi
      · rw [ew_u (by omega), Int.toNat_natCast, h2 k (by omega)]
        rw [hb] at c
        have hf : f k = true := by
          split at c
          · assumption
          · exact absurd rfl c
        rw [hOr_t hf] at hi
        exact hi
  exact hx_dn (hr31_64_0 (hl 40 0 rfl))
end FB31
section FR
variable {xs : List Int32} {n : Nat} {Q : hQ} {m : gx_M} {p w : Int}
theorem hs205 {k : Nat} (hk : k < 40) (hT : m 87 (440 + k) = 0 ∨ m 87 (440 + k) = 1) (h : Q (some (.inl (if aOwn (m 87) p k = true then 1 else 0))) m) : hxn xs n yp_m205 0 [(0, .inr (.inl 86)), (1, .inl (k : Int)), (2, .inl p)] [] m Q := by
  have e1 : (gx_w (440 + (k : Int))).toNat = 440 + k := by
    rw [gx_w_id (by omega) (by omega)]
    omega
  have e2 : (gx_w (240 + (k : Int))).toNat = 240 + k := by
    rw [gx_w_id (by omega) (by omega)]
    omega
  unfold aOwn at h
  refine hx_dn (hr205_0 (fun c1 c2 => ?_) (fun c1 c2 => ?_) (fun c1 => ?_))
  · rw [e2] at c2
    rw [decide_eq_false c2, Bool.and_false] at h
    exact h
  · rw [e1] at c1
    rw [e2] at c2
    rw [decide_eq_true c2, decide_eq_true (by omega : m 87 (440 + k) = 1)] at h
    exact h
  · rw [e1] at c1
    rw [decide_eq_false (by omega : ¬ m 87 (440 + k) = 1), Bool.false_and] at h
    exact h
theorem hs206 {X : Nat} (hX : X < 2 ^ 31) (h : Q (some (.inl ((hpop 20 X : Nat) : Int))) m) : hxn xs n yp_m206 0 [(0, .inl (X : Int))] [] m Q := by
  have hc : hpop 20 X = hcnt (fun j => X.testBit j) 20 := hcnt_pop _ 20 X (fun _ _ => rfl)
  rw [hc] at h
  have hl : ∀ d k : Nat, k + d = 20 → hxn xs n yp_m206 4 [(0, .inl (X : Int)), (1, .inl ((hcnt (fun j => X.testBit j) k : Nat) : Int)), (2, .inl (k : Int))] [] m Q := by
    intro d
    induction d with
    | zero =>
      intro k hk
      have e : k = 20 := by omega
      subst e
      exact hx_dn (hr206_4 (fun _ => h) (fun c => absurd c (by omega)))
    | succ d ih =>
      intro k hk
      have hi := ih (k + 1) (by omega)
      have hle := hcnt_le (fun j => X.testBit j) k
      refine hx_dn (hr206_4 (fun c => absurd c (by omega)) (fun _ => ?_))
      rw [ew_u (by omega), hibit hX (by omega)]
      by_cases c : X.testBit k = true
      · rw [if_pos c, gx_w_id (by omega) (by omega)]
        rw [hcnt_t c] at hi
        exact hi
      · rw [if_neg c, gx_w_id (by omega) (by omega)]
        rw [hcnt_f (by simpa using c)] at hi
        exact hi
  exact hx_dn (hr206_0 (hl 20 0 rfl))
theorem hs204 (hT : ∀ y, y < 40 → m 87 (440 + y) = 0 ∨ m 87 (440 + y) = 1) (h : Q (some (.inl ((hcnt (aOwn (m 87) p) 40 : Nat) : Int))) m) : hxn xs n yp_m204 0 [(0, .inr (.inl 86)), (1, .inl p)] [] m Q := by
  have hl : ∀ d k : Nat, k + d = 40 → hxn xs n yp_m204 4 [(0, .inr (.inl 86)), (1, .inl p), (2, .inl ((hcnt (aOwn (m 87) p) k : Nat) : Int)), (3, .inl (k : Int))] [] m Q := by
    intro d
    induction d with
    | zero =>
      intro k hk
      have e : k = 40 := by omega
      subst e
      exact hx_dn (hr204_4 (fun _ => h) (fun c => absurd c (by omega)))
    | succ d ih =>
      intro k hk
      have hi := ih (k + 1) (by omega)
      have hle := hcnt_le (aOwn (m 87) p) k
      refine hx_dn (hr204_4 (fun c => absurd c (by omega)) (fun _ => ?_))
      refine hs205 (by omega) (hT k (by omega)) ?_
      show hxn xs n yp_m204 17 _ [.inl (if aOwn (m 87) p k = true then 1 else 0), .inl _] m Q
      by_cases c : aOwn (m 87) p k = true
      · rw [if_pos c]
        refine hx_dn (hr204_17 (fun c => absurd c (by decide)) (fun _ => ?_))
        rw [ew_u (by omega), gx_w_id (by omega) (by omega)]
        rw [hcnt_t c] at hi
        exact hi
      · rw [if_neg c]
        refine hx_dn (hr204_17 (fun _ => ?_) (fun c => absurd rfl c))
        rw [ew_u (by omega), gx_w_id (by omega) (by omega)]
        rw [hcnt_f (by simpa using c)] at hi
        exact hi
  exact hx_dn (hr204_0 (hl 40 0 rfl))
theorem hs207 (hT : ∀ y, y < 40 → m 87 (440 + y) = 0 ∨ m 87 (440 + y) = 1) (h : Q (some (.inl (hOr (aKn (m 87) p w) (fun j => m 87 (80 + j)) 40))) m) : hxn xs n yp_m207 0 [(0, .inr (.inl 86)), (1, .inl p), (2, .inl w)] [] m Q := by
  have hl : ∀ d k : Nat, k + d = 40 → hxn xs n yp_m207 5 [(0, .inr (.inl 86)), (1, .inl p), (2, .inl w), (3, .inl (hOr (aKn (m 87) p w) (fun j => m 87 (80 + j)) k)), (4, .inl (k : Int))] [] m Q := by
    intro d
    induction d with
    | zero =>
      intro k hk
      have e : k = 40 := by omega
      subst e
      exact hx_dn (hr207_5 (fun _ => h) (fun c => absurd c (by omega)) (fun c => absurd c (by omega)))
    | succ d ih =>
      intro k hk
      have hi := ih (k + 1) (by omega)
      refine hx_dn (hr207_5 (fun c => absurd c (by omega)) (fun _ c => ?_) (fun _ c => ?_))
      · rw [ew_u (by omega)]
        have hf : aKn (m 87) p w k = false := by
          unfold aKn
          rw [decide_eq_true c, Bool.not_true, Bool.and_false]
        rw [hOr_f hf] at hi
        exact hi
      · refine hs205 (by omega) (hT k (by omega)) ?_
        show hxn xs n yp_m207 25 _ [.inl (if aOwn (m 87) p k = true then 1 else 0)] m Q
        by_cases c2 : aOwn (m 87) p k = true
        · rw [if_pos c2]
          refine hx_dn (hr207_25 (fun c => absurd c (by decide)) (fun _ => ?_))
          have e : (gx_w (80 + (k : Int))).toNat = 80 + k := by
            rw [gx_w_id (by omega) (by omega)]
            omega
          rw [ew_u (by omega), e]
          have hf : aKn (m 87) p w k = true := by
            unfold aKn
            rw [c2, decide_eq_false c]
            rfl
          rw [hOr_t hf] at hi
          exact hi
        · rw [if_neg c2]
          refine hx_dn (hr207_25 (fun _ => ?_) (fun c => absurd rfl c))
          rw [ew_u (by omega)]
          have hf : aKn (m 87) p w k = false := by
            unfold aKn
            rw [Bool.eq_false_iff.mpr c2, Bool.false_and]
          rw [hOr_f hf] at hi
          exact hi
  exact hx_dn (hr207_0 (hl 40 0 rfl))
end FR
