/-! who has had a year, who holds one: by both -/
def hAnyB (f : Nat → Bool) : Nat → Bool
  | 0 => false
  | k + 1 => hAnyB f k || f k
theorem hAnyB_iff {f : Nat → Bool} : ∀ {k : Nat}, hAnyB f k = true ↔ ∃ j, j < k ∧ f j = true
  | 0 => ⟨fun h => (nomatch h), fun ⟨j, h, _⟩ => absurd h (Nat.not_lt_zero _)⟩
  | k + 1 => by
    show (hAnyB f k || f k) = true ↔ _
    rw [Bool.or_eq_true, hAnyB_iff]
    constructor
    · rintro (⟨j, h1, h2⟩ | h)
      · exact ⟨j, by omega, h2⟩
      · exact ⟨k, by omega, h⟩
    · rintro ⟨j, h1, h2⟩
      by_cases e : j = k
      · subst e
        exact .inr h2
      · exact .inl ⟨j, by omega, h2⟩
theorem hAnyB_f {f : Nat → Bool} {k : Nat} (h : ∀ j, j < k → f j = false) : hAnyB f k = false := by
  rw [Bool.eq_false_iff]
  intro q
  obtain ⟨j, h1, h2⟩ := hAnyB_iff.mp q
  rw [h j h1] at h2
  cases h2
def aHad (s : Nat → Int) (p : Int) (y : Nat) : Bool := decide (s (440 + y) = 1) && hAnyB (fun k => decide (s (480 + (16 * y + k)) = p)) (s (400 + y)).toNat
def aHeld (s : Nat → Int) (p : Int) (y : Nat) : Bool := decide (s (440 + y) = 1) && decide (s (280 + y) = p)
def hgr (s : Nat → Int) (y : Nat) : Nat → Nat
  | 0 => 0
  | k + 1 => hgr s y k ||| 2 ^ (s (480 + (16 * y + k))).toNat
def hGr (s : Nat → Int) (y : Nat) : Nat := if s (440 + y) = 1 then hgr s y (s (400 + y)).toNat else 0
theorem p2_lt {P : Nat} (h : P < 8) : 2 ^ P < 256 := by
  have : P = 0 ∨ P = 1 ∨ P = 2 ∨ P = 3 ∨ P = 4 ∨ P = 5 ∨ P = 6 ∨ P = 7 := by omega
  rcases this with rfl | rfl | rfl | rfl | rfl | rfl | rfl | rfl <;> decide
section SH
variable {s : Nat → Int} {y : Nat}
theorem hgr_lt (hs : sOK s) (hy : y < 40) : ∀ k, k ≤ 16 → hgr s y k < 256
  | 0, _ => by show 0 < 256; decide
  | k + 1, hk => by
    have ih := hgr_lt hs hy k (by omega)
    have hh := hs.hand (16 * y + k) (by omega)
    exact Nat.or_lt_two_pow (n := 8) ih (p2_lt (by omega))
theorem hgr_bit (hs : sOK s) (hy : y < 40) {p : Nat} : ∀ k, k ≤ 16 → (hgr s y k).testBit p = hAnyB (fun k => decide (s (480 + (16 * y + k)) = (p : Int))) k
  | 0, _ => Nat.zero_testBit p
  | k + 1, hk => by
    have ih := hgr_bit hs hy (p := p) k (by omega)
    have hh := hs.hand (16 * y + k) (by omega)
    show (hgr s y k ||| 2 ^ (s (480 + (16 * y + k))).toNat).testBit p = (hAnyB (fun k => decide (s (480 + (16 * y + k)) = (p : Int))) k || decide (s (480 + (16 * y + k)) = (p : Int)))
    rw [Nat.testBit_or, ih, Nat.testBit_two_pow]
    congr 1
    exact decide_eq_decide.mpr ⟨fun e => by omega, fun e => by omega⟩
theorem hGr_lt (hs : sOK s) (hy : y < 40) : hGr s y < 256 := by
  have hm := hs.many y hy
  unfold hGr
  split
  · exact hgr_lt hs hy _ (by omega)
  · decide
theorem hGr_bit (hs : sOK s) (hy : y < 40) {p : Nat} : (hGr s y).testBit p = aHad s (p : Int) y := by
  have hm := hs.many y hy
  unfold hGr aHad
  split
  · rename_i h
    rw [decide_eq_true h, Bool.true_and]
    exact hgr_bit hs hy _ (by omega)
  · rename_i h
    rw [decide_eq_false h, Bool.false_and]
    exact Nat.zero_testBit p
theorem hGr_tst (hs : sOK s) (hy : y < 40) {p : Nat} (hp : p < 8) : gx_and (gx_shr ((hGr s y : Nat) : Int) (p : Int)) 1 = if aHad s (p : Int) y = true then 1 else 0 := by
  have := hGr_lt hs hy
  rw [hibit (by omega) (by omega), hGr_bit hs hy]
end SH
section SC
variable {xs : List Int32} {n : Nat} {Q : hQ} {s : Nat → Int} {m : gx_M} {Y : Nat}
theorem c77 (hs : sOK s) (hB : sBk 5 s m) (hY : Y < 40) (h : Q (some (.inl ((hGr s Y : Nat) : Int))) m) : hxn xs n yp_m77 0 [(0, .inr (.inl 5)), (1, .inl (Y : Int))] [] m Q := by
  have hm := hs.many Y hY
  unfold hGr at h
  refine hx_dn (hr77_0 (fun c => ?_) (fun c => ?_))
  · rw [if_pos ((cY_iff hB hY).mp c)] at h
    have hl := hloop (N := (s (400 + Y)).toNat) (P := fun k => hxn xs n yp_m77 14 [(0, .inr (.inl 5)), (1, .inl (Y : Int)), (2, .inl ((hgr s Y k : Nat) : Int)), (3, .inl (k : Int))] [] m Q) (hx_dn (hr77_14 (fun _ => h) (fun _ _ => h) (fun _ c => ?_))) (fun k hk ih => ?_) 0 (Nat.zero_le _)
    · exact hl
    · rw [Int.toNat_natCast, sB5_many hB Y hY] at c
      exact absurd c (by omega)
    · have hh := hs.hand (16 * Y + k) (by omega)
      have hg := hgr_lt hs hY k (by omega)
      have e2 := p2_lt (P := (s (480 + (16 * Y + k))).toNat) (by omega)
      refine hx_dn (hr77_14 (fun c => absurd c (by omega)) (fun _ c => ?_) (fun _ _ => ?_))
      · rw [Int.toNat_natCast, sB5_many hB Y hY] at c
        exact absurd c (by omega)
      · have ei : (gx_w ((gx_w ((Y : Int) * 16)) + (k : Int))).toNat = 16 * Y + k := by
          rw [gx_w_id (x := (Y : Int) * 16) (by omega) (by omega), gx_w_id (by omega) (by omega)]
          omega
        obtain ⟨H, hH⟩ : ∃ H : Nat, s (480 + (16 * Y + k)) = (H : Int) := ⟨(s (480 + (16 * Y + k))).toNat, by omega⟩
        have ih : hxn xs n yp_m77 14 [(0, .inr (.inl 5)), (1, .inl (Y : Int)), (2, .inl ((hgr s Y k ||| 2 ^ (s (480 + (16 * Y + k))).toNat : Nat) : Int)), (3, .inl ((k + 1 : Nat) : Int))] [] m Q := ih
        rw [hH, Int.toNat_natCast] at ih e2
        rw [ei, sB5_hand hB _ (by omega), hH, hshl_one H (by omega), hor_nat (by omega) (by omega), ew_u (by omega)]
        exact ih
  · rw [if_neg (fun q => c ((cY_iff hB hY).mpr q))] at h
    exact h
theorem c76 {p : Nat} (hp : p < 8) (hs : sOK s) (hB : sBk 5 s m) (h : Q (some (.inr (.inr ((hmask (aHad s (p : Int)) 40 : Nat) : Int)))) m) : hxn xs n yp_m76 0 [(0, .inr (.inl 5)), (1, .inl (p : Int))] [] m Q := by
  have hl := hloop (N := 40) (P := fun y => hxn xs n yp_m76 5 [(0, .inr (.inl 5)), (1, .inl (p : Int)), (2, .inr (.inr ((hmask (aHad s (p : Int)) y : Nat) : Int))), (4, .inl (y : Int))] [] m Q) (hx_dn (hr76_5 (fun _ => h) (fun c => absurd c (by decide)))) (fun y hy ih => ?_) 0 (Nat.zero_le _)
  · exact hx_dn (hr76_0 hl)
  · refine hx_dn (hr76_5 (fun c => absurd c (by omega)) (fun _ => c77 hs hB hy ?_))
    have et := hGr_tst hs hy hp
    refine hx_dn (hr76_18 (fun c => ?_) (fun c => ?_))
    · rw [et] at c
      have hf : aHad s (p : Int) y = false := by
        split at c
        · cases c
        · rename_i g
          simpa using g
      rw [hmask_f hf] at ih
      rw [ew_u (by omega)]
      exact ih
    · rw [et] at c
      have hf : aHad s (p : Int) y = true := by
        split at c
        · assumption
        · exact absurd rfl c
      rw [hmask_t hf] at ih
      rw [ew_u (by omega), hmask_grow hy]
      exact ih
theorem c78 {p : Nat} (hs : sOK s) (hB : sBk 5 s m) (h : Q (some (.inr (.inr ((hmask (aHeld s (p : Int)) 40 : Nat) : Int)))) m) : hxn xs n yp_m78 0 [(0, .inr (.inl 5)), (1, .inl (p : Int))] [] m Q := by
  have hl := hloop (N := 40) (P := fun y => hxn xs n yp_m78 5 [(0, .inr (.inl 5)), (1, .inl (p : Int)), (2, .inr (.inr ((hmask (aHeld s (p : Int)) y : Nat) : Int))), (4, .inl (y : Int))] [] m Q) (hx_dn (hr78_5 (fun _ => h) (fun c => absurd c (by decide)) (fun c => absurd c (by decide)) (fun c => absurd c (by decide)))) (fun y hy ih => ?_) 0 (Nat.zero_le _)
  · exact hx_dn (hr78_0 hl)
  · have no : aHeld s (p : Int) y = false → hxn xs n yp_m78 5 [(0, .inr (.inl 5)), (1, .inl (p : Int)), (2, .inr (.inr ((hmask (aHeld s (p : Int)) y : Nat) : Int))), (4, .inl (gx_w ((y : Int) + 1)))] [] m Q := fun hf => by
      rw [hmask_f hf] at ih
      rw [ew_u (by omega)]
      exact ih
    have iff := cPw5_iff hs hB hy
    refine hx_dn (hr78_5 (fun c => absurd c (by omega)) (fun _ c d => no ?_) (fun _ c d => ?_) (fun _ c => no ?_))
    · rw [Int.toNat_natCast, sB5_hold hB y hy (iff.mp c).1] at d
      unfold aHeld
      rw [decide_eq_false d, Bool.and_false]
    · rw [Int.toNat_natCast, sB5_hold hB y hy (iff.mp c).1] at d
      have hf : aHeld s (p : Int) y = true := by
        unfold aHeld
        rw [decide_eq_true d, decide_eq_true (iff.mp c).1]
        rfl
      rw [hmask_t hf] at ih
      rw [ew_u (by omega), hmask_grow hy]
      exact ih
    · unfold aHeld
      rw [Bool.and_eq_false_iff, decide_eq_false_iff_not, decide_eq_false_iff_not]
      by_cases e : s (440 + y) = 1
      · right
        intro q
        exact c (iff.mpr ⟨e, by omega⟩)
      · exact .inl e
theorem c60 {p : Int} (hB : sBk 5 s m) (h : Q (some (.inr (.inr ((hmask (aOwn s p) 40 : Nat) : Int)))) m) : hxn xs n yp_m60 0 [(0, .inr (.inl 5)), (1, .inl p)] [] m Q := hs60 (sB5_yrs hB) (sB5_own hB) h
theorem c64 {f : Nat → Bool} (hB : sBk 5 s m) (h : Q (some (.inl (hOr f (fun j => s (80 + j)) 40))) m) : hxn xs n yp_m64 0 [(0, .inr (.inl 5)), (1, .inr (.inr ((hmask f 40 : Nat) : Int)))] [] m Q := hs64 (v := fun j => s (80 + j)) (sB5_skl hB) h
theorem c61 {f : Nat → Bool} (h : Q (some (.inl ((hcnt f 40 : Nat) : Int))) m) : hxn xs n yp_m61 0 [(0, .inr (.inr ((hmask f 40 : Nat) : Int)))] [] m Q := by
  refine hs61 (hmask_lt _ 40) ?_
  rw [hpop_hmask]
  exact h
/-! the reference -/
theorem r220 {p : Int} (hs : sOK (m 87)) (hY : Y < 40) (h : Q (some (.inl (if aHad (m 87) p Y = true then 1 else 0))) m) : hxn xs n yp_m220 0 [(0, .inr (.inl 86)), (1, .inl (Y : Int)), (2, .inl p)] [] m Q := by
  have hm := hs.many Y hY
  have hT := hs.there Y hY
  unfold aHad at h
  have hl := hloop (N := (m 87 (400 + Y)).toNat) (P := fun k => hAnyB (fun k => decide (m 87 (480 + (16 * Y + k)) = p)) k = false → hxn xs n yp_m220 2 [(0, .inr (.inl 86)), (1, .inl (Y : Int)), (2, .inl p), (3, .inl (k : Int))] [] m Q) (fun q => ?_) (fun k hk ih q => ?_) 0 (Nat.zero_le _) rfl
  · exact hx_dn (hr220_0 hl)
  · refine hx_dn (hr220_2 (fun _ => ?_) (fun c => ?_) (fun c => ?_) (fun c => ?_))
    · rw [q, Bool.and_false, if_neg (by decide)] at h
      exact h
    all_goals
      rw [w400 hY] at c
      exact absurd c (by omega)
  · have ei : (gx_w ((gx_w (480 + (gx_w (16 * (Y : Int))))) + (k : Int))).toNat = 480 + (16 * Y + k) := by
      rw [gx_w_id (x := 16 * (Y : Int)) (by omega) (by omega), gx_w_id (x := 480 + 16 * (Y : Int)) (by omega) (by omega), gx_w_id (by omega) (by omega)]
      omega
    refine hx_dn (hr220_2 (fun c => ?_) (fun _ d => ?_) (fun _ d e => ?_) (fun _ d e => ?_))
    · rw [w400 hY] at c
      exact absurd c (by omega)
    · rw [w440 hY] at d
      rw [decide_eq_false d, Bool.false_and, if_neg (by decide)] at h
      exact h
    · rw [ei] at e
      rw [ew_u (by omega)]
      refine ih ?_
      show (hAnyB _ k || decide (m 87 (480 + (16 * Y + k)) = p)) = false
      rw [q, decide_eq_false e]
      rfl
    · rw [w440 hY] at d
      rw [ei] at e
      have ha : hAnyB (fun k => decide (m 87 (480 + (16 * Y + k)) = p)) (m 87 (400 + Y)).toNat = true := hAnyB_iff.mpr ⟨k, hk, decide_eq_true e⟩
      rw [decide_eq_true d, ha, if_pos (show (true && true) = true from rfl)] at h
      exact h
theorem r219 {p : Int} (hs : sOK (m 87)) (h : Q (some (.inl ((hcnt (aHad (m 87) p) 40 : Nat) : Int))) m) : hxn xs n yp_m219 0 [(0, .inr (.inl 86)), (1, .inl p)] [] m Q := by
  have hl := hloop (N := 40) (P := fun y => hxn xs n yp_m219 4 [(0, .inr (.inl 86)), (1, .inl p), (2, .inl ((hcnt (aHad (m 87) p) y : Nat) : Int)), (3, .inl (y : Int))] [] m Q) (hx_dn (hr219_4 (fun _ => h) (fun c => absurd c (by decide)))) (fun y hy ih => ?_) 0 (Nat.zero_le _)
  · exact hx_dn (hr219_0 hl)
  · refine hx_dn (hr219_4 (fun c => absurd c (by omega)) (fun _ => r220 hs hy ?_))
    have hle := hcnt_le (aHad (m 87) p) y
    by_cases c : aHad (m 87) p y = true
    · rw [if_pos c]
      rw [hcnt_t c] at ih
      refine hx_dn (hr219_17 (fun c => absurd c (by decide)) (fun _ => ?_))
      rw [ew_u (by omega), gx_w_id (by omega) (by omega)]
      exact ih
    · rw [if_neg c]
      rw [hcnt_f (by simpa using c)] at ih
      refine hx_dn (hr219_17 (fun _ => ?_) (fun c => absurd rfl c))
      rw [ew_u (by omega), gx_w_id (by omega) (by omega)]
      exact ih
theorem r221 {p : Int} (hs : sOK (m 87)) (h : Q (some (.inl ((hcnt (aHeld (m 87) p) 40 : Nat) : Int))) m) : hxn xs n yp_m221 0 [(0, .inr (.inl 86)), (1, .inl p)] [] m Q := by
  have hl := hloop (N := 40) (P := fun y => hxn xs n yp_m221 4 [(0, .inr (.inl 86)), (1, .inl p), (2, .inl ((hcnt (aHeld (m 87) p) y : Nat) : Int)), (3, .inl (y : Int))] [] m Q) (hx_dn (hr221_4 (fun _ => h) (fun c => absurd c (by decide)) (fun c => absurd c (by decide)) (fun c => absurd c (by decide)))) (fun y hy ih => ?_) 0 (Nat.zero_le _)
  · exact hx_dn (hr221_0 hl)
  · have hle := hcnt_le (aHeld (m 87) p) y
    have no : aHeld (m 87) p y = false → hxn xs n yp_m221 4 [(0, .inr (.inl 86)), (1, .inl p), (2, .inl (gx_w (((hcnt (aHeld (m 87) p) y : Nat) : Int) + 0))), (3, .inl (gx_w ((y : Int) + 1)))] [] m Q := fun hf => by
      rw [hcnt_f hf] at ih
      rw [ew_u (by omega), gx_w_id (by omega) (by omega)]
      exact ih
    refine hx_dn (hr221_4 (fun c => absurd c (by omega)) (fun _ c d => no ?_) (fun _ c d => ?_) (fun _ c => no ?_))
    · rw [w280 hy] at d
      unfold aHeld
      rw [decide_eq_false d, Bool.and_false]
    · rw [w280 hy] at d
      have hf : aHeld (m 87) p y = true := by
        unfold aHeld
        rw [decide_eq_true d, decide_eq_true ((aYr_iff hy).mp c)]
        rfl
      rw [hcnt_t hf] at ih
      rw [ew_u (by omega), gx_w_id (by omega) (by omega)]
      exact ih
    · unfold aHeld
      rw [decide_eq_false (fun q => c ((aYr_iff hy).mpr q)), Bool.false_and]
theorem r207 {p : Int} (hs : sOK (m 87)) (h : Q (some (.inl (hOr (aOwn (m 87) p) (fun j => m 87 (80 + j)) 40))) m) : hxn xs n yp_m207 0 [(0, .inr (.inl 86)), (1, .inl p), (2, .inl (-1))] [] m Q := by
  refine hs207 hs.there ?_
  have e : hOr (aKn (m 87) p (-1)) (fun j => m 87 (80 + j)) 40 = hOr (aOwn (m 87) p) (fun j => m 87 (80 + j)) 40 := hOr_ext 40 (fun j _ => by
    unfold aKn
    rw [decide_eq_false (show ¬ ((j : Int) = -1) by omega)]
    simp) (fun _ _ => rfl)
  rw [e]
  exact h
theorem aPers_nat {x : Int} (h : aPers s x) : ∃ P : Nat, x = (P : Int) ∧ P < 8 ∧ gx_and (gx_shr (s 1128) (P : Int)) 1 = 1 := by
  obtain ⟨h1, h2, h3⟩ := h
  refine ⟨x.toNat, by omega, by omega, ?_⟩
  rw [Int.toNat_of_nonneg h1]
  exact h3
end SC
