/-! what is read of a law's text: factors (0), products (1), sums (2), pieces (3), parts (4), conditions (5); what they leave of code; what is wrong with them -/
abbrev hCode : Type := List (Int × Int)
def tx (T : Nat → Int) (L p : Nat) : Int := if p < L then T p else -1
def isDg (c : Int) : Prop := 48 ≤ c ∧ c ≤ 57
def isLt (c : Int) : Prop := c = 97 ∨ c = 99 ∨ c = 100 ∨ c = 101 ∨ c = 104 ∨ c = 107 ∨ c = 108 ∨ c = 109 ∨ c = 111 ∨ c = 112 ∨ c = 115 ∨ c = 116 ∨ c = 121 ∨ c = 122
def isPr (c : Int) : Prop := c = 42 ∨ c = 47 ∨ c = 37
def isSm (c : Int) : Prop := c = 43 ∨ c = 45
def isCm (c : Int) : Prop := c = 60 ∨ c = 62 ∨ c = 61
def isKd (c : Int) : Prop := c = 110 ∨ c = 118 ∨ c = 105 ∨ c = 102 ∨ c = 103
def lnum (T : Nat → Int) (p : Nat) : Nat → Int
  | 0 => 0
  | j + 1 => 10 * lnum T p j + T (p + j) - 48
def lfl (num : Int) (p : Nat) : Int := -1000 * num - p
def lRul (T : Nat → Int) (L : Nat) (P : Nat → Nat → Nat → hCode → Nat → hCode → Prop) : Prop :=
  (∀ o p K j, 1 ≤ j → j ≤ 5 → (∀ i, i < j → isDg (tx T L (p + i))) → ¬ isDg (tx T L (p + j)) → P 0 o p K (p + j) (K ++ [(0, lnum T p j)])) ∧
  (∀ o p K, isLt (tx T L p) → P 0 o p K (p + 1) (K ++ [(1, tx T L p)])) ∧
  (∀ o p K p1 K1, tx T L p = 91 → o < 6 → P 2 (o + 1) (p + 1) K p1 K1 → tx T L p1 = 93 → P 0 o p K (p1 + 1) K1) ∧
  (∀ o p K p1 K1, P 0 o p K p1 K1 → P 1 o p K p1 K1) ∧
  (∀ o p K p1 K1 p2 K2, P 1 o p K p1 K1 → isPr (tx T L p1) → P 0 o (p1 + 1) K1 p2 K2 → P 1 o p K p2 (K2 ++ [(tx T L p1, 0)])) ∧
  (∀ o p K p1 K1, P 1 o p K p1 K1 → ¬ isPr (tx T L p1) → P 2 o p K p1 K1) ∧
  (∀ o p K p1 K1 p2 K2, P 2 o p K p1 K1 → isSm (tx T L p1) → P 1 o (p1 + 1) K1 p2 K2 → ¬ isPr (tx T L p2) → P 2 o p K p2 (K2 ++ [(tx T L p1, 0)])) ∧
  (∀ o p K p1 K1 p2 K2, tx T L p ≠ 33 → tx T L p ≠ 40 → P 2 o p K p1 K1 → isCm (tx T L p1) → P 2 o (p1 + 1) K1 p2 K2 → ¬ isSm (tx T L p2) → P 3 o p K p2 (K2 ++ [(tx T L p1, 0)])) ∧
  (∀ o p K p1 K1, tx T L p = 33 → o < 6 → P 3 (o + 1) (p + 1) K p1 K1 → P 3 o p K p1 (K1 ++ [(33, 0)])) ∧
  (∀ o p K p1 K1, tx T L p = 40 → o < 6 → P 5 (o + 1) (p + 1) K p1 K1 → tx T L p1 = 41 → P 3 o p K (p1 + 1) K1) ∧
  (∀ o p K p1 K1, P 3 o p K p1 K1 → P 4 o p K p1 K1) ∧
  (∀ o p K p1 K1 p2 K2, P 4 o p K p1 K1 → tx T L p1 = 38 → P 3 o (p1 + 1) (K1 ++ [(38, 0)]) p2 K2 → P 4 o p K p2 (K2.set K1.length (38, (K2.length : Int)))) ∧
  (∀ o p K p1 K1, P 4 o p K p1 K1 → tx T L p1 ≠ 38 → P 5 o p K p1 K1) ∧
  (∀ o p K p1 K1 p2 K2, P 5 o p K p1 K1 → tx T L p1 = 124 → P 4 o (p1 + 1) (K1 ++ [(124, 0)]) p2 K2 → tx T L p2 ≠ 38 → P 5 o p K p2 (K2.set K1.length (124, (K2.length : Int))))
def lD (T : Nat → Int) (L k o p : Nat) (K : hCode) (p' : Nat) (K' : hCode) : Prop := ∀ P, lRul T L P → P k o p K p' K'
theorem lD_rul (T : Nat → Int) (L : Nat) : lRul T L (lD T L) := by
  refine ⟨?_, ?_, ?_, ?_, ?_, ?_, ?_, ?_, ?_, ?_, ?_, ?_, ?_, ?_⟩
  · exact fun o p K j a b c d P h => h.1 o p K j a b c d
  · exact fun o p K a P h => h.2.1 o p K a
  · exact fun o p K p1 K1 a b c d P h => h.2.2.1 o p K p1 K1 a b (c P h) d
  · exact fun o p K p1 K1 a P h => h.2.2.2.1 o p K p1 K1 (a P h)
  · exact fun o p K p1 K1 p2 K2 a b c P h => h.2.2.2.2.1 o p K p1 K1 p2 K2 (a P h) b (c P h)
  · exact fun o p K p1 K1 a b P h => h.2.2.2.2.2.1 o p K p1 K1 (a P h) b
  · exact fun o p K p1 K1 p2 K2 a b c d P h => h.2.2.2.2.2.2.1 o p K p1 K1 p2 K2 (a P h) b (c P h) d
  · exact fun o p K p1 K1 p2 K2 a b c d e f P h => h.2.2.2.2.2.2.2.1 o p K p1 K1 p2 K2 a b (c P h) d (e P h) f
  · exact fun o p K p1 K1 a b c P h => h.2.2.2.2.2.2.2.2.1 o p K p1 K1 a b (c P h)
  · exact fun o p K p1 K1 a b c d P h => h.2.2.2.2.2.2.2.2.2.1 o p K p1 K1 a b (c P h) d
  · exact fun o p K p1 K1 a P h => h.2.2.2.2.2.2.2.2.2.2.1 o p K p1 K1 (a P h)
  · exact fun o p K p1 K1 p2 K2 a b c P h => h.2.2.2.2.2.2.2.2.2.2.2.1 o p K p1 K1 p2 K2 (a P h) b (c P h)
  · exact fun o p K p1 K1 a b P h => h.2.2.2.2.2.2.2.2.2.2.2.2.1 o p K p1 K1 (a P h) b
  · exact fun o p K p1 K1 p2 K2 a b c d P h => h.2.2.2.2.2.2.2.2.2.2.2.2.2 o p K p1 K1 p2 K2 (a P h) b (c P h) d
section LD
variable {T : Nat → Int} {L : Nat}
theorem lD_num {o p j : Nat} {K : hCode} (a : 1 ≤ j) (b : j ≤ 5) (c : ∀ i, i < j → isDg (tx T L (p + i))) (d : ¬ isDg (tx T L (p + j))) : lD T L 0 o p K (p + j) (K ++ [(0, lnum T p j)]) := (lD_rul T L).1 o p K j a b c d
theorem lD_let {o p : Nat} {K : hCode} (a : isLt (tx T L p)) : lD T L 0 o p K (p + 1) (K ++ [(1, tx T L p)]) := (lD_rul T L).2.1 o p K a
theorem lD_br {o p p1 : Nat} {K K1 : hCode} (a : tx T L p = 91) (b : o < 6) (c : lD T L 2 (o + 1) (p + 1) K p1 K1) (d : tx T L p1 = 93) : lD T L 0 o p K (p1 + 1) K1 := (lD_rul T L).2.2.1 o p K p1 K1 a b c d
theorem lD_pr1 {o p p1 : Nat} {K K1 : hCode} (a : lD T L 0 o p K p1 K1) : lD T L 1 o p K p1 K1 := (lD_rul T L).2.2.2.1 o p K p1 K1 a
theorem lD_pr2 {o p p1 p2 : Nat} {K K1 K2 : hCode} (a : lD T L 1 o p K p1 K1) (b : isPr (tx T L p1)) (c : lD T L 0 o (p1 + 1) K1 p2 K2) : lD T L 1 o p K p2 (K2 ++ [(tx T L p1, 0)]) := (lD_rul T L).2.2.2.2.1 o p K p1 K1 p2 K2 a b c
theorem lD_sm1 {o p p1 : Nat} {K K1 : hCode} (a : lD T L 1 o p K p1 K1) (b : ¬ isPr (tx T L p1)) : lD T L 2 o p K p1 K1 := (lD_rul T L).2.2.2.2.2.1 o p K p1 K1 a b
theorem lD_sm2 {o p p1 p2 : Nat} {K K1 K2 : hCode} (a : lD T L 2 o p K p1 K1) (b : isSm (tx T L p1)) (c : lD T L 1 o (p1 + 1) K1 p2 K2) (d : ¬ isPr (tx T L p2)) : lD T L 2 o p K p2 (K2 ++ [(tx T L p1, 0)]) := (lD_rul T L).2.2.2.2.2.2.1 o p K p1 K1 p2 K2 a b c d
theorem lD_cm {o p p1 p2 : Nat} {K K1 K2 : hCode} (a : tx T L p ≠ 33) (b : tx T L p ≠ 40) (c : lD T L 2 o p K p1 K1) (d : isCm (tx T L p1)) (e : lD T L 2 o (p1 + 1) K1 p2 K2) (f : ¬ isSm (tx T L p2)) : lD T L 3 o p K p2 (K2 ++ [(tx T L p1, 0)]) := (lD_rul T L).2.2.2.2.2.2.2.1 o p K p1 K1 p2 K2 a b c d e f
theorem lD_no {o p p1 : Nat} {K K1 : hCode} (a : tx T L p = 33) (b : o < 6) (c : lD T L 3 (o + 1) (p + 1) K p1 K1) : lD T L 3 o p K p1 (K1 ++ [(33, 0)]) := (lD_rul T L).2.2.2.2.2.2.2.2.1 o p K p1 K1 a b c
theorem lD_pa {o p p1 : Nat} {K K1 : hCode} (a : tx T L p = 40) (b : o < 6) (c : lD T L 5 (o + 1) (p + 1) K p1 K1) (d : tx T L p1 = 41) : lD T L 3 o p K (p1 + 1) K1 := (lD_rul T L).2.2.2.2.2.2.2.2.2.1 o p K p1 K1 a b c d
theorem lD_pt1 {o p p1 : Nat} {K K1 : hCode} (a : lD T L 3 o p K p1 K1) : lD T L 4 o p K p1 K1 := (lD_rul T L).2.2.2.2.2.2.2.2.2.2.1 o p K p1 K1 a
theorem lD_pt2 {o p p1 p2 : Nat} {K K1 K2 : hCode} (a : lD T L 4 o p K p1 K1) (b : tx T L p1 = 38) (c : lD T L 3 o (p1 + 1) (K1 ++ [(38, 0)]) p2 K2) : lD T L 4 o p K p2 (K2.set K1.length (38, (K2.length : Int))) := (lD_rul T L).2.2.2.2.2.2.2.2.2.2.2.1 o p K p1 K1 p2 K2 a b c
theorem lD_cn1 {o p p1 : Nat} {K K1 : hCode} (a : lD T L 4 o p K p1 K1) (b : tx T L p1 ≠ 38) : lD T L 5 o p K p1 K1 := (lD_rul T L).2.2.2.2.2.2.2.2.2.2.2.2.1 o p K p1 K1 a b
theorem lD_cn2 {o p p1 p2 : Nat} {K K1 K2 : hCode} (a : lD T L 5 o p K p1 K1) (b : tx T L p1 = 124) (c : lD T L 4 o (p1 + 1) (K1 ++ [(124, 0)]) p2 K2) (d : tx T L p2 ≠ 38) : lD T L 5 o p K p2 (K2.set K1.length (124, (K2.length : Int))) := (lD_rul T L).2.2.2.2.2.2.2.2.2.2.2.2.2 o p K p1 K1 p2 K2 a b c d
/-- the code grows by a row a byte at most -/
theorem lD_grow {k o p p' : Nat} {K K' : hCode} (h : lD T L k o p K p' K') : K'.length + p ≤ K.length + p' ∧ p ≤ p' ∧ K.length ≤ K'.length := by
  refine h (fun _ _ p K p' K' => K'.length + p ≤ K.length + p' ∧ p ≤ p' ∧ K.length ≤ K'.length) ⟨?_, ?_, ?_, ?_, ?_, ?_, ?_, ?_, ?_, ?_, ?_, ?_, ?_, ?_⟩
  · intro o p K j a b c d
    rw [List.length_append, List.length_singleton]
    omega
  · intro o p K a
    rw [List.length_append, List.length_singleton]
    omega
  · intro o p K p1 K1 a b c d
    omega
  · exact fun o p K p1 K1 a => a
  · intro o p K p1 K1 p2 K2 a b c
    rw [List.length_append, List.length_singleton]
    omega
  · exact fun o p K p1 K1 a b => a
  · intro o p K p1 K1 p2 K2 a b c d
    rw [List.length_append, List.length_singleton]
    omega
  · intro o p K p1 K1 p2 K2 a b c d e f
    rw [List.length_append, List.length_singleton]
    omega
  · intro o p K p1 K1 a b c
    rw [List.length_append, List.length_singleton]
    omega
  · intro o p K p1 K1 a b c d
    omega
  · exact fun o p K p1 K1 a => a
  · intro o p K p1 K1 p2 K2 a b c
    rw [List.length_append, List.length_singleton] at c
    rw [List.length_set]
    omega
  · exact fun o p K p1 K1 a b => a
  · intro o p K p1 K1 p2 K2 a b c d
    rw [List.length_append, List.length_singleton] at c
    rw [List.length_set]
    omega
theorem lk_lt {K : hCode} {i : Nat} {c : Int × Int} (h : K[i]? = some c) : i < K.length := (List.getElem?_eq_some_iff.mp h).1
theorem lk_app {K : hCode} {x c : Int × Int} {i : Nat} (h : (K ++ [x])[i]? = some c) : K[i]? = some c ∨ (i = K.length ∧ c = x) := by
  by_cases hi : i < K.length
  · rw [List.getElem?_append_left hi] at h
    exact .inl h
  · rw [List.getElem?_append_right (by omega)] at h
    have h2 := lk_lt h
    have e : i - K.length = 0 := by
      rw [List.length_singleton] at h2
      omega
    rw [e] at h
    cases h
    exact .inr ⟨by omega, rfl⟩
theorem lk_appl {K : hCode} {x : Int × Int} {i : Nat} (hi : i < K.length) : (K ++ [x])[i]? = K[i]? := List.getElem?_append_left hi
theorem lk_last {K : hCode} {x : Int × Int} : (K ++ [x])[K.length]? = some x := by
  rw [List.getElem?_append_right (Nat.le_refl _), Nat.sub_self]
  rfl
theorem lk_set {K : hCode} {a i : Nat} {x c : Int × Int} (h : (K.set a x)[i]? = some c) : (i = a ∧ c = x) ∨ (i ≠ a ∧ K[i]? = some c) := by
  by_cases hi : i = a
  · subst hi
    have h2 := lk_lt h
    rw [List.length_set] at h2
    rw [List.getElem?_set_self h2] at h
    cases h
    exact .inl ⟨rfl, rfl⟩
  · rw [List.getElem?_set_ne (fun e => hi e.symm)] at h
    exact .inr ⟨hi, h⟩
/-- what was written stands -/
theorem lD_pre {k o p p' : Nat} {K K' : hCode} (h : lD T L k o p K p' K') : ∀ i, i < K.length → K'[i]? = K[i]? := by
  have h2 : (∀ i, i < K.length → K'[i]? = K[i]?) ∧ K.length ≤ K'.length := by
    refine h (fun _ _ _ K _ K' => (∀ i, i < K.length → K'[i]? = K[i]?) ∧ K.length ≤ K'.length) ⟨?_, ?_, ?_, ?_, ?_, ?_, ?_, ?_, ?_, ?_, ?_, ?_, ?_, ?_⟩
    · intro o p K j a b c d
      rw [List.length_append, List.length_singleton]
      exact ⟨fun i hi => lk_appl hi, by omega⟩
    · intro o p K a
      rw [List.length_append, List.length_singleton]
      exact ⟨fun i hi => lk_appl hi, by omega⟩
    · exact fun o p K p1 K1 a b c d => c
    · exact fun o p K p1 K1 a => a
    · intro o p K p1 K1 p2 K2 a b c
      rw [List.length_append, List.length_singleton]
      exact ⟨fun i hi => by rw [lk_appl (by omega), c.1 i (by omega), a.1 i hi], by omega⟩
    · exact fun o p K p1 K1 a b => a
    · intro o p K p1 K1 p2 K2 a b c d
      rw [List.length_append, List.length_singleton]
      exact ⟨fun i hi => by rw [lk_appl (by omega), c.1 i (by omega), a.1 i hi], by omega⟩
    · intro o p K p1 K1 p2 K2 a b c d e f
      rw [List.length_append, List.length_singleton]
      exact ⟨fun i hi => by rw [lk_appl (by omega), e.1 i (by omega), c.1 i hi], by omega⟩
    · intro o p K p1 K1 a b c
      rw [List.length_append, List.length_singleton]
      exact ⟨fun i hi => by rw [lk_appl (by omega), c.1 i hi], by omega⟩
    · exact fun o p K p1 K1 a b c d => c
    · exact fun o p K p1 K1 a => a
    · intro o p K p1 K1 p2 K2 a b c
      rw [List.length_append, List.length_singleton] at c
      rw [List.length_set]
      exact ⟨fun i hi => by rw [List.getElem?_set_ne (by omega), c.1 i (by omega), lk_appl (by omega), a.1 i hi], by omega⟩
    · exact fun o p K p1 K1 a b => a
    · intro o p K p1 K1 p2 K2 a b c d
      rw [List.length_append, List.length_singleton] at c
      rw [List.length_set]
      exact ⟨fun i hi => by rw [List.getElem?_set_ne (by omega), c.1 i (by omega), lk_appl (by omega), a.1 i hi], by omega⟩
  exact h2.1
end LD
