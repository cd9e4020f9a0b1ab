section
/-! what is read of a law's text: factors (0), products (1), sums (2), pieces (3), parts (4), conditions (5); what they leave of code; what is wrong with them -/
abbrev hCode : Type := List (Int × Int)
def tx (T : Nat → Int) (L p : Nat) : Int := if p < L then T p else -1
def isDg (c : Int) : Prop := 48 ≤ c ∧ c ≤ 57
def isLt (c : Int) : Prop := c = 97 ∨ c = 99 ∨ c = 100 ∨ c = 101 ∨ c = 104 ∨ c = 107 ∨ c = 108 ∨ c = 109 ∨ c = 111 ∨ c = 112 ∨ c = 115 ∨ c = 116 ∨ c = 121 ∨ c = 122
def isPr (c : Int) : Prop := c = 42 ∨ c = 47 ∨ c = 37
def isSm (c : Int) : Prop := c = 43 ∨ c = 45
def isCm (c : Int) : Prop := c = 60 ∨ c = 62 ∨ c = 61
def isKd (c : Int) : Prop := c = 110 ∨ c = 118 ∨ c = 105 ∨ c = 102 ∨ c = 103
def lnum (T : Nat → Int) (p : Nat) : Nat → Int
  | 0 => 0
  | j + 1 => 10 * lnum T p j + T (p + j) - 48
def lfl (num : Int) (p : Nat) : Int := -1000 * num - p
def lRul (T : Nat → Int) (L : Nat) (P : Nat → Nat → Nat → hCode → Nat → hCode → Prop) : Prop :=
  (∀ o p K j, 1 ≤ j → j ≤ 5 → (∀ i, i < j → isDg (tx T L (p + i))) → ¬ isDg (tx T L (p + j)) → P 0 o p K (p + j) (K ++ [(0, lnum T p j)])) ∧
  (∀ o p K, isLt (tx T L p) → P 0 o p K (p + 1) (K ++ [(1, tx T L p)])) ∧
  (∀ o p K p1 K1, tx T L p = 91 → o < 6 → P 2 (o + 1) (p + 1) K p1 K1 → tx T L p1 = 93 → P 0 o p K (p1 + 1) K1) ∧
  (∀ o p K p1 K1, P 0 o p K p1 K1 → P 1 o p K p1 K1) ∧
  (∀ o p K p1 K1 p2 K2, P 1 o p K p1 K1 → isPr (tx T L p1) → P 0 o (p1 + 1) K1 p2 K2 → P 1 o p K p2 (K2 ++ [(tx T L p1, 0)])) ∧
  (∀ o p K p1 K1, P 1 o p K p1 K1 → ¬ isPr (tx T L p1) → P 2 o p K p1 K1) ∧
  (∀ o p K p1 K1 p2 K2, P 2 o p K p1 K1 → isSm (tx T L p1) → P 1 o (p1 + 1) K1 p2 K2 → ¬ isPr (tx T L p2) → P 2 o p K p2 (K2 ++ [(tx T L p1, 0)])) ∧
  (∀ o p K p1 K1 p2 K2, tx T L p ≠ 33 → tx T L p ≠ 40 → P 2 o p K p1 K1 → isCm (tx T L p1) → P 2 o (p1 + 1) K1 p2 K2 → ¬ isSm (tx T L p2) → P 3 o p K p2 (K2 ++ [(tx T L p1, 0)])) ∧
  (∀ o p K p1 K1, tx T L p = 33 → o < 6 → P 3 (o + 1) (p + 1) K p1 K1 → P 3 o p K p1 (K1 ++ [(33, 0)])) ∧
  (∀ o p K p1 K1, tx T L p = 40 → o < 6 → P 5 (o + 1) (p + 1) K p1 K1 → tx T L p1 = 41 → P 3 o p K (p1 + 1) K1) ∧
  (∀ o p K p1 K1, P 3 o p K p1 K1 → P 4 o p K p1 K1) ∧
  (∀ o p K p1 K1 p2 K2, P 4 o p K p1 K1 → tx T L p1 = 38 → P 3 o (p1 + 1) (K1 ++ [(38, 0)]) p2 K2 → P 4 o p K p2 (K2.set K1.length (38, (K2.length : Int)))) ∧
  (∀ o p K p1 K1, P 4 o p K p1 K1 → tx T L p1 ≠ 38 → P 5 o p K p1 K1) ∧
  (∀ o p K p1 K1 p2 K2, P 5 o p K p1 K1 → tx T L p1 = 124 → P 4 o (p1 + 1) (K1 ++ [(124, 0)]) p2 K2 → tx T L p2 ≠ 38 → P 5 o p K p2 (K2.set K1.length (124, (K2.length : Int))))
def lD (T : Nat → Int) (L k o p : Nat) (K : hCode) (p' : Nat) (K' : hCode) : Prop := ∀ P, lRul T L P → P k o p K p' K'
theorem lD_rul (T : Nat → Int) (L : Nat) : lRul T L (lD T L) := by
  refine ⟨?_, ?_, ?_, ?_, ?_, ?_, ?_, ?_, ?_, ?_, ?_, ?_, ?_, ?_⟩
  · exact fun o p K j a b c d P h => h.1 o p K j a b c d
  · exact fun o p K a P h => h.2.1 o p K a
  · exact fun o p K p1 K1 a b c d P h => h.2.2.1 o p K p1 K1 a b (c P h) d
  · exact fun o p K p1 K1 a P h => h.2.2.2.1 o p K p1 K1 (a P h)
  · exact fun o p K p1 K1 p2 K2 a b c P h => h.2.2.2.2.1 o p K p1 K1 p2 K2 (a P h) b (c P h)
  · exact fun o p K p1 K1 a b P h => h.2.2.2.2.2.1 o p K p1 K1 (a P h) b
  · exact fun o p K p1 K1 p2 K2 a b c d P h => h.2.2.2.2.2.2.1 o p K p1 K1 p2 K2 (a P h) b (c P h) d
  · exact fun o p K p1 K1 p2 K2 a b c d e f P h => h.2.2.2.2.2.2.2.1 o p K p1 K1 p2 K2 a b (c P h) d (e P h) f
  · exact fun o p K p1 K1 a b c P h => h.2.2.2.2.2.2.2.2.1 o p K p1 K1 a b (c P h)
  · exact fun o p K p1 K1 a b c d P h => h.2.2.2.2.2.2.2.2.2.1 o p K p1 K1 a b (c P h) d
  · exact fun o p K p1 K1 a P h => h.2.2.2.2.2.2.2.2.2.2.1 o p K p1 K1 (a P h)
  · exact fun o p K p1 K1 p2 K2 a b c P h => h.2.2.2.2.2.2.2.2.2.2.2.1 o p K p1 K1 p2 K2 (a P h) b (c P h)
  · exact fun o p K p1 K1 a b P h => h.2.2.2.2.2.2.2.2.2.2.2.2.1 o p K p1 K1 (a P h) b
  · exact fun o p K p1 K1 p2 K2 a b c d P h => h.2.2.2.2.2.2.2.2.2.2.2.2.2 o p K p1 K1 p2 K2 (a P h) b (c P h) d
section LD
variable {T : Nat → Int} {L : Nat}
theorem lD_num {o p j : Nat} {K : hCode} (a : 1 ≤ j) (b : j ≤ 5) (c : ∀ i, i < j → isDg (tx T L (p + i))) (d : ¬ isDg (tx T L (p + j))) : lD T L 0 o p K (p + j) (K ++ [(0, lnum T p j)]) := (lD_rul T L).1 o p K j a b c d
theorem lD_let {o p : Nat} {K : hCode} (a : isLt (tx T L p)) : lD T L 0 o p K (p + 1) (K ++ [(1, tx T L p)]) := (lD_rul T L).2.1 o p K a
theorem lD_br {o p p1 : Nat} {K K1 : hCode} (a : tx T L p = 91) (b : o < 6) (c : lD T L 2 (o + 1) (p + 1) K p1 K1) (d : tx T L p1 = 93) : lD T L 0 o p K (p1 + 1) K1 := (lD_rul T L).2.2.1 o p K p1 K1 a b c d
theorem lD_pr1 {o p p1 : Nat} {K K1 : hCode} (a : lD T L 0 o p K p1 K1) : lD T L 1 o p K p1 K1 := (lD_rul T L).2.2.2.1 o p K p1 K1 a
theorem lD_pr2 {o p p1 p2 : Nat} {K K1 K2 : hCode} (a : lD T L 1 o p K p1 K1) (b : isPr (tx T L p1)) (c : lD T L 0 o (p1 + 1) K1 p2 K2) : lD T L 1 o p K p2 (K2 ++ [(tx T L p1, 0)]) := (lD_rul T L).2.2.2.2.1 o p K p1 K1 p2 K2 a b c
theorem lD_sm1 {o p p1 : Nat} {K K1 : hCode} (a : lD T L 1 o p K p1 K1) (b : ¬ isPr (tx T L p1)) : lD T L 2 o p K p1 K1 := (lD_rul T L).2.2.2.2.2.1 o p K p1 K1 a b
theorem lD_sm2 {o p p1 p2 : Nat} {K K1 K2 : hCode} (a : lD T L 2 o p K p1 K1) (b : isSm (tx T L p1)) (c : lD T L 1 o (p1 + 1) K1 p2 K2) (d : ¬ isPr (tx T L p2)) : lD T L 2 o p K p2 (K2 ++ [(tx T L p1, 0)]) := (lD_rul T L).2.2.2.2.2.2.1 o p K p1 K1 p2 K2 a b c d
theorem lD_cm {o p p1 p2 : Nat} {K K1 K2 : hCode} (a : tx T L p ≠ 33) (b : tx T L p ≠ 40) (c : lD T L 2 o p K p1 K1) (d : isCm (tx T L p1)) (e : lD T L 2 o (p1 + 1) K1 p2 K2) (f : ¬ isSm (tx T L p2)) : lD T L 3 o p K p2 (K2 ++ [(tx T L p1, 0)]) := (lD_rul T L).2.2.2.2.2.2.2.1 o p K p1 K1 p2 K2 a b c d e f
theorem lD_no {o p p1 : Nat} {K K1 : hCode} (a : tx T L p = 33) (b : o < 6) (c : lD T L 3 (o + 1) (p + 1) K p1 K1) : lD T L 3 o p K p1 (K1 ++ [(33, 0)]) := (lD_rul T L).2.2.2.2.2.2.2.2.1 o p K p1 K1 a b c
theorem lD_pa {o p p1 : Nat} {K K1 : hCode} (a : tx T L p = 40) (b : o < 6) (c : lD T L 5 (o + 1) (p + 1) K p1 K1) (d : tx T L p1 = 41) : lD T L 3 o p K (p1 + 1) K1 := (lD_rul T L).2.2.2.2.2.2.2.2.2.1 o p K p1 K1 a b c d
theorem lD_pt1 {o p p1 : Nat} {K K1 : hCode} (a : lD T L 3 o p K p1 K1) : lD T L 4 o p K p1 K1 := (lD_rul T L).2.2.2.2.2.2.2.2.2.2.1 o p K p1 K1 a
theorem lD_pt2 {o p p1 p2 : Nat} {K K1 K2 : hCode} (a : lD T L 4 o p K p1 K1) (b : tx T L p1 = 38) (c : lD T L 3 o (p1 + 1) (K1 ++ [(38, 0)]) p2 K2) : lD T L 4 o p K p2 (K2.set K1.length (38, (K2.length : Int))) := (lD_rul T L).2.2.2.2.2.2.2.2.2.2.2.1 o p K p1 K1 p2 K2 a b c
theorem lD_cn1 {o p p1 : Nat} {K K1 : hCode} (a : lD T L 4 o p K p1 K1) (b : tx T L p1 ≠ 38) : lD T L 5 o p K p1 K1 := (lD_rul T L).2.2.2.2.2.2.2.2.2.2.2.2.1 o p K p1 K1 a b
theorem lD_cn2 {o p p1 p2 : Nat} {K K1 K2 : hCode} (a : lD T L 5 o p K p1 K1) (b : tx T L p1 = 124) (c : lD T L 4 o (p1 + 1) (K1 ++ [(124, 0)]) p2 K2) (d : tx T L p2 ≠ 38) : lD T L 5 o p K p2 (K2.set K1.length (124, (K2.length : Int))) := (lD_rul T L).2.2.2.2.2.2.2.2.2.2.2.2.2 o p K p1 K1 p2 K2 a b c d
/-- the code grows by a row a byte at most -/
theorem lD_grow {k o p p' : Nat} {K K' : hCode} (h : lD T L k o p K p' K') : K'.length + p ≤ K.length + p' ∧ p ≤ p' ∧ K.length ≤ K'.length := by
  refine h (fun _ _ p K p' K' => K'.length + p ≤ K.length + p' ∧ p ≤ p' ∧ K.length ≤ K'.length) ⟨?_, ?_, ?_, ?_, ?_, ?_, ?_, ?_, ?_, ?_, ?_, ?_, ?_, ?_⟩
  · intro o p K j a b c d
    rw [List.length_append, List.length_singleton]
    omega
  · intro o p K a
    rw [List.length_append, List.length_singleton]
    omega
  · intro o p K p1 K1 a b c d
    omega
  · exact fun o p K p1 K1 a => a
  · intro o p K p1 K1 p2 K2 a b c
    rw [List.length_append, List.length_singleton]
    omega
  · exact fun o p K p1 K1 a b => a
  · intro o p K p1 K1 p2 K2 a b c d
    rw [List.length_append, List.length_singleton]
    omega
  · intro o p K p1 K1 p2 K2 a b c d e f
    rw [List.length_append, List.length_singleton]
    omega
  · intro o p K p1 K1 a b c
    rw [List.length_append, List.length_singleton]
    omega
  · intro o p K p1 K1 a b c d
    omega
  · exact fun o p K p1 K1 a => a
  · intro o p K p1 K1 p2 K2 a b c
    rw [List.length_append, List.length_singleton] at c
    rw [List.length_set]
    omega
  · exact fun o p K p1 K1 a b => a
  · intro o p K p1 K1 p2 K2 a b c d
    rw [List.length_append, List.length_singleton] at c
    rw [List.length_set]
    omega
theorem lk_lt {K : hCode} {i : Nat} {c : Int × Int} (h : K[i]? = some c) : i < K.length := (List.getElem?_eq_some_iff.mp h).1
theorem lk_app {K : hCode} {x c : Int × Int} {i : Nat} (h : (K ++ [x])[i]? = some c) : K[i]? = some c ∨ (i = K.length ∧ c = x) := by
  by_cases hi : i < K.length
  · rw [List.getElem?_append_left hi] at h
    exact .inl h
  · rw [List.getElem?_append_right (by omega)] at h
    have h2 := lk_lt h
    have e : i - K.length = 0 := by
      rw [List.length_singleton] at h2
      omega
    rw [e] at h
    cases h
    exact .inr ⟨by omega, rfl⟩
theorem lk_appl {K : hCode} {x : Int × Int} {i : Nat} (hi : i < K.length) : (K ++ [x])[i]? = K[i]? := List.getElem?_append_left hi
theorem lk_last {K : hCode} {x : Int × Int} : (K ++ [x])[K.length]? = some x := by
  rw [List.getElem?_append_right (Nat.le_refl _), Nat.sub_self]
  rfl
theorem lk_set {K : hCode} {a i : Nat} {x c : Int × Int} (h : (K.set a x)[i]? = some c) : (i = a ∧ c = x) ∨ (i ≠ a ∧ K[i]? = some c) := by
  by_cases hi : i = a
  · subst hi
    have h2 := lk_lt h
    rw [List.length_set] at h2
    rw [List.getElem?_set_self h2] at h
    cases h
    exact .inl ⟨rfl, rfl⟩
  · rw [List.getElem?_set_ne (fun e => hi e.symm)] at h
    exact .inr ⟨hi, h⟩
/-- what was written stands -/
theorem lD_pre {k o p p' : Nat} {K K' : hCode} (h : lD T L k o p K p' K') : ∀ i, i < K.length → K'[i]? = K[i]? := by
  have h2 : (∀ i, i < K.length → K'[i]? = K[i]?) ∧ K.length ≤ K'.length := by
    refine h (fun _ _ _ K _ K' => (∀ i, i < K.length → K'[i]? = K[i]?) ∧ K.length ≤ K'.length) ⟨?_, ?_, ?_, ?_, ?_, ?_, ?_, ?_, ?_, ?_, ?_, ?_, ?_, ?_⟩
    · intro o p K j a b c d
      rw [List.length_append, List.length_singleton]
      exact ⟨fun i hi => lk_appl hi, by omega⟩
    · intro o p K a
      rw [List.length_append, List.length_singleton]
      exact ⟨fun i hi => lk_appl hi, by omega⟩
    · exact fun o p K p1 K1 a b c d => c
    · exact fun o p K p1 K1 a => a
    · intro o p K p1 K1 p2 K2 a b c
      rw [List.length_append, List.length_singleton]
      exact ⟨fun i hi => by rw [lk_appl (by omega), c.1 i (by omega), a.1 i hi], by omega⟩
    · exact fun o p K p1 K1 a b => a
    · intro o p K p1 K1 p2 K2 a b c d
      rw [List.length_append, List.length_singleton]
      exact ⟨fun i hi => by rw [lk_appl (by omega), c.1 i (by omega), a.1 i hi], by omega⟩
    · intro o p K p1 K1 p2 K2 a b c d e f
      rw [List.length_append, List.length_singleton]
      exact ⟨fun i hi => by rw [lk_appl (by omega), e.1 i (by omega), c.1 i hi], by omega⟩
    · intro o p K p1 K1 a b c
      rw [List.length_append, List.length_singleton]
      exact ⟨fun i hi => by rw [lk_appl (by omega), c.1 i hi], by omega⟩
    · exact fun o p K p1 K1 a b c d => c
    · exact fun o p K p1 K1 a => a
    · intro o p K p1 K1 p2 K2 a b c
      rw [List.length_append, List.length_singleton] at c
      rw [List.length_set]
      exact ⟨fun i hi => by rw [List.getElem?_set_ne (by omega), c.1 i (by omega), lk_appl (by omega), a.1 i hi], by omega⟩
    · exact fun o p K p1 K1 a b => a
    · intro o p K p1 K1 p2 K2 a b c d
      rw [List.length_append, List.length_singleton] at c
      rw [List.length_set]
      exact ⟨fun i hi => by rw [List.getElem?_set_ne (by omega), c.1 i (by omega), lk_appl (by omega), a.1 i hi], by omega⟩
  exact h2.1
end LD
end
section
/-! what is wrong with a text, the first from the left -/
def lRulE (T : Nat → Int) (L : Nat) (P : Nat → Nat → Nat → hCode → Int → Prop) : Prop :=
  (∀ o p K, ¬ isDg (tx T L p) → tx T L p ≠ 91 → ¬ isLt (tx T L p) → P 0 o p K (lfl 1 p)) ∧
  (∀ o p K, (∀ i, i < 6 → isDg (tx T L (p + i))) → P 0 o p K (lfl 2 (p + 5))) ∧
  (∀ o p K, tx T L p = 91 → 6 ≤ o → P 0 o p K (lfl 5 p)) ∧
  (∀ o p K f, tx T L p = 91 → o < 6 → P 2 (o + 1) (p + 1) K f → P 0 o p K f) ∧
  (∀ o p K p1 K1, tx T L p = 91 → o < 6 → lD T L 2 (o + 1) (p + 1) K p1 K1 → ¬ isSm (tx T L p1) → tx T L p1 ≠ 93 → P 0 o p K (lfl 1 p1)) ∧
  (∀ o p K f, P 0 o p K f → P 1 o p K f) ∧
  (∀ o p K p1 K1 f, lD T L 1 o p K p1 K1 → isPr (tx T L p1) → P 0 o (p1 + 1) K1 f → P 1 o p K f) ∧
  (∀ o p K f, P 1 o p K f → P 2 o p K f) ∧
  (∀ o p K p1 K1 f, lD T L 2 o p K p1 K1 → isSm (tx T L p1) → P 1 o (p1 + 1) K1 f → P 2 o p K f) ∧
  (∀ o p K, tx T L p = 33 ∨ tx T L p = 40 → 6 ≤ o → P 3 o p K (lfl 5 p)) ∧
  (∀ o p K f, tx T L p = 40 → o < 6 → P 5 (o + 1) (p + 1) K f → P 3 o p K f) ∧
  (∀ o p K p1 K1, tx T L p = 40 → o < 6 → lD T L 5 (o + 1) (p + 1) K p1 K1 → tx T L p1 ≠ 124 → tx T L p1 ≠ 41 → P 3 o p K (lfl 1 p1)) ∧
  (∀ o p K f, tx T L p = 33 → o < 6 → P 3 (o + 1) (p + 1) K f → P 3 o p K f) ∧
  (∀ o p K f, tx T L p ≠ 33 → tx T L p ≠ 40 → P 2 o p K f → P 3 o p K f) ∧
  (∀ o p K p1 K1, tx T L p ≠ 33 → tx T L p ≠ 40 → lD T L 2 o p K p1 K1 → ¬ isSm (tx T L p1) → ¬ isCm (tx T L p1) → P 3 o p K (lfl 1 p1)) ∧
  (∀ o p K p1 K1 f, tx T L p ≠ 33 → tx T L p ≠ 40 → lD T L 2 o p K p1 K1 → isCm (tx T L p1) → P 2 o (p1 + 1) K1 f → P 3 o p K f) ∧
  (∀ o p K f, P 3 o p K f → P 4 o p K f) ∧
  (∀ o p K p1 K1 f, lD T L 4 o p K p1 K1 → tx T L p1 = 38 → P 3 o (p1 + 1) (K1 ++ [(38, 0)]) f → P 4 o p K f) ∧
  (∀ o p K f, P 4 o p K f → P 5 o p K f) ∧
  (∀ o p K p1 K1 f, lD T L 5 o p K p1 K1 → tx T L p1 = 124 → P 4 o (p1 + 1) (K1 ++ [(124, 0)]) f → P 5 o p K f)
def lE (T : Nat → Int) (L k o p : Nat) (K : hCode) (f : Int) : Prop := ∀ P, lRulE T L P → P k o p K f
theorem lE_rul (T : Nat → Int) (L : Nat) : lRulE T L (lE T L) := by
  refine ⟨?_, ?_, ?_, ?_, ?_, ?_, ?_, ?_, ?_, ?_, ?_, ?_, ?_, ?_, ?_, ?_, ?_, ?_, ?_, ?_⟩
  · exact fun o p K a b c P h => h.1 o p K a b c
  · exact fun o p K a P h => h.2.1 o p K a
  · exact fun o p K a b P h => h.2.2.1 o p K a b
  · exact fun o p K f a b c P h => h.2.2.2.1 o p K f a b (c P h)
  · exact fun o p K p1 K1 a b c d e P h => h.2.2.2.2.1 o p K p1 K1 a b c d e
  · exact fun o p K f a P h => h.2.2.2.2.2.1 o p K f (a P h)
  · exact fun o p K p1 K1 f a b c P h => h.2.2.2.2.2.2.1 o p K p1 K1 f a b (c P h)
  · exact fun o p K f a P h => h.2.2.2.2.2.2.2.1 o p K f (a P h)
  · exact fun o p K p1 K1 f a b c P h => h.2.2.2.2.2.2.2.2.1 o p K p1 K1 f a b (c P h)
  · exact fun o p K a b P h => h.2.2.2.2.2.2.2.2.2.1 o p K a b
  · exact fun o p K f a b c P h => h.2.2.2.2.2.2.2.2.2.2.1 o p K f a b (c P h)
  · exact fun o p K p1 K1 a b c d e P h => h.2.2.2.2.2.2.2.2.2.2.2.1 o p K p1 K1 a b c d e
  · exact fun o p K f a b c P h => h.2.2.2.2.2.2.2.2.2.2.2.2.1 o p K f a b (c P h)
  · exact fun o p K f a b c P h => h.2.2.2.2.2.2.2.2.2.2.2.2.2.1 o p K f a b (c P h)
  · exact fun o p K p1 K1 a b c d e P h => h.2.2.2.2.2.2.2.2.2.2.2.2.2.2.1 o p K p1 K1 a b c d e
  · exact fun o p K p1 K1 f a b c d e P h => h.2.2.2.2.2.2.2.2.2.2.2.2.2.2.2.1 o p K p1 K1 f a b c d (e P h)
  · exact fun o p K f a P h => h.2.2.2.2.2.2.2.2.2.2.2.2.2.2.2.2.1 o p K f (a P h)
  · exact fun o p K p1 K1 f a b c P h => h.2.2.2.2.2.2.2.2.2.2.2.2.2.2.2.2.2.1 o p K p1 K1 f a b (c P h)
  · exact fun o p K f a P h => h.2.2.2.2.2.2.2.2.2.2.2.2.2.2.2.2.2.2.1 o p K f (a P h)
  · exact fun o p K p1 K1 f a b c P h => h.2.2.2.2.2.2.2.2.2.2.2.2.2.2.2.2.2.2.2 o p K p1 K1 f a b (c P h)
end
section
/-! the text as the class reads it: roads -/
/-- isLetter from 0 on -/
theorem hs38 {xs : List Int32} {n : Nat} {Q : hQ} {m : gx_M} {x0 : Int}
    (h1 : isLt x0 → Q (some (.inl 1)) m) (h0 : ¬ (isLt x0) → Q (some (.inl 0)) m) : hxn xs n yp_m38 0 [(0, .inl x0)] [] m Q := by
  refine hx_dn ?_
  refine hx_blks (npc := 1) (L' := [(0, .inl x0)]) (st' := [.inl x0]) (m' := m) ((0, .iload_n 0, 1, 0, 0, 0, 0), (0, 0, 0)) [] (by decide +kernel) rfl ?_
  refine hx_tsw 122 [(97, 120), (98, 122), (99, 120), (100, 120), (101, 120), (102, 122), (103, 122), (104, 120), (105, 122), (106, 122), (107, 120), (108, 120), (109, 120), (110, 122), (111, 120), (112, 120), (113, 122), (114, 122), (115, 120), (116, 120), (117, 122), (118, 122), (119, 122), (120, 122), (121, 120), (122, 120)] (by decide +kernel) ?_
  refine hsw_c (fun c1 => ?_) (fun c1 => ?_)
  · have c1 : x0 = 97 := c1
    refine hx_blk (npc := 121) (L' := [(0, .inl x0)]) (st' := [.inl 1]) (m' := m) [((120, .iconst 1, 1, 0, 0, 0, 0), (0, 0, 0))] (by decide +kernel) rfl ?_
    exact hx_reti (by decide +kernel) (h1 (by unfold isLt; omega))
  refine hsw_c (fun c2 => ?_) (fun c2 => ?_)
  · have c2 : x0 = 98 := c2
    refine hx_blk (npc := 123) (L' := [(0, .inl x0)]) (st' := [.inl 0]) (m' := m) [((122, .iconst 0, 1, 0, 0, 0, 0), (0, 0, 0))] (by decide +kernel) rfl ?_
    exact hx_reti (by decide +kernel) (h0 (by unfold isLt; omega))
  refine hsw_c (fun c3 => ?_) (fun c3 => ?_)
  · have c3 : x0 = 99 := c3
    refine hx_blk (npc := 121) (L' := [(0, .inl x0)]) (st' := [.inl 1]) (m' := m) [((120, .iconst 1, 1, 0, 0, 0, 0), (0, 0, 0))] (by decide +kernel) rfl ?_
    exact hx_reti (by decide +kernel) (h1 (by unfold isLt; omega))
  refine hsw_c (fun c4 => ?_) (fun c4 => ?_)
  · have c4 : x0 = 100 := c4
    refine hx_blk (npc := 121) (L' := [(0, .inl x0)]) (st' := [.inl 1]) (m' := m) [((120, .iconst 1, 1, 0, 0, 0, 0), (0, 0, 0))] (by decide +kernel) rfl ?_
    exact hx_reti (by decide +kernel) (h1 (by unfold isLt; omega))
  refine hsw_c (fun c5 => ?_) (fun c5 => ?_)
  · have c5 : x0 = 101 := c5
    refine hx_blk (npc := 121) (L' := [(0, .inl x0)]) (st' := [.inl 1]) (m' := m) [((120, .iconst 1, 1, 0, 0, 0, 0), (0, 0, 0))] (by decide +kernel) rfl ?_
    exact hx_reti (by decide +kernel) (h1 (by unfold isLt; omega))
  refine hsw_c (fun c6 => ?_) (fun c6 => ?_)
  · have c6 : x0 = 102 := c6
    refine hx_blk (npc := 123) (L' := [(0, .inl x0)]) (st' := [.inl 0]) (m' := m) [((122, .iconst 0, 1, 0, 0, 0, 0), (0, 0, 0))] (by decide +kernel) rfl ?_
    exact hx_reti (by decide +kernel) (h0 (by unfold isLt; omega))
  refine hsw_c (fun c7 => ?_) (fun c7 => ?_)
  · have c7 : x0 = 103 := c7
    refine hx_blk (npc := 123) (L' := [(0, .inl x0)]) (st' := [.inl 0]) (m' := m) [((122, .iconst 0, 1, 0, 0, 0, 0), (0, 0, 0))] (by decide +kernel) rfl ?_
    exact hx_reti (by decide +kernel) (h0 (by unfold isLt; omega))
  refine hsw_c (fun c8 => ?_) (fun c8 => ?_)
  · have c8 : x0 = 104 := c8
    refine hx_blk (npc := 121) (L' := [(0, .inl x0)]) (st' := [.inl 1]) (m' := m) [((120, .iconst 1, 1, 0, 0, 0, 0), (0, 0, 0))] (by decide +kernel) rfl ?_
    exact hx_reti (by decide +kernel) (h1 (by unfold isLt; omega))
  refine hsw_c (fun c9 => ?_) (fun c9 => ?_)
  · have c9 : x0 = 105 := c9
    refine hx_blk (npc := 123) (L' := [(0, .inl x0)]) (st' := [.inl 0]) (m' := m) [((122, .iconst 0, 1, 0, 0, 0, 0), (0, 0, 0))] (by decide +kernel) rfl ?_
    exact hx_reti (by decide +kernel) (h0 (by unfold isLt; omega))
  refine hsw_c (fun c10 => ?_) (fun c10 => ?_)
  · have c10 : x0 = 106 := c10
    refine hx_blk (npc := 123) (L' := [(0, .inl x0)]) (st' := [.inl 0]) (m' := m) [((122, .iconst 0, 1, 0, 0, 0, 0), (0, 0, 0))] (by decide +kernel) rfl ?_
    exact hx_reti (by decide +kernel) (h0 (by unfold isLt; omega))
  refine hsw_c (fun c11 => ?_) (fun c11 => ?_)
  · have c11 : x0 = 107 := c11
    refine hx_blk (npc := 121) (L' := [(0, .inl x0)]) (st' := [.inl 1]) (m' := m) [((120, .iconst 1, 1, 0, 0, 0, 0), (0, 0, 0))] (by decide +kernel) rfl ?_
    exact hx_reti (by decide +kernel) (h1 (by unfold isLt; omega))
  refine hsw_c (fun c12 => ?_) (fun c12 => ?_)
  · have c12 : x0 = 108 := c12
    refine hx_blk (npc := 121) (L' := [(0, .inl x0)]) (st' := [.inl 1]) (m' := m) [((120, .iconst 1, 1, 0, 0, 0, 0), (0, 0, 0))] (by decide +kernel) rfl ?_
    exact hx_reti (by decide +kernel) (h1 (by unfold isLt; omega))
  refine hsw_c (fun c13 => ?_) (fun c13 => ?_)
  · have c13 : x0 = 109 := c13
    refine hx_blk (npc := 121) (L' := [(0, .inl x0)]) (st' := [.inl 1]) (m' := m) [((120, .iconst 1, 1, 0, 0, 0, 0), (0, 0, 0))] (by decide +kernel) rfl ?_
    exact hx_reti (by decide +kernel) (h1 (by unfold isLt; omega))
  refine hsw_c (fun c14 => ?_) (fun c14 => ?_)
  · have c14 : x0 = 110 := c14
    refine hx_blk (npc := 123) (L' := [(0, .inl x0)]) (st' := [.inl 0]) (m' := m) [((122, .iconst 0, 1, 0, 0, 0, 0), (0, 0, 0))] (by decide +kernel) rfl ?_
    exact hx_reti (by decide +kernel) (h0 (by unfold isLt; omega))
  refine hsw_c (fun c15 => ?_) (fun c15 => ?_)
  · have c15 : x0 = 111 := c15
    refine hx_blk (npc := 121) (L' := [(0, .inl x0)]) (st' := [.inl 1]) (m' := m) [((120, .iconst 1, 1, 0, 0, 0, 0), (0, 0, 0))] (by decide +kernel) rfl ?_
    exact hx_reti (by decide +kernel) (h1 (by unfold isLt; omega))
  refine hsw_c (fun c16 => ?_) (fun c16 => ?_)
  · have c16 : x0 = 112 := c16
    refine hx_blk (npc := 121) (L' := [(0, .inl x0)]) (st' := [.inl 1]) (m' := m) [((120, .iconst 1, 1, 0, 0, 0, 0), (0, 0, 0))] (by decide +kernel) rfl ?_
    exact hx_reti (by decide +kernel) (h1 (by unfold isLt; omega))
  refine hsw_c (fun c17 => ?_) (fun c17 => ?_)
  · have c17 : x0 = 113 := c17
    refine hx_blk (npc := 123) (L' := [(0, .inl x0)]) (st' := [.inl 0]) (m' := m) [((122, .iconst 0, 1, 0, 0, 0, 0), (0, 0, 0))] (by decide +kernel) rfl ?_
    exact hx_reti (by decide +kernel) (h0 (by unfold isLt; omega))
  refine hsw_c (fun c18 => ?_) (fun c18 => ?_)
  · have c18 : x0 = 114 := c18
    refine hx_blk (npc := 123) (L' := [(0, .inl x0)]) (st' := [.inl 0]) (m' := m) [((122, .iconst 0, 1, 0, 0, 0, 0), (0, 0, 0))] (by decide +kernel) rfl ?_
    exact hx_reti (by decide +kernel) (h0 (by unfold isLt; omega))
  refine hsw_c (fun c19 => ?_) (fun c19 => ?_)
  · have c19 : x0 = 115 := c19
    refine hx_blk (npc := 121) (L' := [(0, .inl x0)]) (st' := [.inl 1]) (m' := m) [((120, .iconst 1, 1, 0, 0, 0, 0), (0, 0, 0))] (by decide +kernel) rfl ?_
    exact hx_reti (by decide +kernel) (h1 (by unfold isLt; omega))
  refine hsw_c (fun c20 => ?_) (fun c20 => ?_)
  · have c20 : x0 = 116 := c20
    refine hx_blk (npc := 121) (L' := [(0, .inl x0)]) (st' := [.inl 1]) (m' := m) [((120, .iconst 1, 1, 0, 0, 0, 0), (0, 0, 0))] (by decide +kernel) rfl ?_
    exact hx_reti (by decide +kernel) (h1 (by unfold isLt; omega))
  refine hsw_c (fun c21 => ?_) (fun c21 => ?_)
  · have c21 : x0 = 117 := c21
    refine hx_blk (npc := 123) (L' := [(0, .inl x0)]) (st' := [.inl 0]) (m' := m) [((122, .iconst 0, 1, 0, 0, 0, 0), (0, 0, 0))] (by decide +kernel) rfl ?_
    exact hx_reti (by decide +kernel) (h0 (by unfold isLt; omega))
  refine hsw_c (fun c22 => ?_) (fun c22 => ?_)
  · have c22 : x0 = 118 := c22
    refine hx_blk (npc := 123) (L' := [(0, .inl x0)]) (st' := [.inl 0]) (m' := m) [((122, .iconst 0, 1, 0, 0, 0, 0), (0, 0, 0))] (by decide +kernel) rfl ?_
    exact hx_reti (by decide +kernel) (h0 (by unfold isLt; omega))
  refine hsw_c (fun c23 => ?_) (fun c23 => ?_)
  · have c23 : x0 = 119 := c23
    refine hx_blk (npc := 123) (L' := [(0, .inl x0)]) (st' := [.inl 0]) (m' := m) [((122, .iconst 0, 1, 0, 0, 0, 0), (0, 0, 0))] (by decide +kernel) rfl ?_
    exact hx_reti (by decide +kernel) (h0 (by unfold isLt; omega))
  refine hsw_c (fun c24 => ?_) (fun c24 => ?_)
  · have c24 : x0 = 120 := c24
    refine hx_blk (npc := 123) (L' := [(0, .inl x0)]) (st' := [.inl 0]) (m' := m) [((122, .iconst 0, 1, 0, 0, 0, 0), (0, 0, 0))] (by decide +kernel) rfl ?_
    exact hx_reti (by decide +kernel) (h0 (by unfold isLt; omega))
  refine hsw_c (fun c25 => ?_) (fun c25 => ?_)
  · have c25 : x0 = 121 := c25
    refine hx_blk (npc := 121) (L' := [(0, .inl x0)]) (st' := [.inl 1]) (m' := m) [((120, .iconst 1, 1, 0, 0, 0, 0), (0, 0, 0))] (by decide +kernel) rfl ?_
    exact hx_reti (by decide +kernel) (h1 (by unfold isLt; omega))
  refine hsw_c (fun c26 => ?_) (fun c26 => ?_)
  · have c26 : x0 = 122 := c26
    refine hx_blk (npc := 121) (L' := [(0, .inl x0)]) (st' := [.inl 1]) (m' := m) [((120, .iconst 1, 1, 0, 0, 0, 0), (0, 0, 0))] (by decide +kernel) rfl ?_
    exact hx_reti (by decide +kernel) (h1 (by unfold isLt; omega))
  refine hsw_n ?_
  refine hx_blk (npc := 123) (L' := [(0, .inl x0)]) (st' := [.inl 0]) (m' := m) [((122, .iconst 0, 1, 0, 0, 0, 0), (0, 0, 0))] (by decide +kernel) rfl ?_
  exact hx_reti (by decide +kernel) (h0 (by unfold isLt; omega))

/-- isProductSign from 0 on -/
theorem hs39 {xs : List Int32} {n : Nat} {Q : hQ} {m : gx_M} {x0 : Int}
    (h1 : isPr x0 → Q (some (.inl 1)) m) (h0 : ¬ (isPr x0) → Q (some (.inl 0)) m) : hxn xs n yp_m39 0 [(0, .inl x0)] [] m Q := by
  refine hx_dn ?_
  refine hx_blks (npc := 3) (L' := [(0, .inl x0)]) (st' := [.inl 42, .inl x0]) (m' := m) ((0, .iload_n 0, 1, 0, 0, 0, 0), (0, 0, 0)) [((1, .bipush 42, 2, 0, 0, 0, 0), (0, 0, 0))] (by decide +kernel) rfl ?_
  refine hx_cmp .eq 18 (by decide +kernel) (fun c1 => ?_) (fun c1 => ?_)
  · have c1 : x0 = 42 := c1
    refine hx_blk (npc := 23) (L' := [(0, .inl x0)]) (st' := [.inl 1]) (m' := m) [((18, .iconst 1, 1, 0, 0, 0, 0), (0, 0, 0)), ((19, .goto 4, 3, 0, 0, 0, 0), (0, 0, 0))] (by decide +kernel) rfl ?_
    exact hx_reti (by decide +kernel) (h1 (by unfold isPr; omega))
  · have c1 : x0 ≠ 42 := c1
    refine hx_blk (npc := 9) (L' := [(0, .inl x0)]) (st' := [.inl 47, .inl x0]) (m' := m) [((6, .iload_n 0, 1, 0, 0, 0, 0), (0, 0, 0)), ((7, .bipush 47, 2, 0, 0, 0, 0), (0, 0, 0))] (by decide +kernel) rfl ?_
    refine hx_cmp .eq 18 (by decide +kernel) (fun c2 => ?_) (fun c2 => ?_)
    · have c2 : x0 = 47 := c2
      refine hx_blk (npc := 23) (L' := [(0, .inl x0)]) (st' := [.inl 1]) (m' := m) [((18, .iconst 1, 1, 0, 0, 0, 0), (0, 0, 0)), ((19, .goto 4, 3, 0, 0, 0, 0), (0, 0, 0))] (by decide +kernel) rfl ?_
      exact hx_reti (by decide +kernel) (h1 (by unfold isPr; omega))
    · have c2 : x0 ≠ 47 := c2
      refine hx_blk (npc := 15) (L' := [(0, .inl x0)]) (st' := [.inl 37, .inl x0]) (m' := m) [((12, .iload_n 0, 1, 0, 0, 0, 0), (0, 0, 0)), ((13, .bipush 37, 2, 0, 0, 0, 0), (0, 0, 0))] (by decide +kernel) rfl ?_
      refine hx_cmp .ne 22 (by decide +kernel) (fun c3 => ?_) (fun c3 => ?_)
      · have c3 : x0 ≠ 37 := c3
        refine hx_blk (npc := 23) (L' := [(0, .inl x0)]) (st' := [.inl 0]) (m' := m) [((22, .iconst 0, 1, 0, 0, 0, 0), (0, 0, 0))] (by decide +kernel) rfl ?_
        exact hx_reti (by decide +kernel) (h0 (by unfold isPr; omega))
      · have c3 : x0 = 37 := by have h : ¬ (x0 ≠ 37) := c3; omega
        refine hx_blk (npc := 23) (L' := [(0, .inl x0)]) (st' := [.inl 1]) (m' := m) [((18, .iconst 1, 1, 0, 0, 0, 0), (0, 0, 0)), ((19, .goto 4, 3, 0, 0, 0, 0), (0, 0, 0))] (by decide +kernel) rfl ?_
        exact hx_reti (by decide +kernel) (h1 (by unfold isPr; omega))

/-- isSumSign from 0 on -/
theorem hs40 {xs : List Int32} {n : Nat} {Q : hQ} {m : gx_M} {x0 : Int}
    (h1 : isSm x0 → Q (some (.inl 1)) m) (h0 : ¬ (isSm x0) → Q (some (.inl 0)) m) : hxn xs n yp_m40 0 [(0, .inl x0)] [] m Q := by
  refine hx_dn ?_
  refine hx_blks (npc := 3) (L' := [(0, .inl x0)]) (st' := [.inl 43, .inl x0]) (m' := m) ((0, .iload_n 0, 1, 0, 0, 0, 0), (0, 0, 0)) [((1, .bipush 43, 2, 0, 0, 0, 0), (0, 0, 0))] (by decide +kernel) rfl ?_
  refine hx_cmp .eq 12 (by decide +kernel) (fun c1 => ?_) (fun c1 => ?_)
  · have c1 : x0 = 43 := c1
    refine hx_blk (npc := 17) (L' := [(0, .inl x0)]) (st' := [.inl 1]) (m' := m) [((12, .iconst 1, 1, 0, 0, 0, 0), (0, 0, 0)), ((13, .goto 4, 3, 0, 0, 0, 0), (0, 0, 0))] (by decide +kernel) rfl ?_
    exact hx_reti (by decide +kernel) (h1 (by unfold isSm; omega))
  · have c1 : x0 ≠ 43 := c1
    refine hx_blk (npc := 9) (L' := [(0, .inl x0)]) (st' := [.inl 45, .inl x0]) (m' := m) [((6, .iload_n 0, 1, 0, 0, 0, 0), (0, 0, 0)), ((7, .bipush 45, 2, 0, 0, 0, 0), (0, 0, 0))] (by decide +kernel) rfl ?_
    refine hx_cmp .ne 16 (by decide +kernel) (fun c2 => ?_) (fun c2 => ?_)
    · have c2 : x0 ≠ 45 := c2
      refine hx_blk (npc := 17) (L' := [(0, .inl x0)]) (st' := [.inl 0]) (m' := m) [((16, .iconst 0, 1, 0, 0, 0, 0), (0, 0, 0))] (by decide +kernel) rfl ?_
      exact hx_reti (by decide +kernel) (h0 (by unfold isSm; omega))
    · have c2 : x0 = 45 := by have h : ¬ (x0 ≠ 45) := c2; omega
      refine hx_blk (npc := 17) (L' := [(0, .inl x0)]) (st' := [.inl 1]) (m' := m) [((12, .iconst 1, 1, 0, 0, 0, 0), (0, 0, 0)), ((13, .goto 4, 3, 0, 0, 0, 0), (0, 0, 0))] (by decide +kernel) rfl ?_
      exact hx_reti (by decide +kernel) (h1 (by unfold isSm; omega))

/-- atDigit from 0 on -/
theorem hs34 {xs : List Int32} {n : Nat} {Q : hQ} {m : gx_M}
    (h1 : isDg (m 3 3) → Q (some (.inl 1)) m) (h0 : ¬ (isDg (m 3 3)) → Q (some (.inl 0)) m) : hxn xs n yp_m34 0 [(0, .inr (.inl 3))] [] m Q := by
  refine hx_dn ?_
  refine hx_blks (npc := 6) (L' := [(0, .inr (.inl 3))]) (st' := [.inl 48, .inl (m 3 3)]) (m' := m) ((0, .aload_n 0, 1, 0, 0, 0, 0), (0, 0, 0)) [((1, .getfield 49, 3, 1, 3, 1054, 0), (0, 3, 0)), ((4, .bipush 48, 2, 0, 0, 0, 0), (0, 0, 0))] (by decide +kernel) rfl ?_
  refine hx_cmp .lt 22 (by decide +kernel) (fun c1 => ?_) (fun c1 => ?_)
  · have c1 : (m 3 3) < 48 := c1
    refine hx_blk (npc := 23) (L' := [(0, .inr (.inl 3))]) (st' := [.inl 0]) (m' := m) [((22, .iconst 0, 1, 0, 0, 0, 0), (0, 0, 0))] (by decide +kernel) rfl ?_
    exact hx_reti (by decide +kernel) (h0 (by unfold isDg; omega))
  · have c1 : 48 ≤ (m 3 3) := by have h : ¬ ((m 3 3) < 48) := c1; omega
    refine hx_blk (npc := 15) (L' := [(0, .inr (.inl 3))]) (st' := [.inl 57, .inl (m 3 3)]) (m' := m) [((9, .aload_n 0, 1, 0, 0, 0, 0), (0, 0, 0)), ((10, .getfield 49, 3, 1, 3, 1054, 0), (0, 3, 0)), ((13, .bipush 57, 2, 0, 0, 0, 0), (0, 0, 0))] (by decide +kernel) rfl ?_
    refine hx_cmp .gt 22 (by decide +kernel) (fun c2 => ?_) (fun c2 => ?_)
    · have c2 : 57 < (m 3 3) := c2
      refine hx_blk (npc := 23) (L' := [(0, .inr (.inl 3))]) (st' := [.inl 0]) (m' := m) [((22, .iconst 0, 1, 0, 0, 0, 0), (0, 0, 0))] (by decide +kernel) rfl ?_
      exact hx_reti (by decide +kernel) (h0 (by unfold isDg; omega))
    · have c2 : (m 3 3) ≤ 57 := by have h : ¬ (57 < (m 3 3)) := c2; omega
      refine hx_blk (npc := 23) (L' := [(0, .inr (.inl 3))]) (st' := [.inl 1]) (m' := m) [((18, .iconst 1, 1, 0, 0, 0, 0), (0, 0, 0)), ((19, .goto 4, 3, 0, 0, 0, 0), (0, 0, 0))] (by decide +kernel) rfl ?_
      exact hx_reti (by decide +kernel) (h1 (by unfold isDg; omega))

/-- signAt from 0 on -/
theorem hr25_0 {xs : List Int32} {n : Nat} {Q : hQ} {m : gx_M} {x1 : Int}
    (h1 : (x1 < 0) → Q (some (.inl (-1))) m)
    (h2 : (0 ≤ x1) → ((m 3 1) ≤ x1) → Q (some (.inl (-1))) m)
    (h3 : (0 ≤ x1) → (x1 < (m 3 1)) → (260 ≤ x1) → Q (some (.inl (-1))) m)
    (h4 : (0 ≤ x1) → (x1 < (m 3 1)) → (x1 < 260) → Q (some (.inl (m 4 (x1).toNat))) m) : hxn xs (n + 1) yp_m25 0 [(0, .inr (.inl 3)), (1, .inl x1)] [] m Q := by
  refine hx_blks (npc := 1) (L' := [(0, .inr (.inl 3)), (1, .inl x1)]) (st' := [.inl x1]) (m' := m) ((0, .iload_n 1, 1, 0, 0, 0, 0), (0, 0, 0)) [] (by decide +kernel) rfl ?_
  refine hx_if .lt 28 (by decide +kernel) (fun c1 => ?_) (fun c1 => ?_)
  · have c1 : x1 < 0 := c1
    refine hx_blk (npc := 29) (L' := [(0, .inr (.inl 3)), (1, .inl x1)]) (st' := [.inl (-1)]) (m' := m) [((28, .iconst (-1), 1, 0, 0, 0, 0), (0, 0, 0))] (by decide +kernel) rfl ?_
    exact hx_reti (by decide +kernel) (h1 c1)
  · have c1 : 0 ≤ x1 := by have h : ¬ (x1 < 0) := c1; omega
    refine hx_blk (npc := 9) (L' := [(0, .inr (.inl 3)), (1, .inl x1)]) (st' := [.inl (m 3 1), .inl x1]) (m' := m) [((4, .iload_n 1, 1, 0, 0, 0, 0), (0, 0, 0)), ((5, .aload_n 0, 1, 0, 0, 0, 0), (0, 0, 0)), ((6, .getfield 24, 3, 1, 1, 1050, 0), (0, 3, 0))] (by decide +kernel) rfl ?_
    refine hx_cmp .ge 28 (by decide +kernel) (fun c2 => ?_) (fun c2 => ?_)
    · have c2 : (m 3 1) ≤ x1 := c2
      refine hx_blk (npc := 29) (L' := [(0, .inr (.inl 3)), (1, .inl x1)]) (st' := [.inl (-1)]) (m' := m) [((28, .iconst (-1), 1, 0, 0, 0, 0), (0, 0, 0))] (by decide +kernel) rfl ?_
      exact hx_reti (by decide +kernel) (h2 c1 c2)
    · have c2 : x1 < (m 3 1) := by have h : ¬ ((m 3 1) ≤ x1) := c2; omega
      refine hx_blk (npc := 16) (L' := [(0, .inr (.inl 3)), (1, .inl x1)]) (st' := [.inl 260, .inl x1]) (m' := m) [((12, .iload_n 1, 1, 0, 0, 0, 0), (0, 0, 0)), ((13, .sipush 260, 3, 0, 0, 0, 0), (0, 0, 0))] (by decide +kernel) rfl ?_
      refine hx_cmp .ge 28 (by decide +kernel) (fun c3 => ?_) (fun c3 => ?_)
      · have c3 : 260 ≤ x1 := c3
        refine hx_blk (npc := 29) (L' := [(0, .inr (.inl 3)), (1, .inl x1)]) (st' := [.inl (-1)]) (m' := m) [((28, .iconst (-1), 1, 0, 0, 0, 0), (0, 0, 0))] (by decide +kernel) rfl ?_
        exact hx_reti (by decide +kernel) (h3 c1 c2 c3)
      · have c3 : x1 < 260 := by have h : ¬ (260 ≤ x1) := c3; omega
        refine hx_blk (npc := 29) (L' := [(0, .inr (.inl 3)), (1, .inl x1)]) (st' := [.inl (m 4 (x1).toNat)]) (m' := m) [((19, .aload_n 0, 1, 0, 0, 0, 0), (0, 0, 0)), ((20, .getfield 9, 3, 1, 0, 1048, 0), (1, 3, 4)), ((23, .iload_n 1, 1, 0, 0, 0, 0), (0, 0, 0)), ((24, .iaload, 1, 0, 0, 0, 0), (0, 4, 0)), ((25, .goto 4, 3, 0, 0, 0, 0), (0, 0, 0))] (by decide +kernel) rfl ?_
        exact hx_reti (by decide +kernel) (h4 c1 c2 c3)

/-- step from 0 on -/
theorem hr30_0 {xs : List Int32} {n : Nat} {Q : hQ} {m : gx_M} (g0 : 0 ≤ (m 3 2) ∧ (m 3 2) ≤ 260)
    (h1 : ((m 3 1) ≤ (m 3 2)) → hxn xs n yp_m25 0 [(0, .inr (.inl 3)), (1, .inl (m 3 2))] [] m (fun r m' => hxn xs n yp_m30 30 [] (hrs r ++ [.inr (.inl 3)]) m' Q))
    (h2 : ((m 3 2) < (m 3 1)) → hxn xs n yp_m25 0 [(0, .inr (.inl 3)), (1, .inl ((m 3 2) + 1))] [] (gx_u m 3 2 ((m 3 2) + 1)) (fun r m' => hxn xs n yp_m30 30 [] (hrs r ++ [.inr (.inl 3)]) m' Q)) : hxn xs (n + 1) yp_m30 0 [(0, .inr (.inl 3))] [] m Q := by
  refine hx_blks (npc := 8) (L' := [(0, .inr (.inl 3))]) (st' := [.inl (m 3 1), .inl (m 3 2)]) (m' := m) ((0, .aload_n 0, 1, 0, 0, 0, 0), (0, 0, 0)) [((1, .getfield 42, 3, 1, 2, 1051, 0), (0, 3, 0)), ((4, .aload_n 0, 1, 0, 0, 0, 0), (0, 0, 0)), ((5, .getfield 24, 3, 1, 1, 1050, 0), (0, 3, 0))] (by decide +kernel) rfl ?_
  refine hx_cmp .ge 21 (by decide +kernel) (fun c1 => ?_) (fun c1 => ?_)
  · have c1 : (m 3 1) ≤ (m 3 2) := c1
    refine hx_blk (npc := 27) (L' := [(0, .inr (.inl 3))]) (st' := [.inl (m 3 2), .inr (.inl 3), .inr (.inl 3)]) (m' := m) [((21, .aload_n 0, 1, 0, 0, 0, 0), (0, 0, 0)), ((22, .aload_n 0, 1, 0, 0, 0, 0), (0, 0, 0)), ((23, .aload_n 0, 1, 0, 0, 0, 0), (0, 0, 0)), ((24, .getfield 42, 3, 1, 2, 1051, 0), (0, 3, 0))] (by decide +kernel) rfl ?_
    exact hx_call (E := (27, .invokevirtual 45, 3, 25, 0, 2229, 0)) (M' := yp_m25) [.inr (.inl 3), .inl (m 3 2)] [.inr (.inl 3)] rfl (by decide +kernel) rfl ⟨rfl, rfl⟩ rfl rfl (hx_mono (h1 c1) (fun r m' h' => hx_pick [] h'))
  · have c1 : (m 3 2) < (m 3 1) := by have h : ¬ ((m 3 1) ≤ (m 3 2)) := c1; omega
    have e1 : gx_w ((m 3 2) + 1) = (m 3 2) + 1 := gx_w_id (by omega) (by omega)
    refine hx_blk (npc := 27) (L' := [(0, .inr (.inl 3))]) (st' := [.inl (gx_w ((m 3 2) + 1)), .inr (.inl 3), .inr (.inl 3)]) (m' := (gx_u m 3 2 (gx_w ((m 3 2) + 1)))) [((11, .aload_n 0, 1, 0, 0, 0, 0), (0, 0, 0)), ((12, .dup, 1, 0, 0, 0, 0), (0, 0, 0)), ((13, .getfield 42, 3, 1, 2, 1051, 0), (0, 3, 0)), ((16, .iconst 1, 1, 0, 0, 0, 0), (0, 0, 0)), ((17, .iadd, 1, 0, 0, 0, 0), (0, 0, 0)), ((18, .putfield 42, 3, 1, 2, 1051, 0), (0, 3, 0)), ((21, .aload_n 0, 1, 0, 0, 0, 0), (0, 0, 0)), ((22, .aload_n 0, 1, 0, 0, 0, 0), (0, 0, 0)), ((23, .aload_n 0, 1, 0, 0, 0, 0), (0, 0, 0)), ((24, .getfield 42, 3, 1, 2, 1051, 0), (0, 3, 0))] (by decide +kernel) rfl ?_
    rw [e1]
    exact hx_call (E := (27, .invokevirtual 45, 3, 25, 0, 2229, 0)) (M' := yp_m25) [.inr (.inl 3), .inl ((m 3 2) + 1)] [.inr (.inl 3)] rfl (by decide +kernel) rfl ⟨rfl, rfl⟩ rfl rfl (hx_mono (h2 c1) (fun r m' h' => hx_pick [] h'))

/-- step from 30 on -/
theorem hr30_30 {xs : List Int32} {n : Nat} {Q : hQ} {m : gx_M} {s1 : Int}
    (h1 : Q none (gx_u m 3 3 s1)) : hxn xs (n + 1) yp_m30 30 [] [.inl s1, .inr (.inl 3)] m Q := by
  refine hx_blks (npc := 33) (L' := []) (st' := []) (m' := (gx_u m 3 3 s1)) ((30, .putfield 49, 3, 1, 3, 1054, 0), (0, 3, 0)) [] (by decide +kernel) rfl ?_
  exact hx_ret0 (by decide +kernel) h1

/-- blame from 0 on -/
theorem hr29_0 {xs : List Int32} {n : Nat} {Q : hQ} {m : gx_M} {x1 x2 : Int}
    (h1 : ((m 3 4) ≠ 0) → Q (some (.inl 0)) m)
    (h2 : ((m 3 4) = 0) → Q (some (.inl 0)) (gx_u m 3 4 (gx_w ((gx_w ((-1000) * x1)) - x2)))) : hxn xs (n + 1) yp_m29 0 [(0, .inr (.inl 3)), (1, .inl x1), (2, .inl x2)] [] m Q := by
  refine hx_blks (npc := 4) (L' := [(0, .inr (.inl 3)), (1, .inl x1), (2, .inl x2)]) (st' := [.inl (m 3 4)]) (m' := m) ((0, .aload_n 0, 1, 0, 0, 0, 0), (0, 0, 0)) [((1, .getfield 52, 3, 1, 4, 1057, 0), (0, 3, 0))] (by decide +kernel) rfl ?_
  refine hx_if .ne 18 (by decide +kernel) (fun c1 => ?_) (fun c1 => ?_)
  · have c1 : (m 3 4) ≠ 0 := c1
    refine hx_blk (npc := 19) (L' := [(0, .inr (.inl 3)), (1, .inl x1), (2, .inl x2)]) (st' := [.inl 0]) (m' := m) [((18, .iconst 0, 1, 0, 0, 0, 0), (0, 0, 0))] (by decide +kernel) rfl ?_
    exact hx_reti (by decide +kernel) (h1 c1)
  · have c1 : (m 3 4) = 0 := by have h : ¬ ((m 3 4) ≠ 0) := c1; omega
    refine hx_blk (npc := 19) (L' := [(0, .inr (.inl 3)), (1, .inl x1), (2, .inl x2)]) (st' := [.inl 0]) (m' := (gx_u m 3 4 (gx_w ((gx_w ((-1000) * x1)) - x2)))) [((7, .aload_n 0, 1, 0, 0, 0, 0), (0, 0, 0)), ((8, .sipush (-1000), 3, 0, 0, 0, 0), (0, 0, 0)), ((11, .iload_n 1, 1, 0, 0, 0, 0), (0, 0, 0)), ((12, .imul, 1, 0, 0, 0, 0), (0, 0, 0)), ((13, .iload_n 2, 1, 0, 0, 0, 0), (0, 0, 0)), ((14, .isub, 1, 0, 0, 0, 0), (0, 0, 0)), ((15, .putfield 52, 3, 1, 4, 1057, 0), (0, 3, 0)), ((18, .iconst 0, 1, 0, 0, 0, 0), (0, 0, 0))] (by decide +kernel) rfl ?_
    exact hx_reti (by decide +kernel) (h2 c1)

/-- misplaced from 0 on -/
theorem hr28_0 {xs : List Int32} {n : Nat} {Q : hQ} {m : gx_M}
    (h1 : hxn xs n yp_m29 0 [(0, .inr (.inl 3)), (1, .inl 1), (2, .inl (m 3 2))] [] m (fun r m' => hxn xs n yp_m28 9 [] (hrs r ++ []) m' Q)) : hxn xs (n + 1) yp_m28 0 [(0, .inr (.inl 3))] [] m Q := by
  refine hx_blks (npc := 6) (L' := [(0, .inr (.inl 3))]) (st' := [.inl (m 3 2), .inl 1, .inr (.inl 3)]) (m' := m) ((0, .aload_n 0, 1, 0, 0, 0, 0), (0, 0, 0)) [((1, .iconst 1, 1, 0, 0, 0, 0), (0, 0, 0)), ((2, .aload_n 0, 1, 0, 0, 0, 0), (0, 0, 0)), ((3, .getfield 42, 3, 1, 2, 1051, 0), (0, 3, 0))] (by decide +kernel) rfl ?_
  exact hx_call (E := (6, .invokevirtual 55, 3, 29, 0, 3005, 0)) (M' := yp_m29) [.inr (.inl 3), .inl 1, .inl (m 3 2)] [] rfl (by decide +kernel) rfl ⟨rfl, rfl⟩ rfl rfl (hx_mono h1 (fun r m' h' => hx_pick [] h'))

/-- misplaced from 9 on -/
theorem hr28_9 {xs : List Int32} {n : Nat} {Q : hQ} {m : gx_M} {s0 : Int}
    (h1 : Q (some (.inl s0)) m) : hxn xs (n + 1) yp_m28 9 [] [.inl s0] m Q := by
  exact hx_reti (by decide +kernel) h1

/-- pass from 0 on -/
theorem hr37_0 {xs : List Int32} {n : Nat} {Q : hQ} {m : gx_M} {x1 : Int}
    (h1 : ((m 3 3) = x1) → hxn xs n yp_m30 0 [(0, .inr (.inl 3))] [] m (fun r m' => hxn xs n yp_m37 17 [] (hrs r ++ []) m' Q))
    (h2 : ((m 3 3) ≠ x1) → hxn xs n yp_m28 0 [(0, .inr (.inl 3))] [] m (fun r m' => hxn xs n yp_m37 12 [] (hrs r ++ []) m' Q)) : hxn xs (n + 1) yp_m37 0 [(0, .inr (.inl 3)), (1, .inl x1)] [] m Q := by
  refine hx_blks (npc := 5) (L' := [(0, .inr (.inl 3)), (1, .inl x1)]) (st' := [.inl x1, .inl (m 3 3)]) (m' := m) ((0, .aload_n 0, 1, 0, 0, 0, 0), (0, 0, 0)) [((1, .getfield 49, 3, 1, 3, 1054, 0), (0, 3, 0)), ((4, .iload_n 1, 1, 0, 0, 0, 0), (0, 0, 0))] (by decide +kernel) rfl ?_
  refine hx_cmp .eq 13 (by decide +kernel) (fun c1 => ?_) (fun c1 => ?_)
  · have c1 : (m 3 3) = x1 := c1
    refine hx_blk (npc := 14) (L' := [(0, .inr (.inl 3)), (1, .inl x1)]) (st' := [.inr (.inl 3)]) (m' := m) [((13, .aload_n 0, 1, 0, 0, 0, 0), (0, 0, 0))] (by decide +kernel) rfl ?_
    exact hx_call (E := (14, .invokevirtual 63, 3, 30, 0, 3035, 0)) (M' := yp_m30) [.inr (.inl 3)] [] rfl (by decide +kernel) rfl ⟨rfl, rfl⟩ rfl rfl (hx_mono (h1 c1) (fun r m' h' => hx_pick [] h'))
  · have c1 : (m 3 3) ≠ x1 := c1
    refine hx_blk (npc := 9) (L' := [(0, .inr (.inl 3)), (1, .inl x1)]) (st' := [.inr (.inl 3)]) (m' := m) [((8, .aload_n 0, 1, 0, 0, 0, 0), (0, 0, 0))] (by decide +kernel) rfl ?_
    exact hx_call (E := (9, .invokevirtual 59, 3, 28, 0, 3044, 0)) (M' := yp_m28) [.inr (.inl 3)] [] rfl (by decide +kernel) rfl ⟨rfl, rfl⟩ rfl rfl (hx_mono (h2 c1) (fun r m' h' => hx_pick [] h'))

/-- pass from 12 on -/
theorem hr37_12 {xs : List Int32} {n : Nat} {Q : hQ} {m : gx_M} {s0 : Int}
    (h1 : Q (some (.inl s0)) m) : hxn xs (n + 1) yp_m37 12 [] [.inl s0] m Q := by
  exact hx_reti (by decide +kernel) h1

/-- pass from 17 on -/
theorem hr37_17 {xs : List Int32} {n : Nat} {Q : hQ} {m : gx_M}
    (h1 : Q (some (.inl 1)) m) : hxn xs (n + 1) yp_m37 17 [] [] m Q := by
  refine hx_blks (npc := 18) (L' := []) (st' := [.inl 1]) (m' := m) ((17, .iconst 1, 1, 0, 0, 0, 0), (0, 0, 0)) [] (by decide +kernel) rfl ?_
  exact hx_reti (by decide +kernel) h1

/-- emit from 0 on -/
theorem hr36_0 {xs : List Int32} {n : Nat} {Q : hQ} {m : gx_M} {x1 x2 : Int}
    (h1 : ((m 53 2) < 0) → Q (some (.inl (-1))) m)
    (h2 : (0 ≤ (m 53 2)) → ((m 53 2) < 240) → Q (some (.inl (m 53 2))) (gx_u (gx_u (gx_u m 54 (m 53 2).toNat x1) 55 (m 53 2).toNat x2) 53 2 ((m 53 2) + 1)))
    (h3 : (0 ≤ (m 53 2)) → (240 ≤ (m 53 2)) → Q (some (.inl (-1))) m) : hxn xs (n + 1) yp_m36 0 [(0, .inr (.inl 53)), (1, .inl x1), (2, .inl x2)] [] m Q := by
  refine hx_blks (npc := 4) (L' := [(0, .inr (.inl 53)), (1, .inl x1), (2, .inl x2)]) (st' := [.inl (m 53 2)]) (m' := m) ((0, .aload_n 0, 1, 0, 0, 0, 0), (0, 0, 0)) [((1, .getfield 43, 3, 3, 2, 1181, 0), (0, 53, 0))] (by decide +kernel) rfl ?_
  refine hx_if .lt 17 (by decide +kernel) (fun c1 => ?_) (fun c1 => ?_)
  · have c1 : (m 53 2) < 0 := c1
    refine hx_blk (npc := 18) (L' := [(0, .inr (.inl 53)), (1, .inl x1), (2, .inl x2)]) (st' := [.inl (-1)]) (m' := m) [((17, .iconst (-1), 1, 0, 0, 0, 0), (0, 0, 0))] (by decide +kernel) rfl ?_
    exact hx_reti (by decide +kernel) (h1 c1)
  · have c1 : 0 ≤ (m 53 2) := by have h : ¬ ((m 53 2) < 0) := c1; omega
    refine hx_blk (npc := 14) (L' := [(0, .inr (.inl 53)), (1, .inl x1), (2, .inl x2)]) (st' := [.inl 240, .inl (m 53 2)]) (m' := m) [((7, .aload_n 0, 1, 0, 0, 0, 0), (0, 0, 0)), ((8, .getfield 43, 3, 3, 2, 1181, 0), (0, 53, 0)), ((11, .sipush 240, 3, 0, 0, 0, 0), (0, 0, 0))] (by decide +kernel) rfl ?_
    refine hx_cmp .lt 19 (by decide +kernel) (fun c2 => ?_) (fun c2 => ?_)
    · have c2 : (m 53 2) < 240 := c2
      have e1 : gx_w ((m 53 2) + 1) = (m 53 2) + 1 := gx_w_id (by omega) (by omega)
      refine hx_blk (npc := 50) (L' := [(0, .inr (.inl 53)), (1, .inl x1), (2, .inl x2)]) (st' := [.inl (m 53 2)]) (m' := (gx_u (gx_u (gx_u m 54 (m 53 2).toNat x1) 55 (m 53 2).toNat x2) 53 2 (gx_w ((m 53 2) + 1)))) [((19, .aload_n 0, 1, 0, 0, 0, 0), (0, 0, 0)), ((20, .getfield 9, 3, 3, 0, 1178, 0), (1, 53, 54)), ((23, .aload_n 0, 1, 0, 0, 0, 0), (0, 0, 0)), ((24, .getfield 43, 3, 3, 2, 1181, 0), (0, 53, 0)), ((27, .iload_n 1, 1, 0, 0, 0, 0), (0, 0, 0)), ((28, .iastore, 1, 0, 0, 0, 0), (0, 54, 0)), ((29, .aload_n 0, 1, 0, 0, 0, 0), (0, 0, 0)), ((30, .getfield 15, 3, 3, 1, 1179, 0), (1, 53, 55)), ((33, .aload_n 0, 1, 0, 0, 0, 0), (0, 0, 0)), ((34, .getfield 43, 3, 3, 2, 1181, 0), (0, 53, 0)), ((37, .iload_n 2, 1, 0, 0, 0, 0), (0, 0, 0)), ((38, .iastore, 1, 0, 0, 0, 0), (0, 55, 0)), ((39, .aload_n 0, 1, 0, 0, 0, 0), (0, 0, 0)), ((40, .dup, 1, 0, 0, 0, 0), (0, 0, 0)), ((41, .getfield 43, 3, 3, 2, 1181, 0), (0, 53, 0)), ((44, .dup_x1, 1, 0, 0, 0, 0), (0, 0, 0)), ((45, .iconst 1, 1, 0, 0, 0, 0), (0, 0, 0)), ((46, .iadd, 1, 0, 0, 0, 0), (0, 0, 0)), ((47, .putfield 43, 3, 3, 2, 1181, 0), (0, 53, 0))] (by decide +kernel) rfl ?_
      rw [e1]
      exact hx_reti (by decide +kernel) (h2 c1 c2)
    · have c2 : 240 ≤ (m 53 2) := by have h : ¬ ((m 53 2) < 240) := c2; omega
      refine hx_blk (npc := 18) (L' := [(0, .inr (.inl 53)), (1, .inl x1), (2, .inl x2)]) (st' := [.inl (-1)]) (m' := m) [((17, .iconst (-1), 1, 0, 0, 0, 0), (0, 0, 0))] (by decide +kernel) rfl ?_
      exact hx_reti (by decide +kernel) (h3 c1 c2)

/-- jumpToHere from 0 on -/
theorem hr44_0 {xs : List Int32} {n : Nat} {Q : hQ} {m : gx_M} {x1 : Int}
    (h1 : (x1 < 0) → Q none m)
    (h2 : (0 ≤ x1) → (240 ≤ x1) → Q none m)
    (h3 : (0 ≤ x1) → (x1 < 240) → Q none (gx_u m 55 (x1).toNat (m 53 2))) : hxn xs (n + 1) yp_m44 0 [(0, .inr (.inl 53)), (1, .inl x1)] [] m Q := by
  refine hx_blks (npc := 1) (L' := [(0, .inr (.inl 53)), (1, .inl x1)]) (st' := [.inl x1]) (m' := m) ((0, .iload_n 1, 1, 0, 0, 0, 0), (0, 0, 0)) [] (by decide +kernel) rfl ?_
  refine hx_if .lt 21 (by decide +kernel) (fun c1 => ?_) (fun c1 => ?_)
  · have c1 : x1 < 0 := c1
    exact hx_ret0 (by decide +kernel) (h1 c1)
  · have c1 : 0 ≤ x1 := by have h : ¬ (x1 < 0) := c1; omega
    refine hx_blk (npc := 8) (L' := [(0, .inr (.inl 53)), (1, .inl x1)]) (st' := [.inl 240, .inl x1]) (m' := m) [((4, .iload_n 1, 1, 0, 0, 0, 0), (0, 0, 0)), ((5, .sipush 240, 3, 0, 0, 0, 0), (0, 0, 0))] (by decide +kernel) rfl ?_
    refine hx_cmp .ge 21 (by decide +kernel) (fun c2 => ?_) (fun c2 => ?_)
    · have c2 : 240 ≤ x1 := c2
      exact hx_ret0 (by decide +kernel) (h2 c1 c2)
    · have c2 : x1 < 240 := by have h : ¬ (240 ≤ x1) := c2; omega
      refine hx_blk (npc := 21) (L' := [(0, .inr (.inl 53)), (1, .inl x1)]) (st' := []) (m' := (gx_u m 55 (x1).toNat (m 53 2))) [((11, .aload_n 0, 1, 0, 0, 0, 0), (0, 0, 0)), ((12, .getfield 15, 3, 3, 1, 1179, 0), (1, 53, 55)), ((15, .iload_n 1, 1, 0, 0, 0, 0), (0, 0, 0)), ((16, .aload_n 0, 1, 0, 0, 0, 0), (0, 0, 0)), ((17, .getfield 43, 3, 3, 2, 1181, 0), (0, 53, 0)), ((20, .iastore, 1, 0, 0, 0, 0), (0, 55, 0))] (by decide +kernel) rfl ?_
      exact hx_ret0 (by decide +kernel) (h3 c1 c2)

/-- ended from 0 on -/
theorem hr46_0 {xs : List Int32} {n : Nat} {Q : hQ} {m : gx_M}
    (h1 : ((m 3 2) < (m 3 1)) → Q (some (.inl 0)) m)
    (h2 : ((m 3 1) ≤ (m 3 2)) → Q (some (.inl 1)) m) : hxn xs (n + 1) yp_m46 0 [(0, .inr (.inl 3))] [] m Q := by
  refine hx_blks (npc := 8) (L' := [(0, .inr (.inl 3))]) (st' := [.inl (m 3 1), .inl (m 3 2)]) (m' := m) ((0, .aload_n 0, 1, 0, 0, 0, 0), (0, 0, 0)) [((1, .getfield 42, 3, 1, 2, 1051, 0), (0, 3, 0)), ((4, .aload_n 0, 1, 0, 0, 0, 0), (0, 0, 0)), ((5, .getfield 24, 3, 1, 1, 1050, 0), (0, 3, 0))] (by decide +kernel) rfl ?_
  refine hx_cmp .lt 15 (by decide +kernel) (fun c1 => ?_) (fun c1 => ?_)
  · have c1 : (m 3 2) < (m 3 1) := c1
    refine hx_blk (npc := 16) (L' := [(0, .inr (.inl 3))]) (st' := [.inl 0]) (m' := m) [((15, .iconst 0, 1, 0, 0, 0, 0), (0, 0, 0))] (by decide +kernel) rfl ?_
    exact hx_reti (by decide +kernel) (h1 c1)
  · have c1 : (m 3 1) ≤ (m 3 2) := by have h : ¬ ((m 3 2) < (m 3 1)) := c1; omega
    refine hx_blk (npc := 16) (L' := [(0, .inr (.inl 3))]) (st' := [.inl 1]) (m' := m) [((11, .iconst 1, 1, 0, 0, 0, 0), (0, 0, 0)), ((12, .goto 4, 3, 0, 0, 0, 0), (0, 0, 0))] (by decide +kernel) rfl ?_
    exact hx_reti (by decide +kernel) (h2 c1)

/-- close from 0 on -/
theorem hr45_0 {xs : List Int32} {n : Nat} {Q : hQ} {m : gx_M} {x1 x2 x3 : Int}
    (h1 : ((m 53 7) < 0) → Q none m)
    (h2 : (0 ≤ (m 53 7)) → ((m 53 7) < 16) → Q none (gx_u (gx_u (gx_u (gx_u (gx_u m 56 (m 53 7).toNat x1) 57 (m 53 7).toNat x2) 58 (m 53 7).toNat x3) 59 (m 53 7).toNat (m 53 2)) 53 7 ((m 53 7) + 1)))
    (h3 : (0 ≤ (m 53 7)) → (16 ≤ (m 53 7)) → Q none m) : hxn xs (n + 1) yp_m45 0 [(0, .inr (.inl 53)), (1, .inl x1), (2, .inl x2), (3, .inl x3)] [] m Q := by
  refine hx_blks (npc := 4) (L' := [(0, .inr (.inl 53)), (1, .inl x1), (2, .inl x2), (3, .inl x3)]) (st' := [.inl (m 53 7)]) (m' := m) ((0, .aload_n 0, 1, 0, 0, 0, 0), (0, 0, 0)) [((1, .getfield 39, 3, 3, 7, 1187, 0), (0, 53, 0))] (by decide +kernel) rfl ?_
  refine hx_if .lt 16 (by decide +kernel) (fun c1 => ?_) (fun c1 => ?_)
  · have c1 : (m 53 7) < 0 := c1
    exact hx_ret0 (by decide +kernel) (h1 c1)
  · have c1 : 0 ≤ (m 53 7) := by have h : ¬ ((m 53 7) < 0) := c1; omega
    refine hx_blk (npc := 13) (L' := [(0, .inr (.inl 53)), (1, .inl x1), (2, .inl x2), (3, .inl x3)]) (st' := [.inl 16, .inl (m 53 7)]) (m' := m) [((7, .aload_n 0, 1, 0, 0, 0, 0), (0, 0, 0)), ((8, .getfield 39, 3, 3, 7, 1187, 0), (0, 53, 0)), ((11, .bipush 16, 2, 0, 0, 0, 0), (0, 0, 0))] (by decide +kernel) rfl ?_
    refine hx_cmp .lt 17 (by decide +kernel) (fun c2 => ?_) (fun c2 => ?_)
    · have c2 : (m 53 7) < 16 := c2
      have e1 : gx_w ((m 53 7) + 1) = (m 53 7) + 1 := gx_w_id (by omega) (by omega)
      refine hx_blk (npc := 70) (L' := [(0, .inr (.inl 53)), (1, .inl x1), (2, .inl x2), (3, .inl x3)]) (st' := []) (m' := (gx_u (gx_u (gx_u (gx_u (gx_u m 56 (m 53 7).toNat x1) 57 (m 53 7).toNat x2) 58 (m 53 7).toNat x3) 59 (m 53 7).toNat (m 53 2)) 53 7 (gx_w ((m 53 7) + 1)))) [((17, .aload_n 0, 1, 0, 0, 0, 0), (0, 0, 0)), ((18, .getfield 18, 3, 3, 3, 1182, 0), (1, 53, 56)), ((21, .aload_n 0, 1, 0, 0, 0, 0), (0, 0, 0)), ((22, .getfield 39, 3, 3, 7, 1187, 0), (0, 53, 0)), ((25, .iload_n 1, 1, 0, 0, 0, 0), (0, 0, 0)), ((26, .iastore, 1, 0, 0, 0, 0), (0, 56, 0)), ((27, .aload_n 0, 1, 0, 0, 0, 0), (0, 0, 0)), ((28, .getfield 21, 3, 3, 4, 1183, 0), (1, 53, 57)), ((31, .aload_n 0, 1, 0, 0, 0, 0), (0, 0, 0)), ((32, .getfield 39, 3, 3, 7, 1187, 0), (0, 53, 0)), ((35, .iload_n 2, 1, 0, 0, 0, 0), (0, 0, 0)), ((36, .iastore, 1, 0, 0, 0, 0), (0, 57, 0)), ((37, .aload_n 0, 1, 0, 0, 0, 0), (0, 0, 0)), ((38, .getfield 24, 3, 3, 5, 1184, 0), (1, 53, 58)), ((41, .aload_n 0, 1, 0, 0, 0, 0), (0, 0, 0)), ((42, .getfield 39, 3, 3, 7, 1187, 0), (0, 53, 0)), ((45, .iload_n 3, 1, 0, 0, 0, 0), (0, 0, 0)), ((46, .iastore, 1, 0, 0, 0, 0), (0, 58, 0)), ((47, .aload_n 0, 1, 0, 0, 0, 0), (0, 0, 0)), ((48, .getfield 27, 3, 3, 6, 1185, 0), (1, 53, 59)), ((51, .aload_n 0, 1, 0, 0, 0, 0), (0, 0, 0)), ((52, .getfield 39, 3, 3, 7, 1187, 0), (0, 53, 0)), ((55, .aload_n 0, 1, 0, 0, 0, 0), (0, 0, 0)), ((56, .getfield 43, 3, 3, 2, 1181, 0), (0, 53, 0)), ((59, .iastore, 1, 0, 0, 0, 0), (0, 59, 0)), ((60, .aload_n 0, 1, 0, 0, 0, 0), (0, 0, 0)), ((61, .dup, 1, 0, 0, 0, 0), (0, 0, 0)), ((62, .getfield 39, 3, 3, 7, 1187, 0), (0, 53, 0)), ((65, .iconst 1, 1, 0, 0, 0, 0), (0, 0, 0)), ((66, .iadd, 1, 0, 0, 0, 0), (0, 0, 0)), ((67, .putfield 39, 3, 3, 7, 1187, 0), (0, 53, 0))] (by decide +kernel) rfl ?_
      rw [e1]
      exact hx_ret0 (by decide +kernel) (h2 c1 c2)
    · have c2 : 16 ≤ (m 53 7) := by have h : ¬ ((m 53 7) < 16) := c2; omega
      exact hx_ret0 (by decide +kernel) (h3 c1 c2)

/-- has from 0 on -/
theorem hr23_0 {xs : List Int32} {n : Nat} {Q : hQ} {m : gx_M} {x1 x2 : Int}
    (h1 : (x1 < 1) → Q (some (.inl 0)) m)
    (h2 : (1 ≤ x1) → (x2 < x1) → Q (some (.inl 0)) m)
    (h3 : (1 ≤ x1) → (x1 ≤ x2) → ((m 1 1) < x1) → Q (some (.inl 0)) m)
    (h4 : (1 ≤ x1) → (x1 ≤ x2) → (x1 ≤ (m 1 1)) → Q (some (.inl 1)) m) : hxn xs (n + 1) yp_m23 0 [(0, .inr (.inl 1)), (1, .inl x1), (2, .inl x2)] [] m Q := by
  refine hx_blks (npc := 2) (L' := [(0, .inr (.inl 1)), (1, .inl x1), (2, .inl x2)]) (st' := [.inl 1, .inl x1]) (m' := m) ((0, .iload_n 1, 1, 0, 0, 0, 0), (0, 0, 0)) [((1, .iconst 1, 1, 0, 0, 0, 0), (0, 0, 0))] (by decide +kernel) rfl ?_
  refine hx_cmp .lt 22 (by decide +kernel) (fun c1 => ?_) (fun c1 => ?_)
  · have c1 : x1 < 1 := c1
    refine hx_blk (npc := 23) (L' := [(0, .inr (.inl 1)), (1, .inl x1), (2, .inl x2)]) (st' := [.inl 0]) (m' := m) [((22, .iconst 0, 1, 0, 0, 0, 0), (0, 0, 0))] (by decide +kernel) rfl ?_
    exact hx_reti (by decide +kernel) (h1 c1)
  · have c1 : 1 ≤ x1 := by have h : ¬ (x1 < 1) := c1; omega
    refine hx_blk (npc := 7) (L' := [(0, .inr (.inl 1)), (1, .inl x1), (2, .inl x2)]) (st' := [.inl x2, .inl x1]) (m' := m) [((5, .iload_n 1, 1, 0, 0, 0, 0), (0, 0, 0)), ((6, .iload_n 2, 1, 0, 0, 0, 0), (0, 0, 0))] (by decide +kernel) rfl ?_
    refine hx_cmp .gt 22 (by decide +kernel) (fun c2 => ?_) (fun c2 => ?_)
    · have c2 : x2 < x1 := c2
      refine hx_blk (npc := 23) (L' := [(0, .inr (.inl 1)), (1, .inl x1), (2, .inl x2)]) (st' := [.inl 0]) (m' := m) [((22, .iconst 0, 1, 0, 0, 0, 0), (0, 0, 0))] (by decide +kernel) rfl ?_
      exact hx_reti (by decide +kernel) (h2 c1 c2)
    · have c2 : x1 ≤ x2 := by have h : ¬ (x2 < x1) := c2; omega
      refine hx_blk (npc := 15) (L' := [(0, .inr (.inl 1)), (1, .inl x1), (2, .inl x2)]) (st' := [.inl (m 1 1), .inl x1]) (m' := m) [((10, .iload_n 1, 1, 0, 0, 0, 0), (0, 0, 0)), ((11, .aload_n 0, 1, 0, 0, 0, 0), (0, 0, 0)), ((12, .getfield 15, 3, 0, 1, 1033, 0), (0, 1, 0))] (by decide +kernel) rfl ?_
      refine hx_cmp .gt 22 (by decide +kernel) (fun c3 => ?_) (fun c3 => ?_)
      · have c3 : (m 1 1) < x1 := c3
        refine hx_blk (npc := 23) (L' := [(0, .inr (.inl 1)), (1, .inl x1), (2, .inl x2)]) (st' := [.inl 0]) (m' := m) [((22, .iconst 0, 1, 0, 0, 0, 0), (0, 0, 0))] (by decide +kernel) rfl ?_
        exact hx_reti (by decide +kernel) (h3 c1 c2 c3)
      · have c3 : x1 ≤ (m 1 1) := by have h : ¬ ((m 1 1) < x1) := c3; omega
        refine hx_blk (npc := 23) (L' := [(0, .inr (.inl 1)), (1, .inl x1), (2, .inl x2)]) (st' := [.inl 1]) (m' := m) [((18, .iconst 1, 1, 0, 0, 0, 0), (0, 0, 0)), ((19, .goto 4, 3, 0, 0, 0, 0), (0, 0, 0))] (by decide +kernel) rfl ?_
        exact hx_reti (by decide +kernel) (h4 c1 c2 c3)

/-- take from 0 on -/
theorem hr24_0 {xs : List Int32} {n : Nat} {Q : hQ} {m : gx_M} {x2 : Int}
    (h1 : hxn xs n yp_m25 0 [(0, .inr (.inl 3)), (1, .inl 0)] [] (gx_u (gx_u (hcopy (gx_u m 3 1 (if 0 < (if 260 < x2 then 260 else x2) then (if 260 < x2 then 260 else x2) else 0)) 2 0 4 0 (if 0 < (if 260 < x2 then 260 else x2) then (if 260 < x2 then 260 else x2) else 0).toNat) 1 1 0) 3 2 0) (fun r m' => hxn xs n yp_m24 48 [(0, .inr (.inl 3))] (hrs r ++ [.inr (.inl 3)]) m' Q)) : hxn xs (n + 1) yp_m24 0 [(0, .inr (.inl 3)), (1, .inr (.inl 1)), (2, .inl x2)] [] m Q := by
  refine hx_blks (npc := 45) (L' := [(0, .inr (.inl 3)), (1, .inr (.inl 1)), (2, .inl x2)]) (st' := [.inl 0, .inr (.inl 3), .inr (.inl 3)]) (m' := (gx_u (gx_u (hcopy (gx_u m 3 1 (if 0 < (if 260 < x2 then 260 else x2) then (if 260 < x2 then 260 else x2) else 0)) 2 0 4 0 (if 0 < (if 260 < x2 then 260 else x2) then (if 260 < x2 then 260 else x2) else 0).toNat) 1 1 0) 3 2 0)) ((0, .aload_n 0, 1, 0, 0, 0, 0), (0, 0, 0)) [((1, .iconst 0, 1, 0, 0, 0, 0), (0, 0, 0)), ((2, .iload_n 2, 1, 0, 0, 0, 0), (0, 0, 0)), ((3, .sipush 260, 3, 0, 0, 0, 0), (0, 0, 0)), ((6, .invokestatic 15, 3, 1003, 2221, 2220, 1013002222), (0, 0, 0)), ((9, .invokestatic 21, 3, 1002, 2224, 2223, 1013002225), (0, 0, 0)), ((12, .putfield 24, 3, 1, 1, 1050, 0), (0, 3, 0)), ((15, .aload_n 1, 1, 0, 0, 0, 0), (0, 0, 0)), ((16, .getfield 28, 3, 0, 0, 1032, 0), (1, 1, 2)), ((19, .iconst 0, 1, 0, 0, 0, 0), (0, 0, 0)), ((20, .aload_n 0, 1, 0, 0, 0, 0), (0, 0, 0)), ((21, .getfield 9, 3, 1, 0, 1048, 0), (1, 3, 4)), ((24, .iconst 0, 1, 0, 0, 0, 0), (0, 0, 0)), ((25, .aload_n 0, 1, 0, 0, 0, 0), (0, 0, 0)), ((26, .getfield 24, 3, 1, 1, 1050, 0), (0, 3, 0)), ((29, .invokestatic 33, 3, 1001, 2228, 2226, 1014), (0, 2, 4)), ((32, .aload_n 1, 1, 0, 0, 0, 0), (0, 0, 0)), ((33, .iconst 0, 1, 0, 0, 0, 0), (0, 0, 0)), ((34, .putfield 39, 3, 0, 1, 1034, 0), (0, 1, 0)), ((37, .aload_n 0, 1, 0, 0, 0, 0), (0, 0, 0)), ((38, .iconst 0, 1, 0, 0, 0, 0), (0, 0, 0)), ((39, .putfield 42, 3, 1, 2, 1051, 0), (0, 3, 0)), ((42, .aload_n 0, 1, 0, 0, 0, 0), (0, 0, 0)), ((43, .aload_n 0, 1, 0, 0, 0, 0), (0, 0, 0)), ((44, .iconst 0, 1, 0, 0, 0, 0), (0, 0, 0))] (by decide +kernel) rfl ?_
  exact hx_call (E := (45, .invokevirtual 45, 3, 25, 0, 2229, 0)) (M' := yp_m25) [.inr (.inl 3), .inl 0] [.inr (.inl 3)] rfl (by decide +kernel) rfl ⟨rfl, rfl⟩ rfl rfl (hx_mono h1 (fun r m' h' => hx_pick [0] h'))

/-- take from 48 on -/
theorem hr24_48 {xs : List Int32} {n : Nat} {Q : hQ} {m : gx_M} {s1 : Int}
    (h1 : Q none (gx_u (gx_u m 3 3 s1) 3 4 0)) : hxn xs (n + 1) yp_m24 48 [(0, .inr (.inl 3))] [.inl s1, .inr (.inl 3)] m Q := by
  refine hx_blks (npc := 56) (L' := [(0, .inr (.inl 3))]) (st' := []) (m' := (gx_u (gx_u m 3 3 s1) 3 4 0)) ((48, .putfield 49, 3, 1, 3, 1054, 0), (0, 3, 0)) [((51, .aload_n 0, 1, 0, 0, 0, 0), (0, 0, 0)), ((52, .iconst 0, 1, 0, 0, 0, 0), (0, 0, 0)), ((53, .putfield 52, 3, 1, 4, 1057, 0), (0, 3, 0))] (by decide +kernel) rfl ?_
  exact hx_ret0 (by decide +kernel) h1

/-- digits from 0 on -/
theorem hr35_0 {xs : List Int32} {n : Nat} {Q : hQ} {m : gx_M} {x1 : Int}
    (h1 : hxn xs n yp_m35 4 [(0, .inr (.inl 3)), (1, .inl x1), (2, .inl 0), (3, .inl 0)] [] m Q) : hxn xs (n + 1) yp_m35 0 [(0, .inr (.inl 3)), (1, .inl x1)] [] m Q := by
  refine hx_blks (npc := 4) (L' := [(0, .inr (.inl 3)), (1, .inl x1), (2, .inl 0), (3, .inl 0)]) (st' := []) (m' := m) ((0, .iconst 0, 1, 0, 0, 0, 0), (0, 0, 0)) [((1, .istore_n 2, 1, 0, 0, 0, 0), (0, 0, 0)), ((2, .iconst 0, 1, 0, 0, 0, 0), (0, 0, 0)), ((3, .istore_n 3, 1, 0, 0, 0, 0), (0, 0, 0))] (by decide +kernel) rfl ?_
  exact hx_pick [0, 1, 2, 3] h1

/-- digits from 4 on -/
theorem hr35_4 {xs : List Int32} {n : Nat} {Q : hQ} {m : gx_M} {x1 x2 x3 : Int} (r_x3 : 0 ≤ x3 ∧ x3 ≤ 100)
    (h1 : (x1 ≤ x3) → Q (some (.inl x2)) m)
    (h2 : (x3 < x1) → (isDg (m 3 3)) → hxn xs n yp_m30 0 [(0, .inr (.inl 3))] [] m (fun r m' => hxn xs n yp_m35 33 [(0, .inr (.inl 3)), (1, .inl x1), (2, .inl (gx_w ((gx_w ((gx_w (10 * x2)) + (m 3 3))) - 48))), (3, .inl x3)] (hrs r ++ []) m' Q))
    (h3 : (x3 < x1) → (¬ (isDg (m 3 3))) → Q (some (.inl x2)) m) : hxn xs (n + 1) yp_m35 4 [(0, .inr (.inl 3)), (1, .inl x1), (2, .inl x2), (3, .inl x3)] [] m Q := by
  refine hx_blks (npc := 6) (L' := [(0, .inr (.inl 3)), (1, .inl x1), (2, .inl x2), (3, .inl x3)]) (st' := [.inl x1, .inl x3]) (m' := m) ((4, .iload_n 3, 1, 0, 0, 0, 0), (0, 0, 0)) [((5, .iload_n 1, 1, 0, 0, 0, 0), (0, 0, 0))] (by decide +kernel) rfl ?_
  refine hx_cmp .ge 39 (by decide +kernel) (fun c1 => ?_) (fun c1 => ?_)
  · have c1 : x1 ≤ x3 := c1
    refine hx_blk (npc := 40) (L' := [(0, .inr (.inl 3)), (1, .inl x1), (2, .inl x2), (3, .inl x3)]) (st' := [.inl x2]) (m' := m) [((39, .iload_n 2, 1, 0, 0, 0, 0), (0, 0, 0))] (by decide +kernel) rfl ?_
    exact hx_reti (by decide +kernel) (h1 c1)
  · have c1 : x3 < x1 := by have h : ¬ (x1 ≤ x3) := c1; omega
    refine hx_blk (npc := 10) (L' := [(0, .inr (.inl 3)), (1, .inl x1), (2, .inl x2), (3, .inl x3)]) (st' := [.inr (.inl 3)]) (m' := m) [((9, .aload_n 0, 1, 0, 0, 0, 0), (0, 0, 0))] (by decide +kernel) rfl ?_
    refine hx_call (E := (10, .invokevirtual 66, 3, 34, 0, 3034, 0)) (M' := yp_m34) [.inr (.inl 3)] [] rfl (by decide +kernel) rfl ⟨rfl, rfl⟩ rfl rfl (hs34 (fun c2 => ?_) (fun c2 => ?_))
    · have c2 : isDg (m 3 3) := c2
      show hxn xs n yp_m35 13 [(0, .inr (.inl 3)), (1, .inl x1), (2, .inl x2), (3, .inl x3)] [.inl 1] m Q
      refine hx_if .eq 39 (by decide +kernel) (fun c3 => ?_) (fun c3 => ?_)
      · have c3 : (1 : Int) = 0 := c3
        exfalso; omega
      · have c3 : (1 : Int) ≠ 0 := c3
        refine hx_blk (npc := 30) (L' := [(0, .inr (.inl 3)), (1, .inl x1), (2, .inl (gx_w ((gx_w ((gx_w (10 * x2)) + (m 3 3))) - 48))), (3, .inl x3)]) (st' := [.inr (.inl 3)]) (m' := m) [((16, .bipush 10, 2, 0, 0, 0, 0), (0, 0, 0)), ((18, .iload_n 2, 1, 0, 0, 0, 0), (0, 0, 0)), ((19, .imul, 1, 0, 0, 0, 0), (0, 0, 0)), ((20, .aload_n 0, 1, 0, 0, 0, 0), (0, 0, 0)), ((21, .getfield 49, 3, 1, 3, 1054, 0), (0, 3, 0)), ((24, .iadd, 1, 0, 0, 0, 0), (0, 0, 0)), ((25, .bipush 48, 2, 0, 0, 0, 0), (0, 0, 0)), ((27, .isub, 1, 0, 0, 0, 0), (0, 0, 0)), ((28, .istore_n 2, 1, 0, 0, 0, 0), (0, 0, 0)), ((29, .aload_n 0, 1, 0, 0, 0, 0), (0, 0, 0))] (by decide +kernel) rfl ?_
        exact hx_call (E := (30, .invokevirtual 63, 3, 30, 0, 3035, 0)) (M' := yp_m30) [.inr (.inl 3)] [] rfl (by decide +kernel) rfl ⟨rfl, rfl⟩ rfl rfl (hx_mono (h2 c1 c2) (fun r m' h' => hx_pick [0, 1, 2, 3] h'))
    · have c2 : ¬ (isDg (m 3 3)) := c2
      show hxn xs n yp_m35 13 [(0, .inr (.inl 3)), (1, .inl x1), (2, .inl x2), (3, .inl x3)] [.inl 0] m Q
      refine hx_if .eq 39 (by decide +kernel) (fun c3 => ?_) (fun c3 => ?_)
      · have c3 : (0 : Int) = 0 := c3
        refine hx_blk (npc := 40) (L' := [(0, .inr (.inl 3)), (1, .inl x1), (2, .inl x2), (3, .inl x3)]) (st' := [.inl x2]) (m' := m) [((39, .iload_n 2, 1, 0, 0, 0, 0), (0, 0, 0))] (by decide +kernel) rfl ?_
        exact hx_reti (by decide +kernel) (h3 c1 c2)
      · have c3 : (0 : Int) ≠ 0 := c3
        exfalso; omega

/-- digits from 33 on -/
theorem hr35_33 {xs : List Int32} {n : Nat} {Q : hQ} {m : gx_M} {x1 x2 x3 : Int} (r_x3 : 0 ≤ x3 ∧ x3 ≤ 100)
    (h1 : hxn xs n yp_m35 4 [(0, .inr (.inl 3)), (1, .inl x1), (2, .inl x2), (3, .inl (x3 + 1))] [] m Q) : hxn xs (n + 1) yp_m35 33 [(0, .inr (.inl 3)), (1, .inl x1), (2, .inl x2), (3, .inl x3)] [] m Q := by
  have e1 : gx_w (x3 + 1) = x3 + 1 := gx_w_id (by omega) (by omega)
  refine hx_blks (npc := 4) (L' := [(0, .inr (.inl 3)), (1, .inl x1), (2, .inl x2), (3, .inl (gx_w (x3 + 1)))]) (st' := []) (m' := m) ((33, .iinc 3 1, 3, 0, 0, 0, 0), (0, 0, 0)) [((36, .goto (-32), 3, 0, 0, 0, 0), (0, 0, 0))] (by decide +kernel) rfl ?_
  rw [e1]
  exact hx_pick [0, 1, 2, 3] h1
end
section
/-! the text as the class reads it: its bytes, what is emitted, faults -/
def cTx (T : Nat → Int) (L p : Nat) (m : gx_M) : Prop := m 3 1 = (L : Int) ∧ m 3 2 = (p : Int) ∧ m 3 3 = tx T L p ∧ m 3 4 = 0 ∧ ∀ k, k < L → m 4 k = T k
def cKd (K : hCode) (m : gx_M) : Prop := m 53 2 = (K.length : Int) ∧ ∀ i c, K[i]? = some c → m 54 i = c.1 ∧ m 55 i = c.2
def cFr (m0 m : gx_M) : Prop := (∀ c, c ≠ 3 → c ≠ 53 → c ≠ 54 → c ≠ 55 → m c = m0 c) ∧ ∀ k, k ≠ 2 → m 53 k = m0 53 k
def cS (T : Nat → Int) (L : Nat) (m0 : gx_M) (p : Nat) (K : hCode) (m : gx_M) : Prop := cTx T L p m ∧ cKd K m ∧ cFr m0 m ∧ p ≤ L ∧ L ≤ 240 ∧ K.length ≤ p
def cF (m0 : gx_M) (f : Int) (m : gx_M) : Prop := m 3 4 = f ∧ cFr m0 m
theorem tx_lt {T : Nat → Int} {L p : Nat} (h : tx T L p ≠ -1) : p < L := by
  unfold tx at h
  split at h
  · assumption
  · exact absurd rfl h
theorem tx_eq {T : Nat → Int} {L p : Nat} (h : p < L) : tx T L p = T p := if_pos h
theorem tx_no {T : Nat → Int} {L p : Nat} (h : L ≤ p) : tx T L p = -1 := if_neg (by omega)
theorem isDg_no : ¬ isDg (-1) := by
  unfold isDg
  omega
theorem isDg_lt {T : Nat → Int} {L p : Nat} (h : isDg (tx T L p)) : p < L := tx_lt (fun e => by
  rw [e] at h
  exact isDg_no h)
section CT
variable {xs : List Int32} {n : Nat} {Q : hQ} {T : Nat → Int} {L p : Nat} {m0 m : gx_M} {K : hCode}
theorem cs_sg (hS : cS T L m0 p K m) : m 3 3 = tx T L p := hS.1.2.2.1
theorem cs_pl (hS : cS T L m0 p K m) : m 3 2 = (p : Int) := hS.1.2.1
theorem cs_kl (hS : cS T L m0 p K m) : K.length ≤ p := hS.2.2.2.2.2
theorem cs_le (hS : cS T L m0 p K m) : p ≤ L := hS.2.2.2.1
theorem cs_L (hS : cS T L m0 p K m) : L ≤ 240 := hS.2.2.2.2.1
theorem cs25 (h1 : m 3 1 = (L : Int)) (h2 : ∀ k, k < L → m 4 k = T k) (hL : L ≤ 240) (h : Q (some (.inl (tx T L p))) m) : hxn xs n yp_m25 0 [(0, .inr (.inl 3)), (1, .inl (p : Int))] [] m Q := by
  refine hx_dn (hr25_0 (fun c => absurd c (by omega)) (fun _ c => ?_) (fun _ c1 c2 => absurd c2 (by omega)) (fun _ c _ => ?_))
  · rw [tx_no (by omega)] at h
    exact h
  · rw [tx_eq (by omega)] at h
    rw [Int.toNat_natCast, h2 p (by omega)]
    exact h
theorem cs30 (hS : cS T L m0 p K m) (hp : p < L) (h : ∀ m', cS T L m0 (p + 1) K m' → Q none m') : hxn xs n yp_m30 0 [(0, .inr (.inl 3))] [] m Q := by
  obtain ⟨⟨t1, t2, t3, t4, t5⟩, ⟨k1, k2⟩, ⟨f1, f2⟩, a1, a2, a3⟩ := hS
  refine hx_dn (hr30_0 (by omega) (fun c => absurd c (by omega)) (fun _ => ?_))
  rw [t2]
  refine cs25 (p := p + 1) (T := T) (L := L) ?_ (fun k hk => ?_) a2 ?_
  · rw [gx_u_ne (by omega)]
    exact t1
  · rw [gx_u_ne (by omega)]
    exact t5 k hk
  · show hxn xs n yp_m30 30 [] [.inl (tx T L (p + 1)), .inr (.inl 3)] _ Q
    refine hx_dn (hr30_30 (h _ ⟨⟨?_, ?_, ?_, ?_, fun k hk => ?_⟩, ⟨?_, fun i c hc => ?_⟩, ⟨fun c h3 h5 h6 h7 => ?_, fun k hk => ?_⟩, by omega, a2, by omega⟩))
    · rw [gx_u_ne (by omega), gx_u_ne (by omega)]
      exact t1
    · rw [gx_u_ne (by omega), gx_u_self]
      omega
    · rw [gx_u_self]
    · rw [gx_u_ne (by omega), gx_u_ne (by omega)]
      exact t4
    · rw [gx_u_ne (by omega), gx_u_ne (by omega)]
      exact t5 k hk
    · rw [gx_u_ne (by omega), gx_u_ne (by omega)]
      exact k1
    · rw [gx_u_ne (by omega), gx_u_ne (by omega), gx_u_ne (by omega), gx_u_ne (by omega)]
      exact k2 i c hc
    · funext k
      rw [gx_u_ne (by omega), gx_u_ne (by omega)]
      exact congrFun (f1 c h3 h5 h6 h7) k
    · rw [gx_u_ne (by omega), gx_u_ne (by omega)]
      exact f2 k hk
theorem cs29 (hS : cS T L m0 p K m) {a : Int} (ha : 0 ≤ a ∧ a ≤ 9) (h : ∀ m', cF m0 (lfl a p) m' → Q (some (.inl 0)) m') : hxn xs n yp_m29 0 [(0, .inr (.inl 3)), (1, .inl a), (2, .inl (p : Int))] [] m Q := by
  obtain ⟨⟨t1, t2, t3, t4, t5⟩, k, ⟨f1, f2⟩, a1, a2, a3⟩ := hS
  refine hx_dn (hr29_0 (fun c => absurd t4 c) (fun _ => h _ ⟨?_, fun c h3 h5 h6 h7 => ?_, fun k hk => ?_⟩))
  · rw [gx_u_self, gx_w_id (x := (-1000) * a) (by omega) (by omega), gx_w_id (by omega) (by omega)]
    rfl
  · funext k
    rw [gx_u_ne (by omega)]
    exact congrFun (f1 c h3 h5 h6 h7) k
  · rw [gx_u_ne (by omega)]
    exact f2 k hk
theorem cs28 (hS : cS T L m0 p K m) (h : ∀ m', cF m0 (lfl 1 p) m' → Q (some (.inl 0)) m') : hxn xs n yp_m28 0 [(0, .inr (.inl 3))] [] m Q := by
  refine hx_dn (hr28_0 ?_)
  rw [cs_pl hS]
  exact cs29 hS (by decide) (fun m' hf => hx_dn (hr28_9 (h m' hf)))
theorem cs37 (hS : cS T L m0 p K m) {c : Int} (hc : c ≠ -1) (h1 : tx T L p = c → ∀ m', cS T L m0 (p + 1) K m' → Q (some (.inl 1)) m') (h0 : tx T L p ≠ c → ∀ m', cF m0 (lfl 1 p) m' → Q (some (.inl 0)) m') : hxn xs n yp_m37 0 [(0, .inr (.inl 3)), (1, .inl c)] [] m Q := by
  refine hx_dn (hr37_0 (fun e => ?_) (fun e => ?_))
  · rw [cs_sg hS] at e
    exact cs30 hS (tx_lt (by rw [e]; exact hc)) (fun m' hm => hx_dn (hr37_17 (h1 e m' hm)))
  · rw [cs_sg hS] at e
    exact cs28 hS (fun m' hf => hx_dn (hr37_12 (h0 e m' hf)))
theorem cs36 (hS : cS T L m0 p K m) {a b : Int} (hl' : K.length + 1 ≤ p) (h : ∀ m', cS T L m0 p (K ++ [(a, b)]) m' → Q (some (.inl (K.length : Int))) m') : hxn xs n yp_m36 0 [(0, .inr (.inl 53)), (1, .inl a), (2, .inl b)] [] m Q := by
  obtain ⟨⟨t1, t2, t3, t4, t5⟩, ⟨k1, k2⟩, ⟨f1, f2⟩, a1, a2, a3⟩ := hS
  refine hx_dn (hr36_0 (fun c => absurd c (by omega)) (fun _ _ => ?_) (fun _ c => absurd c (by omega)))
  rw [k1, Int.toNat_natCast]
  refine h _ ⟨⟨?_, ?_, ?_, ?_, fun k hk => ?_⟩, ⟨?_, fun i c hc => ?_⟩, ⟨fun c h3 h5 h6 h7 => ?_, fun k hk => ?_⟩, a1, a2, by rw [List.length_append, List.length_singleton]; exact hl'⟩
  · rw [gx_u_ne (by omega), gx_u_ne (by omega), gx_u_ne (by omega)]
    exact t1
  · rw [gx_u_ne (by omega), gx_u_ne (by omega), gx_u_ne (by omega)]
    exact t2
  · rw [gx_u_ne (by omega), gx_u_ne (by omega), gx_u_ne (by omega)]
    exact t3
  · rw [gx_u_ne (by omega), gx_u_ne (by omega), gx_u_ne (by omega)]
    exact t4
  · rw [gx_u_ne (by omega), gx_u_ne (by omega), gx_u_ne (by omega)]
    exact t5 k hk
  · rw [gx_u_self, List.length_append, List.length_singleton]
    omega
  · rcases lk_app hc with hc | ⟨rfl, rfl⟩
    · have := lk_lt hc
      rw [gx_u_ne (by omega), gx_u_ne (by omega), gx_u_ne (by omega), gx_u_ne (by omega), gx_u_ne (by omega), gx_u_ne (by omega)]
      exact k2 i c hc
    · refine ⟨?_, ?_⟩
      · rw [gx_u_ne (by omega), gx_u_ne (by omega), gx_u_self]
      · rw [gx_u_ne (by omega), gx_u_self]
  · funext k
    rw [gx_u_ne (by omega), gx_u_ne (by omega), gx_u_ne (by omega)]
    exact congrFun (f1 c h3 h5 h6 h7) k
  · rw [gx_u_ne (by omega), gx_u_ne (by omega), gx_u_ne (by omega)]
    exact f2 k hk
theorem cs44 (hS : cS T L m0 p K m) {a : Nat} {c0 b0 : Int} (ha : K[a]? = some (c0, b0)) (h : ∀ m', cS T L m0 p (K.set a (c0, (K.length : Int))) m' → Q none m') : hxn xs n yp_m44 0 [(0, .inr (.inl 53)), (1, .inl (a : Int))] [] m Q := by
  obtain ⟨⟨t1, t2, t3, t4, t5⟩, ⟨k1, k2⟩, ⟨f1, f2⟩, a1, a2, a3⟩ := hS
  have hlt := lk_lt ha
  refine hx_dn (hr44_0 (fun c => absurd c (by omega)) (fun _ c => absurd c (by omega)) (fun _ _ => ?_))
  rw [k1, Int.toNat_natCast]
  refine h _ ⟨⟨?_, ?_, ?_, ?_, fun k hk => ?_⟩, ⟨?_, fun i c hc => ?_⟩, ⟨fun c h3 h5 h6 h7 => ?_, fun k hk => ?_⟩, a1, a2, by rw [List.length_set]; exact a3⟩
  · rw [gx_u_ne (by omega)]
    exact t1
  · rw [gx_u_ne (by omega)]
    exact t2
  · rw [gx_u_ne (by omega)]
    exact t3
  · rw [gx_u_ne (by omega)]
    exact t4
  · rw [gx_u_ne (by omega)]
    exact t5 k hk
  · rw [gx_u_ne (by omega), List.length_set]
    exact k1
  · rcases lk_set hc with ⟨rfl, rfl⟩ | ⟨hne, hc⟩
    · refine ⟨?_, ?_⟩
      · rw [gx_u_ne (by omega)]
        exact (k2 _ _ ha).1
      · rw [gx_u_self]
    · rw [gx_u_ne (by omega), gx_u_ne (by omega)]
      exact k2 i c hc
  · funext k
    rw [gx_u_ne (by omega)]
    exact congrFun (f1 c h3 h5 h6 h7) k
  · rw [gx_u_ne (by omega)]
    exact f2 k hk
def lpw : Nat → Int
  | 0 => 1
  | j + 1 => 10 * lpw j
theorem lnum_bd : ∀ j : Nat, (∀ i, i < j → isDg (tx T L (p + i))) → 0 ≤ lnum T p j ∧ lnum T p j < lpw j
  | 0, _ => by
    show (0 : Int) ≤ 0 ∧ (0 : Int) < 1
    omega
  | j + 1, h => by
    have ih := lnum_bd j (fun i hi => h i (by omega))
    have hd := h j (by omega)
    have hlt := isDg_lt hd
    rw [tx_eq hlt] at hd
    unfold isDg at hd
    show 0 ≤ 10 * lnum T p j + T (p + j) - 48 ∧ 10 * lnum T p j + T (p + j) - 48 < 10 * lpw j
    omega
theorem lpw_le {j : Nat} (h : j ≤ 5) : lpw j ≤ 100000 := by
  have : j = 0 ∨ j = 1 ∨ j = 2 ∨ j = 3 ∨ j = 4 ∨ j = 5 := by omega
  rcases this with rfl | rfl | rfl | rfl | rfl | rfl <;> decide
theorem cl35 {most : Nat} (hm : most ≤ 5) (h : ∀ j m', j ≤ most → (∀ i, i < j → isDg (tx T L (p + i))) → (j = most ∨ ¬ isDg (tx T L (p + j))) → cS T L m0 (p + j) K m' → Q (some (.inl (lnum T p j))) m') : ∀ e j : Nat, j + e = most → ∀ m', cS T L m0 (p + j) K m' → (∀ i, i < j → isDg (tx T L (p + i))) → hxn xs n yp_m35 4 [(0, .inr (.inl 3)), (1, .inl (most : Int)), (2, .inl (lnum T p j)), (3, .inl (j : Int))] [] m' Q := by
  intro e
  induction e with
  | zero =>
    intro j hj m' hS hd
    have e : j = most := by omega
    subst e
    exact hx_dn (hr35_4 (by omega) (fun _ => h j m' (Nat.le_refl _) hd (.inl rfl) hS) (fun c => absurd c (by omega)) (fun c => absurd c (by omega)))
  | succ e ih =>
    intro j hj m' hS hd
    refine hx_dn (hr35_4 (by omega) (fun c => absurd c (by omega)) (fun _ c => ?_) (fun _ c => ?_))
    · rw [cs_sg hS] at c ⊢
      have hlt := isDg_lt c
      have hd2 : ∀ i, i < j + 1 → isDg (tx T L (p + i)) := fun i hi => by
        by_cases e : i = j
        · rw [e]
          exact c
        · exact hd i (by omega)
      have b1 := lnum_bd (T := T) (L := L) (p := p) j hd
      have b2 := lpw_le (j := j) (by omega)
      have c2 : 48 ≤ T (p + j) ∧ T (p + j) ≤ 57 := by
        rw [tx_eq hlt] at c
        exact c
      have ev : gx_w (gx_w (gx_w (10 * lnum T p j) + tx T L (p + j)) - 48) = lnum T p (j + 1) := by
        rw [tx_eq hlt, gx_w_id (x := 10 * lnum T p j) (by omega) (by omega), gx_w_id (x := 10 * lnum T p j + T (p + j)) (by omega) (by omega), gx_w_id (by omega) (by omega)]
        rfl
      rw [ev]
      exact cs30 hS hlt (fun m2 h2 => hx_dn (hr35_33 (by omega) (ih (j + 1) (by omega) m2 h2 hd2)))
    · rw [cs_sg hS] at c
      exact h j m' (by omega) hd (.inr c) hS
theorem cs35 {most : Nat} (hm : most ≤ 5) (hS : cS T L m0 p K m) (h : ∀ j m', j ≤ most → (∀ i, i < j → isDg (tx T L (p + i))) → (j = most ∨ ¬ isDg (tx T L (p + j))) → cS T L m0 (p + j) K m' → Q (some (.inl (lnum T p j))) m') : hxn xs n yp_m35 0 [(0, .inr (.inl 3)), (1, .inl (most : Int))] [] m Q :=
  hx_dn (hr35_0 (cl35 hm h most 0 (Nat.zero_add _) m hS (fun i hi => absurd hi (by omega))))
end CT
end
section
/-! factors, products, sums, pieces, parts, conditions as the class reads them: roads -/
/-- factor from 0 on -/
theorem hr33_0 {xs : List Int32} {n : Nat} {Q : hQ} {m : gx_M} {x2 : Int} (r_x2 : 0 ≤ x2 ∧ x2 ≤ 6)
    (h1 : (isDg (m 3 3)) → hxn xs n yp_m35 0 [(0, .inr (.inl 3)), (1, .inl 5)] [] m (fun r m' => hxn xs n yp_m33 17 [(1, .inr (.inl 3))] (hrs r ++ [.inl 0, .inr (.inl 53)]) m' Q))
    (h2 : (¬ (isDg (m 3 3))) → ((m 3 3) ≠ 91) → (isLt (m 3 3)) → hxn xs n yp_m30 0 [(0, .inr (.inl 3))] [] m (fun r m' => hxn xs n yp_m33 119 [(0, .inr (.inl 52)), (3, .inl (m 3 3))] (hrs r ++ []) m' Q))
    (h3 : (¬ (isDg (m 3 3))) → ((m 3 3) ≠ 91) → (¬ (isLt (m 3 3))) → hxn xs n yp_m28 0 [(0, .inr (.inl 3))] [] m (fun r m' => hxn xs n yp_m33 114 [] (hrs r ++ []) m' Q))
    (h4 : (¬ (isDg (m 3 3))) → ((m 3 3) = 91) → (x2 < 6) → hxn xs n yp_m30 0 [(0, .inr (.inl 3))] [] m (fun r m' => hxn xs n yp_m33 77 [(0, .inr (.inl 52)), (1, .inr (.inl 3)), (2, .inl x2)] (hrs r ++ []) m' Q))
    (h5 : (¬ (isDg (m 3 3))) → ((m 3 3) = 91) → (6 ≤ x2) → hxn xs n yp_m29 0 [(0, .inr (.inl 3)), (1, .inl 5), (2, .inl (m 3 2))] [] m (fun r m' => hxn xs n yp_m33 72 [] (hrs r ++ []) m' Q)) : hxn xs (n + 1) yp_m33 0 [(0, .inr (.inl 52)), (1, .inr (.inl 3)), (2, .inl x2)] [] m Q := by
  refine hx_blks (npc := 1) (L' := [(0, .inr (.inl 52)), (1, .inr (.inl 3)), (2, .inl x2)]) (st' := [.inr (.inl 3)]) (m' := m) ((0, .aload_n 1, 1, 0, 0, 0, 0), (0, 0, 0)) [] (by decide +kernel) rfl ?_
  refine hx_call (E := (1, .invokevirtual 91, 3, 34, 0, 3026, 0)) (M' := yp_m34) [.inr (.inl 3)] [] rfl (by decide +kernel) rfl ⟨rfl, rfl⟩ rfl rfl (hs34 (fun c1 => ?_) (fun c1 => ?_))
  · have c1 : isDg (m 3 3) := c1
    show hxn xs n yp_m33 4 [(0, .inr (.inl 52)), (1, .inr (.inl 3)), (2, .inl x2)] [.inl 1] m Q
    refine hx_if .eq 46 (by decide +kernel) (fun c2 => ?_) (fun c2 => ?_)
    · have c2 : (1 : Int) = 0 := c2
      exfalso; omega
    · have c2 : (1 : Int) ≠ 0 := c2
      refine hx_blk (npc := 14) (L' := [(0, .inr (.inl 52)), (1, .inr (.inl 3)), (2, .inl x2)]) (st' := [.inl 5, .inr (.inl 3), .inl 0, .inr (.inl 53)]) (m' := m) [((7, .aload_n 0, 1, 0, 0, 0, 0), (0, 0, 0)), ((8, .getfield 12, 3, 4, 0, 1226, 0), (1, 52, 53)), ((11, .iconst 0, 1, 0, 0, 0, 0), (0, 0, 0)), ((12, .aload_n 1, 1, 0, 0, 0, 0), (0, 0, 0)), ((13, .iconst 5, 1, 0, 0, 0, 0), (0, 0, 0))] (by decide +kernel) rfl ?_
      exact hx_call (E := (14, .invokevirtual 94, 3, 35, 0, 3030, 0)) (M' := yp_m35) [.inr (.inl 3), .inl 5] [.inl 0, .inr (.inl 53)] rfl (by decide +kernel) rfl ⟨rfl, rfl⟩ rfl rfl (hx_mono (h1 c1) (fun r m' h' => hx_pick [1] h'))
  · have c1 : ¬ (isDg (m 3 3)) := c1
    show hxn xs n yp_m33 4 [(0, .inr (.inl 52)), (1, .inr (.inl 3)), (2, .inl x2)] [.inl 0] m Q
    refine hx_if .eq 46 (by decide +kernel) (fun c2 => ?_) (fun c2 => ?_)
    · have c2 : (0 : Int) = 0 := c2
      refine hx_blk (npc := 54) (L' := [(0, .inr (.inl 52)), (1, .inr (.inl 3)), (2, .inl x2), (3, .inl (m 3 3))]) (st' := [.inl 91, .inl (m 3 3)]) (m' := m) [((46, .aload_n 1, 1, 0, 0, 0, 0), (0, 0, 0)), ((47, .getfield 39, 3, 1, 3, 1055, 0), (0, 3, 0)), ((50, .istore_n 3, 1, 0, 0, 0, 0), (0, 0, 0)), ((51, .iload_n 3, 1, 0, 0, 0, 0), (0, 0, 0)), ((52, .bipush 91, 2, 0, 0, 0, 0), (0, 0, 0))] (by decide +kernel) rfl ?_
      refine hx_cmp .ne 103 (by decide +kernel) (fun c2 => ?_) (fun c2 => ?_)
      · have c2 : (m 3 3) ≠ 91 := c2
        refine hx_blk (npc := 104) (L' := [(0, .inr (.inl 52)), (1, .inr (.inl 3)), (2, .inl x2), (3, .inl (m 3 3))]) (st' := [.inl (m 3 3)]) (m' := m) [((103, .iload_n 3, 1, 0, 0, 0, 0), (0, 0, 0))] (by decide +kernel) rfl ?_
        refine hx_call (E := (104, .invokestatic 98, 3, 38, 0, 3045, 0)) (M' := yp_m38) [.inl (m 3 3)] [] rfl (by decide +kernel) rfl ⟨rfl, rfl⟩ rfl rfl (hs38 (fun c3 => ?_) (fun c3 => ?_))
        · have c3 : isLt (m 3 3) := c3
          show hxn xs n yp_m33 107 [(0, .inr (.inl 52)), (1, .inr (.inl 3)), (2, .inl x2), (3, .inl (m 3 3))] [.inl 1] m Q
          refine hx_if .ne 115 (by decide +kernel) (fun c4 => ?_) (fun c4 => ?_)
          · have c4 : (1 : Int) ≠ 0 := c4
            refine hx_blk (npc := 116) (L' := [(0, .inr (.inl 52)), (1, .inr (.inl 3)), (2, .inl x2), (3, .inl (m 3 3))]) (st' := [.inr (.inl 3)]) (m' := m) [((115, .aload_n 1, 1, 0, 0, 0, 0), (0, 0, 0))] (by decide +kernel) rfl ?_
            exact hx_call (E := (116, .invokevirtual 52, 3, 30, 0, 3010, 0)) (M' := yp_m30) [.inr (.inl 3)] [] rfl (by decide +kernel) rfl ⟨rfl, rfl⟩ rfl rfl (hx_mono (h2 c1 c2 c3) (fun r m' h' => hx_pick [0, 3] h'))
          · have c4 : (1 : Int) = 0 := by have h : ¬ ((1 : Int) ≠ 0) := c4; omega
            exfalso; omega
        · have c3 : ¬ (isLt (m 3 3)) := c3
          show hxn xs n yp_m33 107 [(0, .inr (.inl 52)), (1, .inr (.inl 3)), (2, .inl x2), (3, .inl (m 3 3))] [.inl 0] m Q
          refine hx_if .ne 115 (by decide +kernel) (fun c4 => ?_) (fun c4 => ?_)
          · have c4 : (0 : Int) ≠ 0 := c4
            exfalso; omega
          · have c4 : (0 : Int) = 0 := by have h : ¬ ((0 : Int) ≠ 0) := c4; omega
            refine hx_blk (npc := 111) (L' := [(0, .inr (.inl 52)), (1, .inr (.inl 3)), (2, .inl x2), (3, .inl (m 3 3))]) (st' := [.inr (.inl 3)]) (m' := m) [((110, .aload_n 1, 1, 0, 0, 0, 0), (0, 0, 0))] (by decide +kernel) rfl ?_
            exact hx_call (E := (111, .invokevirtual 42, 3, 28, 0, 3001, 0)) (M' := yp_m28) [.inr (.inl 3)] [] rfl (by decide +kernel) rfl ⟨rfl, rfl⟩ rfl rfl (hx_mono (h3 c1 c2 c3) (fun r m' h' => hx_pick [] h'))
      · have c2 : (m 3 3) = 91 := by have h : ¬ ((m 3 3) ≠ 91) := c2; omega
        refine hx_blk (npc := 60) (L' := [(0, .inr (.inl 52)), (1, .inr (.inl 3)), (2, .inl x2), (3, .inl (m 3 3))]) (st' := [.inl 6, .inl x2]) (m' := m) [((57, .iload_n 2, 1, 0, 0, 0, 0), (0, 0, 0)), ((58, .bipush 6, 2, 0, 0, 0, 0), (0, 0, 0))] (by decide +kernel) rfl ?_
        refine hx_cmp .lt 73 (by decide +kernel) (fun c3 => ?_) (fun c3 => ?_)
        · have c3 : x2 < 6 := c3
          refine hx_blk (npc := 74) (L' := [(0, .inr (.inl 52)), (1, .inr (.inl 3)), (2, .inl x2), (3, .inl (m 3 3))]) (st' := [.inr (.inl 3)]) (m' := m) [((73, .aload_n 1, 1, 0, 0, 0, 0), (0, 0, 0))] (by decide +kernel) rfl ?_
          exact hx_call (E := (74, .invokevirtual 52, 3, 30, 0, 3010, 0)) (M' := yp_m30) [.inr (.inl 3)] [] rfl (by decide +kernel) rfl ⟨rfl, rfl⟩ rfl rfl (hx_mono (h4 c1 c2 c3) (fun r m' h' => hx_pick [0, 1, 2] h'))
        · have c3 : 6 ≤ x2 := by have h : ¬ (x2 < 6) := c3; omega
          refine hx_blk (npc := 69) (L' := [(0, .inr (.inl 52)), (1, .inr (.inl 3)), (2, .inl x2), (3, .inl (m 3 3))]) (st' := [.inl (m 3 2), .inl 5, .inr (.inl 3)]) (m' := m) [((63, .aload_n 1, 1, 0, 0, 0, 0), (0, 0, 0)), ((64, .iconst 5, 1, 0, 0, 0, 0), (0, 0, 0)), ((65, .aload_n 1, 1, 0, 0, 0, 0), (0, 0, 0)), ((66, .getfield 45, 3, 1, 2, 1053, 0), (0, 3, 0))] (by decide +kernel) rfl ?_
          exact hx_call (E := (69, .invokevirtual 48, 3, 29, 0, 3009, 0)) (M' := yp_m29) [.inr (.inl 3), .inl 5, .inl (m 3 2)] [] rfl (by decide +kernel) rfl ⟨rfl, rfl⟩ rfl rfl (hx_mono (h5 c1 c2 c3) (fun r m' h' => hx_pick [] h'))
    · have c2 : (0 : Int) ≠ 0 := c2
      exfalso; omega

/-- factor from 17 on -/
theorem hr33_17 {xs : List Int32} {n : Nat} {Q : hQ} {m : gx_M} {s1 s2 : Int}
    (h1 : hxn xs n yp_m36 0 [(0, .inr (.inl 53)), (1, .inl s1), (2, .inl s2)] [] m (fun r m' => hxn xs n yp_m33 20 [(1, .inr (.inl 3))] (hrs r ++ []) m' Q)) : hxn xs (n + 1) yp_m33 17 [(1, .inr (.inl 3))] [.inl s2, .inl s1, .inr (.inl 53)] m Q := by
  exact hx_calls (E := (17, .invokevirtual 68, 3, 36, 0, 3036, 0)) (M' := yp_m36) [.inr (.inl 53), .inl s1, .inl s2] [] rfl (by decide +kernel) rfl ⟨rfl, rfl⟩ rfl rfl (hx_mono h1 (fun r m' h' => hx_pick [1] h'))

/-- factor from 20 on -/
theorem hr33_20 {xs : List Int32} {n : Nat} {Q : hQ} {m : gx_M} {s0 : Int}
    (h1 : (isDg (m 3 3)) → hxn xs n yp_m29 0 [(0, .inr (.inl 3)), (1, .inl 2), (2, .inl (m 3 2))] [] m (fun r m' => hxn xs n yp_m33 37 [] (hrs r ++ []) m' Q))
    (h2 : (¬ (isDg (m 3 3))) → Q (some (.inl 1)) m) : hxn xs (n + 1) yp_m33 20 [(1, .inr (.inl 3))] [.inl s0] m Q := by
  refine hx_blks (npc := 22) (L' := [(1, .inr (.inl 3))]) (st' := [.inr (.inl 3)]) (m' := m) ((20, .pop, 1, 0, 0, 0, 0), (0, 0, 0)) [((21, .aload_n 1, 1, 0, 0, 0, 0), (0, 0, 0))] (by decide +kernel) rfl ?_
  refine hx_call (E := (22, .invokevirtual 91, 3, 34, 0, 3026, 0)) (M' := yp_m34) [.inr (.inl 3)] [] rfl (by decide +kernel) rfl ⟨rfl, rfl⟩ rfl rfl (hs34 (fun c1 => ?_) (fun c1 => ?_))
  · have c1 : isDg (m 3 3) := c1
    show hxn xs n yp_m33 25 [(1, .inr (.inl 3))] [.inl 1] m Q
    refine hx_if .eq 40 (by decide +kernel) (fun c2 => ?_) (fun c2 => ?_)
    · have c2 : (1 : Int) = 0 := c2
      exfalso; omega
    · have c2 : (1 : Int) ≠ 0 := c2
      refine hx_blk (npc := 34) (L' := [(1, .inr (.inl 3))]) (st' := [.inl (m 3 2), .inl 2, .inr (.inl 3)]) (m' := m) [((28, .aload_n 1, 1, 0, 0, 0, 0), (0, 0, 0)), ((29, .iconst 2, 1, 0, 0, 0, 0), (0, 0, 0)), ((30, .aload_n 1, 1, 0, 0, 0, 0), (0, 0, 0)), ((31, .getfield 45, 3, 1, 2, 1053, 0), (0, 3, 0))] (by decide +kernel) rfl ?_
      exact hx_call (E := (34, .invokevirtual 48, 3, 29, 0, 3009, 0)) (M' := yp_m29) [.inr (.inl 3), .inl 2, .inl (m 3 2)] [] rfl (by decide +kernel) rfl ⟨rfl, rfl⟩ rfl rfl (hx_mono (h1 c1) (fun r m' h' => hx_pick [] h'))
  · have c1 : ¬ (isDg (m 3 3)) := c1
    show hxn xs n yp_m33 25 [(1, .inr (.inl 3))] [.inl 0] m Q
    refine hx_if .eq 40 (by decide +kernel) (fun c2 => ?_) (fun c2 => ?_)
    · have c2 : (0 : Int) = 0 := c2
      refine hx_blk (npc := 45) (L' := [(1, .inr (.inl 3))]) (st' := [.inl 1]) (m' := m) [((40, .iconst 1, 1, 0, 0, 0, 0), (0, 0, 0)), ((41, .goto 4, 3, 0, 0, 0, 0), (0, 0, 0))] (by decide +kernel) rfl ?_
      exact hx_reti (by decide +kernel) (h2 c1)
    · have c2 : (0 : Int) ≠ 0 := c2
      exfalso; omega

/-- factor from 37 on -/
theorem hr33_37 {xs : List Int32} {n : Nat} {Q : hQ} {m : gx_M} {s0 : Int}
    (h1 : (s0 = 0) → Q (some (.inl 0)) m)
    (h2 : (s0 ≠ 0) → Q (some (.inl 1)) m) : hxn xs (n + 1) yp_m33 37 [] [.inl s0] m Q := by
  refine hx_ifs .eq 44 (by decide +kernel) (fun c1 => ?_) (fun c1 => ?_)
  · have c1 : s0 = 0 := c1
    refine hx_blk (npc := 45) (L' := []) (st' := [.inl 0]) (m' := m) [((44, .iconst 0, 1, 0, 0, 0, 0), (0, 0, 0))] (by decide +kernel) rfl ?_
    exact hx_reti (by decide +kernel) (h1 c1)
  · have c1 : s0 ≠ 0 := c1
    refine hx_blk (npc := 45) (L' := []) (st' := [.inl 1]) (m' := m) [((40, .iconst 1, 1, 0, 0, 0, 0), (0, 0, 0)), ((41, .goto 4, 3, 0, 0, 0, 0), (0, 0, 0))] (by decide +kernel) rfl ?_
    exact hx_reti (by decide +kernel) (h2 c1)

/-- factor from 72 on -/
theorem hr33_72 {xs : List Int32} {n : Nat} {Q : hQ} {m : gx_M} {s0 : Int}
    (h1 : Q (some (.inl s0)) m) : hxn xs (n + 1) yp_m33 72 [] [.inl s0] m Q := by
  exact hx_reti (by decide +kernel) h1

/-- factor from 77 on -/
theorem hr33_77 {xs : List Int32} {n : Nat} {Q : hQ} {m : gx_M} {x2 : Int} (r_x2 : 0 ≤ x2 ∧ x2 ≤ 6)
    (h1 : hxn xs n yp_m31 0 [(0, .inr (.inl 52)), (1, .inr (.inl 3)), (2, .inl (x2 + 1))] [] m (fun r m' => hxn xs n yp_m33 85 [(1, .inr (.inl 3))] (hrs r ++ []) m' Q)) : hxn xs (n + 1) yp_m33 77 [(0, .inr (.inl 52)), (1, .inr (.inl 3)), (2, .inl x2)] [] m Q := by
  have e1 : gx_w (x2 + 1) = x2 + 1 := gx_w_id (by omega) (by omega)
  refine hx_blks (npc := 82) (L' := [(0, .inr (.inl 52)), (1, .inr (.inl 3)), (2, .inl x2)]) (st' := [.inl (gx_w (x2 + 1)), .inr (.inl 3), .inr (.inl 52)]) (m' := m) ((77, .aload_n 0, 1, 0, 0, 0, 0), (0, 0, 0)) [((78, .aload_n 1, 1, 0, 0, 0, 0), (0, 0, 0)), ((79, .iload_n 2, 1, 0, 0, 0, 0), (0, 0, 0)), ((80, .iconst 1, 1, 0, 0, 0, 0), (0, 0, 0)), ((81, .iadd, 1, 0, 0, 0, 0), (0, 0, 0))] (by decide +kernel) rfl ?_
  rw [e1]
  exact hx_call (E := (82, .invokevirtual 55, 3, 31, 0, 3014, 0)) (M' := yp_m31) [.inr (.inl 52), .inr (.inl 3), .inl (x2 + 1)] [] rfl (by decide +kernel) rfl ⟨rfl, rfl⟩ rfl rfl (hx_mono h1 (fun r m' h' => hx_pick [1] h'))

/-- factor from 85 on -/
theorem hr33_85 {xs : List Int32} {n : Nat} {Q : hQ} {m : gx_M} {s0 : Int}
    (h1 : (s0 = 0) → Q (some (.inl 0)) m)
    (h2 : (s0 ≠ 0) → hxn xs n yp_m37 0 [(0, .inr (.inl 3)), (1, .inl 93)] [] m (fun r m' => hxn xs n yp_m33 94 [] (hrs r ++ []) m' Q)) : hxn xs (n + 1) yp_m33 85 [(1, .inr (.inl 3))] [.inl s0] m Q := by
  refine hx_ifs .eq 101 (by decide +kernel) (fun c1 => ?_) (fun c1 => ?_)
  · have c1 : s0 = 0 := c1
    refine hx_blk (npc := 102) (L' := [(1, .inr (.inl 3))]) (st' := [.inl 0]) (m' := m) [((101, .iconst 0, 1, 0, 0, 0, 0), (0, 0, 0))] (by decide +kernel) rfl ?_
    exact hx_reti (by decide +kernel) (h1 c1)
  · have c1 : s0 ≠ 0 := c1
    refine hx_blk (npc := 91) (L' := [(1, .inr (.inl 3))]) (st' := [.inl 93, .inr (.inl 3)]) (m' := m) [((88, .aload_n 1, 1, 0, 0, 0, 0), (0, 0, 0)), ((89, .bipush 93, 2, 0, 0, 0, 0), (0, 0, 0))] (by decide +kernel) rfl ?_
    exact hx_call (E := (91, .invokevirtual 35, 3, 37, 0, 3040, 0)) (M' := yp_m37) [.inr (.inl 3), .inl 93] [] rfl (by decide +kernel) rfl ⟨rfl, rfl⟩ rfl rfl (hx_mono (h2 c1) (fun r m' h' => hx_pick [] h'))

/-- factor from 94 on -/
theorem hr33_94 {xs : List Int32} {n : Nat} {Q : hQ} {m : gx_M} {s0 : Int}
    (h1 : (s0 = 0) → Q (some (.inl 0)) m)
    (h2 : (s0 ≠ 0) → Q (some (.inl 1)) m) : hxn xs (n + 1) yp_m33 94 [] [.inl s0] m Q := by
  refine hx_ifs .eq 101 (by decide +kernel) (fun c1 => ?_) (fun c1 => ?_)
  · have c1 : s0 = 0 := c1
    refine hx_blk (npc := 102) (L' := []) (st' := [.inl 0]) (m' := m) [((101, .iconst 0, 1, 0, 0, 0, 0), (0, 0, 0))] (by decide +kernel) rfl ?_
    exact hx_reti (by decide +kernel) (h1 c1)
  · have c1 : s0 ≠ 0 := c1
    refine hx_blk (npc := 102) (L' := []) (st' := [.inl 1]) (m' := m) [((97, .iconst 1, 1, 0, 0, 0, 0), (0, 0, 0)), ((98, .goto 4, 3, 0, 0, 0, 0), (0, 0, 0))] (by decide +kernel) rfl ?_
    exact hx_reti (by decide +kernel) (h2 c1)

/-- factor from 114 on -/
theorem hr33_114 {xs : List Int32} {n : Nat} {Q : hQ} {m : gx_M} {s0 : Int}
    (h1 : Q (some (.inl s0)) m) : hxn xs (n + 1) yp_m33 114 [] [.inl s0] m Q := by
  exact hx_reti (by decide +kernel) h1

/-- factor from 119 on -/
theorem hr33_119 {xs : List Int32} {n : Nat} {Q : hQ} {m : gx_M} {x3 : Int}
    (h1 : hxn xs n yp_m36 0 [(0, .inr (.inl 53)), (1, .inl 1), (2, .inl x3)] [] m (fun r m' => hxn xs n yp_m33 128 [] (hrs r ++ []) m' Q)) : hxn xs (n + 1) yp_m33 119 [(0, .inr (.inl 52)), (3, .inl x3)] [] m Q := by
  refine hx_blks (npc := 125) (L' := [(0, .inr (.inl 52)), (3, .inl x3)]) (st' := [.inl x3, .inl 1, .inr (.inl 53)]) (m' := m) ((119, .aload_n 0, 1, 0, 0, 0, 0), (0, 0, 0)) [((120, .getfield 12, 3, 4, 0, 1226, 0), (1, 52, 53)), ((123, .iconst 1, 1, 0, 0, 0, 0), (0, 0, 0)), ((124, .iload_n 3, 1, 0, 0, 0, 0), (0, 0, 0))] (by decide +kernel) rfl ?_
  exact hx_call (E := (125, .invokevirtual 68, 3, 36, 0, 3036, 0)) (M' := yp_m36) [.inr (.inl 53), .inl 1, .inl x3] [] rfl (by decide +kernel) rfl ⟨rfl, rfl⟩ rfl rfl (hx_mono h1 (fun r m' h' => hx_pick [] h'))

/-- factor from 128 on -/
theorem hr33_128 {xs : List Int32} {n : Nat} {Q : hQ} {m : gx_M} {s0 : Int}
    (h1 : Q (some (.inl 1)) m) : hxn xs (n + 1) yp_m33 128 [] [.inl s0] m Q := by
  refine hx_blks (npc := 130) (L' := []) (st' := [.inl 1]) (m' := m) ((128, .pop, 1, 0, 0, 0, 0), (0, 0, 0)) [((129, .iconst 1, 1, 0, 0, 0, 0), (0, 0, 0))] (by decide +kernel) rfl ?_
  exact hx_reti (by decide +kernel) h1

/-- product from 0 on -/
theorem hr32_0 {xs : List Int32} {n : Nat} {Q : hQ} {m : gx_M} {x2 : Int} (r_x2 : 0 ≤ x2 ∧ x2 ≤ 6)
    (h1 : hxn xs n yp_m33 0 [(0, .inr (.inl 52)), (1, .inr (.inl 3)), (2, .inl x2)] [] m (fun r m' => hxn xs n yp_m32 6 [(0, .inr (.inl 52)), (1, .inr (.inl 3)), (2, .inl x2)] (hrs r ++ []) m' Q)) : hxn xs (n + 1) yp_m32 0 [(0, .inr (.inl 52)), (1, .inr (.inl 3)), (2, .inl x2)] [] m Q := by
  refine hx_blks (npc := 3) (L' := [(0, .inr (.inl 52)), (1, .inr (.inl 3)), (2, .inl x2)]) (st' := [.inl x2, .inr (.inl 3), .inr (.inl 52)]) (m' := m) ((0, .aload_n 0, 1, 0, 0, 0, 0), (0, 0, 0)) [((1, .aload_n 1, 1, 0, 0, 0, 0), (0, 0, 0)), ((2, .iload_n 2, 1, 0, 0, 0, 0), (0, 0, 0))] (by decide +kernel) rfl ?_
  exact hx_call (E := (3, .invokevirtual 85, 3, 33, 0, 3022, 0)) (M' := yp_m33) [.inr (.inl 52), .inr (.inl 3), .inl x2] [] rfl (by decide +kernel) rfl ⟨rfl, rfl⟩ rfl rfl (hx_mono h1 (fun r m' h' => hx_pick [0, 1, 2] h'))

/-- product from 6 on -/
theorem hr32_6 {xs : List Int32} {n : Nat} {Q : hQ} {m : gx_M} {x2 s0 : Int} (r_x2 : 0 ≤ x2 ∧ x2 ≤ 6)
    (h1 : (s0 ≠ 0) → hxn xs n yp_m32 13 [(0, .inr (.inl 52)), (1, .inr (.inl 3)), (2, .inl x2), (3, .inl 0)] [] m Q)
    (h2 : (s0 = 0) → Q (some (.inl 0)) m) : hxn xs (n + 1) yp_m32 6 [(0, .inr (.inl 52)), (1, .inr (.inl 3)), (2, .inl x2)] [.inl s0] m Q := by
  refine hx_ifs .ne 11 (by decide +kernel) (fun c1 => ?_) (fun c1 => ?_)
  · have c1 : s0 ≠ 0 := c1
    refine hx_blk (npc := 13) (L' := [(0, .inr (.inl 52)), (1, .inr (.inl 3)), (2, .inl x2), (3, .inl 0)]) (st' := []) (m' := m) [((11, .iconst 0, 1, 0, 0, 0, 0), (0, 0, 0)), ((12, .istore_n 3, 1, 0, 0, 0, 0), (0, 0, 0))] (by decide +kernel) rfl ?_
    exact hx_pick [0, 1, 2, 3] (h1 c1)
  · have c1 : s0 = 0 := by have h : ¬ (s0 ≠ 0) := c1; omega
    refine hx_blk (npc := 10) (L' := [(0, .inr (.inl 52)), (1, .inr (.inl 3)), (2, .inl x2)]) (st' := [.inl 0]) (m' := m) [((9, .iconst 0, 1, 0, 0, 0, 0), (0, 0, 0))] (by decide +kernel) rfl ?_
    exact hx_reti (by decide +kernel) (h2 c1)

/-- product from 13 on -/
theorem hr32_13 {xs : List Int32} {n : Nat} {Q : hQ} {m : gx_M} {x2 x3 : Int} (r_x2 : 0 ≤ x2 ∧ x2 ≤ 6) (r_x3 : 0 ≤ x3 ∧ x3 ≤ 240)
    (h1 : (240 ≤ x3) → Q (some (.inl 1)) m)
    (h2 : (x3 < 240) → (isPr (m 3 3)) → hxn xs n yp_m30 0 [(0, .inr (.inl 3))] [] m (fun r m' => hxn xs n yp_m32 40 [(0, .inr (.inl 52)), (1, .inr (.inl 3)), (2, .inl x2), (3, .inl x3), (4, .inl (m 3 3))] (hrs r ++ []) m' Q))
    (h3 : (x3 < 240) → (¬ (isPr (m 3 3))) → Q (some (.inl 1)) m) : hxn xs (n + 1) yp_m32 13 [(0, .inr (.inl 52)), (1, .inr (.inl 3)), (2, .inl x2), (3, .inl x3)] [] m Q := by
  refine hx_blks (npc := 17) (L' := [(0, .inr (.inl 52)), (1, .inr (.inl 3)), (2, .inl x2), (3, .inl x3)]) (st' := [.inl 240, .inl x3]) (m' := m) ((13, .iload_n 3, 1, 0, 0, 0, 0), (0, 0, 0)) [((14, .sipush 240, 3, 0, 0, 0, 0), (0, 0, 0))] (by decide +kernel) rfl ?_
  refine hx_cmp .ge 68 (by decide +kernel) (fun c1 => ?_) (fun c1 => ?_)
  · have c1 : 240 ≤ x3 := c1
    refine hx_blk (npc := 69) (L' := [(0, .inr (.inl 52)), (1, .inr (.inl 3)), (2, .inl x2), (3, .inl x3)]) (st' := [.inl 1]) (m' := m) [((68, .iconst 1, 1, 0, 0, 0, 0), (0, 0, 0))] (by decide +kernel) rfl ?_
    exact hx_reti (by decide +kernel) (h1 c1)
  · have c1 : x3 < 240 := by have h : ¬ (240 ≤ x3) := c1; omega
    refine hx_blk (npc := 24) (L' := [(0, .inr (.inl 52)), (1, .inr (.inl 3)), (2, .inl x2), (3, .inl x3)]) (st' := [.inl (m 3 3)]) (m' := m) [((20, .aload_n 1, 1, 0, 0, 0, 0), (0, 0, 0)), ((21, .getfield 39, 3, 1, 3, 1055, 0), (0, 3, 0))] (by decide +kernel) rfl ?_
    refine hx_call (E := (24, .invokestatic 88, 3, 39, 0, 3048, 0)) (M' := yp_m39) [.inl (m 3 3)] [] rfl (by decide +kernel) rfl ⟨rfl, rfl⟩ rfl rfl (hs39 (fun c2 => ?_) (fun c2 => ?_))
    · have c2 : isPr (m 3 3) := c2
      show hxn xs n yp_m32 27 [(0, .inr (.inl 52)), (1, .inr (.inl 3)), (2, .inl x2), (3, .inl x3)] [.inl 1] m Q
      refine hx_if .eq 68 (by decide +kernel) (fun c3 => ?_) (fun c3 => ?_)
      · have c3 : (1 : Int) = 0 := c3
        exfalso; omega
      · have c3 : (1 : Int) ≠ 0 := c3
        refine hx_blk (npc := 37) (L' := [(0, .inr (.inl 52)), (1, .inr (.inl 3)), (2, .inl x2), (3, .inl x3), (4, .inl (m 3 3))]) (st' := [.inr (.inl 3)]) (m' := m) [((30, .aload_n 1, 1, 0, 0, 0, 0), (0, 0, 0)), ((31, .getfield 39, 3, 1, 3, 1055, 0), (0, 3, 0)), ((34, .istore 4, 2, 0, 0, 0, 0), (0, 0, 0)), ((36, .aload_n 1, 1, 0, 0, 0, 0), (0, 0, 0))] (by decide +kernel) rfl ?_
        exact hx_call (E := (37, .invokevirtual 52, 3, 30, 0, 3010, 0)) (M' := yp_m30) [.inr (.inl 3)] [] rfl (by decide +kernel) rfl ⟨rfl, rfl⟩ rfl rfl (hx_mono (h2 c1 c2) (fun r m' h' => hx_pick [0, 1, 2, 3, 4] h'))
    · have c2 : ¬ (isPr (m 3 3)) := c2
      show hxn xs n yp_m32 27 [(0, .inr (.inl 52)), (1, .inr (.inl 3)), (2, .inl x2), (3, .inl x3)] [.inl 0] m Q
      refine hx_if .eq 68 (by decide +kernel) (fun c3 => ?_) (fun c3 => ?_)
      · have c3 : (0 : Int) = 0 := c3
        refine hx_blk (npc := 69) (L' := [(0, .inr (.inl 52)), (1, .inr (.inl 3)), (2, .inl x2), (3, .inl x3)]) (st' := [.inl 1]) (m' := m) [((68, .iconst 1, 1, 0, 0, 0, 0), (0, 0, 0))] (by decide +kernel) rfl ?_
        exact hx_reti (by decide +kernel) (h3 c1 c2)
      · have c3 : (0 : Int) ≠ 0 := c3
        exfalso; omega

/-- product from 40 on -/
theorem hr32_40 {xs : List Int32} {n : Nat} {Q : hQ} {m : gx_M} {x2 x3 x4 : Int} (r_x2 : 0 ≤ x2 ∧ x2 ≤ 6) (r_x3 : 0 ≤ x3 ∧ x3 ≤ 240)
    (h1 : hxn xs n yp_m33 0 [(0, .inr (.inl 52)), (1, .inr (.inl 3)), (2, .inl x2)] [] m (fun r m' => hxn xs n yp_m32 46 [(0, .inr (.inl 52)), (1, .inr (.inl 3)), (2, .inl x2), (3, .inl x3), (4, .inl x4)] (hrs r ++ []) m' Q)) : hxn xs (n + 1) yp_m32 40 [(0, .inr (.inl 52)), (1, .inr (.inl 3)), (2, .inl x2), (3, .inl x3), (4, .inl x4)] [] m Q := by
  refine hx_blks (npc := 43) (L' := [(0, .inr (.inl 52)), (1, .inr (.inl 3)), (2, .inl x2), (3, .inl x3), (4, .inl x4)]) (st' := [.inl x2, .inr (.inl 3), .inr (.inl 52)]) (m' := m) ((40, .aload_n 0, 1, 0, 0, 0, 0), (0, 0, 0)) [((41, .aload_n 1, 1, 0, 0, 0, 0), (0, 0, 0)), ((42, .iload_n 2, 1, 0, 0, 0, 0), (0, 0, 0))] (by decide +kernel) rfl ?_
  exact hx_call (E := (43, .invokevirtual 85, 3, 33, 0, 3022, 0)) (M' := yp_m33) [.inr (.inl 52), .inr (.inl 3), .inl x2] [] rfl (by decide +kernel) rfl ⟨rfl, rfl⟩ rfl rfl (hx_mono h1 (fun r m' h' => hx_pick [0, 1, 2, 3, 4] h'))

/-- product from 46 on -/
theorem hr32_46 {xs : List Int32} {n : Nat} {Q : hQ} {m : gx_M} {x2 x3 x4 s0 : Int} (r_x2 : 0 ≤ x2 ∧ x2 ≤ 6) (r_x3 : 0 ≤ x3 ∧ x3 ≤ 240)
    (h1 : (s0 ≠ 0) → hxn xs n yp_m36 0 [(0, .inr (.inl 53)), (1, .inl x4), (2, .inl 0)] [] m (fun r m' => hxn xs n yp_m32 61 [(0, .inr (.inl 52)), (1, .inr (.inl 3)), (2, .inl x2), (3, .inl x3)] (hrs r ++ []) m' Q))
    (h2 : (s0 = 0) → Q (some (.inl 0)) m) : hxn xs (n + 1) yp_m32 46 [(0, .inr (.inl 52)), (1, .inr (.inl 3)), (2, .inl x2), (3, .inl x3), (4, .inl x4)] [.inl s0] m Q := by
  refine hx_ifs .ne 51 (by decide +kernel) (fun c1 => ?_) (fun c1 => ?_)
  · have c1 : s0 ≠ 0 := c1
    refine hx_blk (npc := 58) (L' := [(0, .inr (.inl 52)), (1, .inr (.inl 3)), (2, .inl x2), (3, .inl x3), (4, .inl x4)]) (st' := [.inl 0, .inl x4, .inr (.inl 53)]) (m' := m) [((51, .aload_n 0, 1, 0, 0, 0, 0), (0, 0, 0)), ((52, .getfield 12, 3, 4, 0, 1226, 0), (1, 52, 53)), ((55, .iload 4, 2, 0, 0, 0, 0), (0, 0, 0)), ((57, .iconst 0, 1, 0, 0, 0, 0), (0, 0, 0))] (by decide +kernel) rfl ?_
    exact hx_call (E := (58, .invokevirtual 68, 3, 36, 0, 3036, 0)) (M' := yp_m36) [.inr (.inl 53), .inl x4, .inl 0] [] rfl (by decide +kernel) rfl ⟨rfl, rfl⟩ rfl rfl (hx_mono (h1 c1) (fun r m' h' => hx_pick [0, 1, 2, 3] h'))
  · have c1 : s0 = 0 := by have h : ¬ (s0 ≠ 0) := c1; omega
    refine hx_blk (npc := 50) (L' := [(0, .inr (.inl 52)), (1, .inr (.inl 3)), (2, .inl x2), (3, .inl x3), (4, .inl x4)]) (st' := [.inl 0]) (m' := m) [((49, .iconst 0, 1, 0, 0, 0, 0), (0, 0, 0))] (by decide +kernel) rfl ?_
    exact hx_reti (by decide +kernel) (h2 c1)

/-- product from 61 on -/
theorem hr32_61 {xs : List Int32} {n : Nat} {Q : hQ} {m : gx_M} {x2 x3 s0 : Int} (r_x2 : 0 ≤ x2 ∧ x2 ≤ 6) (r_x3 : 0 ≤ x3 ∧ x3 ≤ 240)
    (h1 : hxn xs n yp_m32 13 [(0, .inr (.inl 52)), (1, .inr (.inl 3)), (2, .inl x2), (3, .inl (x3 + 1))] [] m Q) : hxn xs (n + 1) yp_m32 61 [(0, .inr (.inl 52)), (1, .inr (.inl 3)), (2, .inl x2), (3, .inl x3)] [.inl s0] m Q := by
  have e1 : gx_w (x3 + 1) = x3 + 1 := gx_w_id (by omega) (by omega)
  refine hx_blks (npc := 13) (L' := [(0, .inr (.inl 52)), (1, .inr (.inl 3)), (2, .inl x2), (3, .inl (gx_w (x3 + 1)))]) (st' := []) (m' := m) ((61, .pop, 1, 0, 0, 0, 0), (0, 0, 0)) [((62, .iinc 3 1, 3, 0, 0, 0, 0), (0, 0, 0)), ((65, .goto (-52), 3, 0, 0, 0, 0), (0, 0, 0))] (by decide +kernel) rfl ?_
  rw [e1]
  exact hx_pick [0, 1, 2, 3] h1

/-- sum from 0 on -/
theorem hr31_0 {xs : List Int32} {n : Nat} {Q : hQ} {m : gx_M} {x2 : Int} (r_x2 : 0 ≤ x2 ∧ x2 ≤ 6)
    (h1 : hxn xs n yp_m32 0 [(0, .inr (.inl 52)), (1, .inr (.inl 3)), (2, .inl x2)] [] m (fun r m' => hxn xs n yp_m31 6 [(0, .inr (.inl 52)), (1, .inr (.inl 3)), (2, .inl x2)] (hrs r ++ []) m' Q)) : hxn xs (n + 1) yp_m31 0 [(0, .inr (.inl 52)), (1, .inr (.inl 3)), (2, .inl x2)] [] m Q := by
  refine hx_blks (npc := 3) (L' := [(0, .inr (.inl 52)), (1, .inr (.inl 3)), (2, .inl x2)]) (st' := [.inl x2, .inr (.inl 3), .inr (.inl 52)]) (m' := m) ((0, .aload_n 0, 1, 0, 0, 0, 0), (0, 0, 0)) [((1, .aload_n 1, 1, 0, 0, 0, 0), (0, 0, 0)), ((2, .iload_n 2, 1, 0, 0, 0, 0), (0, 0, 0))] (by decide +kernel) rfl ?_
  exact hx_call (E := (3, .invokevirtual 79, 3, 32, 0, 3018, 0)) (M' := yp_m32) [.inr (.inl 52), .inr (.inl 3), .inl x2] [] rfl (by decide +kernel) rfl ⟨rfl, rfl⟩ rfl rfl (hx_mono h1 (fun r m' h' => hx_pick [0, 1, 2] h'))

/-- sum from 6 on -/
theorem hr31_6 {xs : List Int32} {n : Nat} {Q : hQ} {m : gx_M} {x2 s0 : Int} (r_x2 : 0 ≤ x2 ∧ x2 ≤ 6)
    (h1 : (s0 ≠ 0) → hxn xs n yp_m31 13 [(0, .inr (.inl 52)), (1, .inr (.inl 3)), (2, .inl x2), (3, .inl 0)] [] m Q)
    (h2 : (s0 = 0) → Q (some (.inl 0)) m) : hxn xs (n + 1) yp_m31 6 [(0, .inr (.inl 52)), (1, .inr (.inl 3)), (2, .inl x2)] [.inl s0] m Q := by
  refine hx_ifs .ne 11 (by decide +kernel) (fun c1 => ?_) (fun c1 => ?_)
  · have c1 : s0 ≠ 0 := c1
    refine hx_blk (npc := 13) (L' := [(0, .inr (.inl 52)), (1, .inr (.inl 3)), (2, .inl x2), (3, .inl 0)]) (st' := []) (m' := m) [((11, .iconst 0, 1, 0, 0, 0, 0), (0, 0, 0)), ((12, .istore_n 3, 1, 0, 0, 0, 0), (0, 0, 0))] (by decide +kernel) rfl ?_
    exact hx_pick [0, 1, 2, 3] (h1 c1)
  · have c1 : s0 = 0 := by have h : ¬ (s0 ≠ 0) := c1; omega
    refine hx_blk (npc := 10) (L' := [(0, .inr (.inl 52)), (1, .inr (.inl 3)), (2, .inl x2)]) (st' := [.inl 0]) (m' := m) [((9, .iconst 0, 1, 0, 0, 0, 0), (0, 0, 0))] (by decide +kernel) rfl ?_
    exact hx_reti (by decide +kernel) (h2 c1)

/-- sum from 13 on -/
theorem hr31_13 {xs : List Int32} {n : Nat} {Q : hQ} {m : gx_M} {x2 x3 : Int} (r_x2 : 0 ≤ x2 ∧ x2 ≤ 6) (r_x3 : 0 ≤ x3 ∧ x3 ≤ 240)
    (h1 : (240 ≤ x3) → Q (some (.inl 1)) m)
    (h2 : (x3 < 240) → (isSm (m 3 3)) → hxn xs n yp_m30 0 [(0, .inr (.inl 3))] [] m (fun r m' => hxn xs n yp_m31 40 [(0, .inr (.inl 52)), (1, .inr (.inl 3)), (2, .inl x2), (3, .inl x3), (4, .inl (m 3 3))] (hrs r ++ []) m' Q))
    (h3 : (x3 < 240) → (¬ (isSm (m 3 3))) → Q (some (.inl 1)) m) : hxn xs (n + 1) yp_m31 13 [(0, .inr (.inl 52)), (1, .inr (.inl 3)), (2, .inl x2), (3, .inl x3)] [] m Q := by
  refine hx_blks (npc := 17) (L' := [(0, .inr (.inl 52)), (1, .inr (.inl 3)), (2, .inl x2), (3, .inl x3)]) (st' := [.inl 240, .inl x3]) (m' := m) ((13, .iload_n 3, 1, 0, 0, 0, 0), (0, 0, 0)) [((14, .sipush 240, 3, 0, 0, 0, 0), (0, 0, 0))] (by decide +kernel) rfl ?_
  refine hx_cmp .ge 68 (by decide +kernel) (fun c1 => ?_) (fun c1 => ?_)
  · have c1 : 240 ≤ x3 := c1
    refine hx_blk (npc := 69) (L' := [(0, .inr (.inl 52)), (1, .inr (.inl 3)), (2, .inl x2), (3, .inl x3)]) (st' := [.inl 1]) (m' := m) [((68, .iconst 1, 1, 0, 0, 0, 0), (0, 0, 0))] (by decide +kernel) rfl ?_
    exact hx_reti (by decide +kernel) (h1 c1)
  · have c1 : x3 < 240 := by have h : ¬ (240 ≤ x3) := c1; omega
    refine hx_blk (npc := 24) (L' := [(0, .inr (.inl 52)), (1, .inr (.inl 3)), (2, .inl x2), (3, .inl x3)]) (st' := [.inl (m 3 3)]) (m' := m) [((20, .aload_n 1, 1, 0, 0, 0, 0), (0, 0, 0)), ((21, .getfield 39, 3, 1, 3, 1055, 0), (0, 3, 0))] (by decide +kernel) rfl ?_
    refine hx_call (E := (24, .invokestatic 82, 3, 40, 0, 3051, 0)) (M' := yp_m40) [.inl (m 3 3)] [] rfl (by decide +kernel) rfl ⟨rfl, rfl⟩ rfl rfl (hs40 (fun c2 => ?_) (fun c2 => ?_))
    · have c2 : isSm (m 3 3) := c2
      show hxn xs n yp_m31 27 [(0, .inr (.inl 52)), (1, .inr (.inl 3)), (2, .inl x2), (3, .inl x3)] [.inl 1] m Q
      refine hx_if .eq 68 (by decide +kernel) (fun c3 => ?_) (fun c3 => ?_)
      · have c3 : (1 : Int) = 0 := c3
        exfalso; omega
      · have c3 : (1 : Int) ≠ 0 := c3
        refine hx_blk (npc := 37) (L' := [(0, .inr (.inl 52)), (1, .inr (.inl 3)), (2, .inl x2), (3, .inl x3), (4, .inl (m 3 3))]) (st' := [.inr (.inl 3)]) (m' := m) [((30, .aload_n 1, 1, 0, 0, 0, 0), (0, 0, 0)), ((31, .getfield 39, 3, 1, 3, 1055, 0), (0, 3, 0)), ((34, .istore 4, 2, 0, 0, 0, 0), (0, 0, 0)), ((36, .aload_n 1, 1, 0, 0, 0, 0), (0, 0, 0))] (by decide +kernel) rfl ?_
        exact hx_call (E := (37, .invokevirtual 52, 3, 30, 0, 3010, 0)) (M' := yp_m30) [.inr (.inl 3)] [] rfl (by decide +kernel) rfl ⟨rfl, rfl⟩ rfl rfl (hx_mono (h2 c1 c2) (fun r m' h' => hx_pick [0, 1, 2, 3, 4] h'))
    · have c2 : ¬ (isSm (m 3 3)) := c2
      show hxn xs n yp_m31 27 [(0, .inr (.inl 52)), (1, .inr (.inl 3)), (2, .inl x2), (3, .inl x3)] [.inl 0] m Q
      refine hx_if .eq 68 (by decide +kernel) (fun c3 => ?_) (fun c3 => ?_)
      · have c3 : (0 : Int) = 0 := c3
        refine hx_blk (npc := 69) (L' := [(0, .inr (.inl 52)), (1, .inr (.inl 3)), (2, .inl x2), (3, .inl x3)]) (st' := [.inl 1]) (m' := m) [((68, .iconst 1, 1, 0, 0, 0, 0), (0, 0, 0))] (by decide +kernel) rfl ?_
        exact hx_reti (by decide +kernel) (h3 c1 c2)
      · have c3 : (0 : Int) ≠ 0 := c3
        exfalso; omega

/-- sum from 40 on -/
theorem hr31_40 {xs : List Int32} {n : Nat} {Q : hQ} {m : gx_M} {x2 x3 x4 : Int} (r_x2 : 0 ≤ x2 ∧ x2 ≤ 6) (r_x3 : 0 ≤ x3 ∧ x3 ≤ 240)
    (h1 : hxn xs n yp_m32 0 [(0, .inr (.inl 52)), (1, .inr (.inl 3)), (2, .inl x2)] [] m (fun r m' => hxn xs n yp_m31 46 [(0, .inr (.inl 52)), (1, .inr (.inl 3)), (2, .inl x2), (3, .inl x3), (4, .inl x4)] (hrs r ++ []) m' Q)) : hxn xs (n + 1) yp_m31 40 [(0, .inr (.inl 52)), (1, .inr (.inl 3)), (2, .inl x2), (3, .inl x3), (4, .inl x4)] [] m Q := by
  refine hx_blks (npc := 43) (L' := [(0, .inr (.inl 52)), (1, .inr (.inl 3)), (2, .inl x2), (3, .inl x3), (4, .inl x4)]) (st' := [.inl x2, .inr (.inl 3), .inr (.inl 52)]) (m' := m) ((40, .aload_n 0, 1, 0, 0, 0, 0), (0, 0, 0)) [((41, .aload_n 1, 1, 0, 0, 0, 0), (0, 0, 0)), ((42, .iload_n 2, 1, 0, 0, 0, 0), (0, 0, 0))] (by decide +kernel) rfl ?_
  exact hx_call (E := (43, .invokevirtual 79, 3, 32, 0, 3018, 0)) (M' := yp_m32) [.inr (.inl 52), .inr (.inl 3), .inl x2] [] rfl (by decide +kernel) rfl ⟨rfl, rfl⟩ rfl rfl (hx_mono h1 (fun r m' h' => hx_pick [0, 1, 2, 3, 4] h'))

/-- sum from 46 on -/
theorem hr31_46 {xs : List Int32} {n : Nat} {Q : hQ} {m : gx_M} {x2 x3 x4 s0 : Int} (r_x2 : 0 ≤ x2 ∧ x2 ≤ 6) (r_x3 : 0 ≤ x3 ∧ x3 ≤ 240)
    (h1 : (s0 ≠ 0) → hxn xs n yp_m36 0 [(0, .inr (.inl 53)), (1, .inl x4), (2, .inl 0)] [] m (fun r m' => hxn xs n yp_m31 61 [(0, .inr (.inl 52)), (1, .inr (.inl 3)), (2, .inl x2), (3, .inl x3)] (hrs r ++ []) m' Q))
    (h2 : (s0 = 0) → Q (some (.inl 0)) m) : hxn xs (n + 1) yp_m31 46 [(0, .inr (.inl 52)), (1, .inr (.inl 3)), (2, .inl x2), (3, .inl x3), (4, .inl x4)] [.inl s0] m Q := by
  refine hx_ifs .ne 51 (by decide +kernel) (fun c1 => ?_) (fun c1 => ?_)
  · have c1 : s0 ≠ 0 := c1
    refine hx_blk (npc := 58) (L' := [(0, .inr (.inl 52)), (1, .inr (.inl 3)), (2, .inl x2), (3, .inl x3), (4, .inl x4)]) (st' := [.inl 0, .inl x4, .inr (.inl 53)]) (m' := m) [((51, .aload_n 0, 1, 0, 0, 0, 0), (0, 0, 0)), ((52, .getfield 12, 3, 4, 0, 1226, 0), (1, 52, 53)), ((55, .iload 4, 2, 0, 0, 0, 0), (0, 0, 0)), ((57, .iconst 0, 1, 0, 0, 0, 0), (0, 0, 0))] (by decide +kernel) rfl ?_
    exact hx_call (E := (58, .invokevirtual 68, 3, 36, 0, 3036, 0)) (M' := yp_m36) [.inr (.inl 53), .inl x4, .inl 0] [] rfl (by decide +kernel) rfl ⟨rfl, rfl⟩ rfl rfl (hx_mono (h1 c1) (fun r m' h' => hx_pick [0, 1, 2, 3] h'))
  · have c1 : s0 = 0 := by have h : ¬ (s0 ≠ 0) := c1; omega
    refine hx_blk (npc := 50) (L' := [(0, .inr (.inl 52)), (1, .inr (.inl 3)), (2, .inl x2), (3, .inl x3), (4, .inl x4)]) (st' := [.inl 0]) (m' := m) [((49, .iconst 0, 1, 0, 0, 0, 0), (0, 0, 0))] (by decide +kernel) rfl ?_
    exact hx_reti (by decide +kernel) (h2 c1)

/-- sum from 61 on -/
theorem hr31_61 {xs : List Int32} {n : Nat} {Q : hQ} {m : gx_M} {x2 x3 s0 : Int} (r_x2 : 0 ≤ x2 ∧ x2 ≤ 6) (r_x3 : 0 ≤ x3 ∧ x3 ≤ 240)
    (h1 : hxn xs n yp_m31 13 [(0, .inr (.inl 52)), (1, .inr (.inl 3)), (2, .inl x2), (3, .inl (x3 + 1))] [] m Q) : hxn xs (n + 1) yp_m31 61 [(0, .inr (.inl 52)), (1, .inr (.inl 3)), (2, .inl x2), (3, .inl x3)] [.inl s0] m Q := by
  have e1 : gx_w (x3 + 1) = x3 + 1 := gx_w_id (by omega) (by omega)
  refine hx_blks (npc := 13) (L' := [(0, .inr (.inl 52)), (1, .inr (.inl 3)), (2, .inl x2), (3, .inl (gx_w (x3 + 1)))]) (st' := []) (m' := m) ((61, .pop, 1, 0, 0, 0, 0), (0, 0, 0)) [((62, .iinc 3 1, 3, 0, 0, 0, 0), (0, 0, 0)), ((65, .goto (-52), 3, 0, 0, 0, 0), (0, 0, 0))] (by decide +kernel) rfl ?_
  rw [e1]
  exact hx_pick [0, 1, 2, 3] h1

/-- piece from 0 on -/
theorem hr43_0 {xs : List Int32} {n : Nat} {Q : hQ} {m : gx_M} {x2 : Int} (r_x2 : 0 ≤ x2 ∧ x2 ≤ 6)
    (h1 : ((m 3 3) = 33) → (x2 < 6) → ((m 3 3) ≠ 40) → ((m 3 3) = 33) → hxn xs n yp_m30 0 [(0, .inr (.inl 3))] [] m (fun r m' => hxn xs n yp_m43 79 [(0, .inr (.inl 52)), (1, .inr (.inl 3)), (2, .inl x2)] (hrs r ++ []) m' Q))
    (h2 : ((m 3 3) = 33) → (6 ≤ x2) → hxn xs n yp_m29 0 [(0, .inr (.inl 3)), (1, .inl 5), (2, .inl (m 3 2))] [] m (fun r m' => hxn xs n yp_m43 32 [] (hrs r ++ []) m' Q))
    (h3 : ((m 3 3) ≠ 33) → ((m 3 3) ≠ 40) → ((m 3 3) ≠ 40) → ((m 3 3) ≠ 33) → hxn xs n yp_m31 0 [(0, .inr (.inl 52)), (1, .inr (.inl 3)), (2, .inl x2)] [] m (fun r m' => hxn xs n yp_m43 111 [(0, .inr (.inl 52)), (1, .inr (.inl 3)), (2, .inl x2)] (hrs r ++ []) m' Q))
    (h4 : ((m 3 3) ≠ 33) → ((m 3 3) ≠ 40) → ((m 3 3) ≠ 40) → ((m 3 3) = 33) → hxn xs n yp_m30 0 [(0, .inr (.inl 3))] [] m (fun r m' => hxn xs n yp_m43 79 [(0, .inr (.inl 52)), (1, .inr (.inl 3)), (2, .inl x2)] (hrs r ++ []) m' Q))
    (h5 : ((m 3 3) ≠ 33) → ((m 3 3) ≠ 40) → ((m 3 3) = 40) → hxn xs n yp_m30 0 [(0, .inr (.inl 3))] [] m (fun r m' => hxn xs n yp_m43 43 [(0, .inr (.inl 52)), (1, .inr (.inl 3)), (2, .inl x2)] (hrs r ++ []) m' Q))
    (h6 : ((m 3 3) ≠ 33) → ((m 3 3) = 40) → (x2 < 6) → ((m 3 3) = 40) → hxn xs n yp_m30 0 [(0, .inr (.inl 3))] [] m (fun r m' => hxn xs n yp_m43 43 [(0, .inr (.inl 52)), (1, .inr (.inl 3)), (2, .inl x2)] (hrs r ++ []) m' Q))
    (h7 : ((m 3 3) ≠ 33) → ((m 3 3) = 40) → (6 ≤ x2) → hxn xs n yp_m29 0 [(0, .inr (.inl 3)), (1, .inl 5), (2, .inl (m 3 2))] [] m (fun r m' => hxn xs n yp_m43 32 [] (hrs r ++ []) m' Q)) : hxn xs (n + 1) yp_m43 0 [(0, .inr (.inl 52)), (1, .inr (.inl 3)), (2, .inl x2)] [] m Q := by
  refine hx_blks (npc := 8) (L' := [(0, .inr (.inl 52)), (1, .inr (.inl 3)), (2, .inl x2), (3, .inl (m 3 3))]) (st' := [.inl 33, .inl (m 3 3)]) (m' := m) ((0, .aload_n 1, 1, 0, 0, 0, 0), (0, 0, 0)) [((1, .getfield 39, 3, 1, 3, 1055, 0), (0, 3, 0)), ((4, .istore_n 3, 1, 0, 0, 0, 0), (0, 0, 0)), ((5, .iload_n 3, 1, 0, 0, 0, 0), (0, 0, 0)), ((6, .bipush 33, 2, 0, 0, 0, 0), (0, 0, 0))] (by decide +kernel) rfl ?_
  refine hx_cmp .eq 17 (by decide +kernel) (fun c1 => ?_) (fun c1 => ?_)
  · have c1 : (m 3 3) = 33 := c1
    refine hx_blk (npc := 20) (L' := [(0, .inr (.inl 52)), (1, .inr (.inl 3)), (2, .inl x2), (3, .inl (m 3 3))]) (st' := [.inl 6, .inl x2]) (m' := m) [((17, .iload_n 2, 1, 0, 0, 0, 0), (0, 0, 0)), ((18, .bipush 6, 2, 0, 0, 0, 0), (0, 0, 0))] (by decide +kernel) rfl ?_
    refine hx_cmp .lt 33 (by decide +kernel) (fun c2 => ?_) (fun c2 => ?_)
    · have c2 : x2 < 6 := c2
      refine hx_blk (npc := 36) (L' := [(0, .inr (.inl 52)), (1, .inr (.inl 3)), (2, .inl x2), (3, .inl (m 3 3))]) (st' := [.inl 40, .inl (m 3 3)]) (m' := m) [((33, .iload_n 3, 1, 0, 0, 0, 0), (0, 0, 0)), ((34, .bipush 40, 2, 0, 0, 0, 0), (0, 0, 0))] (by decide +kernel) rfl ?_
      refine hx_cmp .ne 69 (by decide +kernel) (fun c3 => ?_) (fun c3 => ?_)
      · have c3 : (m 3 3) ≠ 40 := c3
        refine hx_blk (npc := 72) (L' := [(0, .inr (.inl 52)), (1, .inr (.inl 3)), (2, .inl x2), (3, .inl (m 3 3))]) (st' := [.inl 33, .inl (m 3 3)]) (m' := m) [((69, .iload_n 3, 1, 0, 0, 0, 0), (0, 0, 0)), ((70, .bipush 33, 2, 0, 0, 0, 0), (0, 0, 0))] (by decide +kernel) rfl ?_
        refine hx_cmp .ne 105 (by decide +kernel) (fun c4 => ?_) (fun c4 => ?_)
        · have c4 : (m 3 3) ≠ 33 := c4
          exfalso; omega
        · have c4 : (m 3 3) = 33 := by have h : ¬ ((m 3 3) ≠ 33) := c4; omega
          refine hx_blk (npc := 76) (L' := [(0, .inr (.inl 52)), (1, .inr (.inl 3)), (2, .inl x2), (3, .inl (m 3 3))]) (st' := [.inr (.inl 3)]) (m' := m) [((75, .aload_n 1, 1, 0, 0, 0, 0), (0, 0, 0))] (by decide +kernel) rfl ?_
          exact hx_call (E := (76, .invokevirtual 52, 3, 30, 0, 3010, 0)) (M' := yp_m30) [.inr (.inl 3)] [] rfl (by decide +kernel) rfl ⟨rfl, rfl⟩ rfl rfl (hx_mono (h1 c1 c2 c3 c4) (fun r m' h' => hx_pick [0, 1, 2] h'))
      · have c3 : (m 3 3) = 40 := by have h : ¬ ((m 3 3) ≠ 40) := c3; omega
        exfalso; omega
    · have c2 : 6 ≤ x2 := by have h : ¬ (x2 < 6) := c2; omega
      refine hx_blk (npc := 29) (L' := [(0, .inr (.inl 52)), (1, .inr (.inl 3)), (2, .inl x2), (3, .inl (m 3 3))]) (st' := [.inl (m 3 2), .inl 5, .inr (.inl 3)]) (m' := m) [((23, .aload_n 1, 1, 0, 0, 0, 0), (0, 0, 0)), ((24, .iconst 5, 1, 0, 0, 0, 0), (0, 0, 0)), ((25, .aload_n 1, 1, 0, 0, 0, 0), (0, 0, 0)), ((26, .getfield 45, 3, 1, 2, 1053, 0), (0, 3, 0))] (by decide +kernel) rfl ?_
      exact hx_call (E := (29, .invokevirtual 48, 3, 29, 0, 3009, 0)) (M' := yp_m29) [.inr (.inl 3), .inl 5, .inl (m 3 2)] [] rfl (by decide +kernel) rfl ⟨rfl, rfl⟩ rfl rfl (hx_mono (h2 c1 c2) (fun r m' h' => hx_pick [] h'))
  · have c1 : (m 3 3) ≠ 33 := c1
    refine hx_blk (npc := 14) (L' := [(0, .inr (.inl 52)), (1, .inr (.inl 3)), (2, .inl x2), (3, .inl (m 3 3))]) (st' := [.inl 40, .inl (m 3 3)]) (m' := m) [((11, .iload_n 3, 1, 0, 0, 0, 0), (0, 0, 0)), ((12, .bipush 40, 2, 0, 0, 0, 0), (0, 0, 0))] (by decide +kernel) rfl ?_
    refine hx_cmp .ne 33 (by decide +kernel) (fun c2 => ?_) (fun c2 => ?_)
    · have c2 : (m 3 3) ≠ 40 := c2
      refine hx_blk (npc := 36) (L' := [(0, .inr (.inl 52)), (1, .inr (.inl 3)), (2, .inl x2), (3, .inl (m 3 3))]) (st' := [.inl 40, .inl (m 3 3)]) (m' := m) [((33, .iload_n 3, 1, 0, 0, 0, 0), (0, 0, 0)), ((34, .bipush 40, 2, 0, 0, 0, 0), (0, 0, 0))] (by decide +kernel) rfl ?_
      refine hx_cmp .ne 69 (by decide +kernel) (fun c3 => ?_) (fun c3 => ?_)
      · have c3 : (m 3 3) ≠ 40 := c3
        refine hx_blk (npc := 72) (L' := [(0, .inr (.inl 52)), (1, .inr (.inl 3)), (2, .inl x2), (3, .inl (m 3 3))]) (st' := [.inl 33, .inl (m 3 3)]) (m' := m) [((69, .iload_n 3, 1, 0, 0, 0, 0), (0, 0, 0)), ((70, .bipush 33, 2, 0, 0, 0, 0), (0, 0, 0))] (by decide +kernel) rfl ?_
        refine hx_cmp .ne 105 (by decide +kernel) (fun c4 => ?_) (fun c4 => ?_)
        · have c4 : (m 3 3) ≠ 33 := c4
          refine hx_blk (npc := 108) (L' := [(0, .inr (.inl 52)), (1, .inr (.inl 3)), (2, .inl x2), (3, .inl (m 3 3))]) (st' := [.inl x2, .inr (.inl 3), .inr (.inl 52)]) (m' := m) [((105, .aload_n 0, 1, 0, 0, 0, 0), (0, 0, 0)), ((106, .aload_n 1, 1, 0, 0, 0, 0), (0, 0, 0)), ((107, .iload_n 2, 1, 0, 0, 0, 0), (0, 0, 0))] (by decide +kernel) rfl ?_
          exact hx_call (E := (108, .invokevirtual 55, 3, 31, 0, 3014, 0)) (M' := yp_m31) [.inr (.inl 52), .inr (.inl 3), .inl x2] [] rfl (by decide +kernel) rfl ⟨rfl, rfl⟩ rfl rfl (hx_mono (h3 c1 c2 c3 c4) (fun r m' h' => hx_pick [0, 1, 2] h'))
        · have c4 : (m 3 3) = 33 := by have h : ¬ ((m 3 3) ≠ 33) := c4; omega
          refine hx_blk (npc := 76) (L' := [(0, .inr (.inl 52)), (1, .inr (.inl 3)), (2, .inl x2), (3, .inl (m 3 3))]) (st' := [.inr (.inl 3)]) (m' := m) [((75, .aload_n 1, 1, 0, 0, 0, 0), (0, 0, 0))] (by decide +kernel) rfl ?_
          exact hx_call (E := (76, .invokevirtual 52, 3, 30, 0, 3010, 0)) (M' := yp_m30) [.inr (.inl 3)] [] rfl (by decide +kernel) rfl ⟨rfl, rfl⟩ rfl rfl (hx_mono (h4 c1 c2 c3 c4) (fun r m' h' => hx_pick [0, 1, 2] h'))
      · have c3 : (m 3 3) = 40 := by have h : ¬ ((m 3 3) ≠ 40) := c3; omega
        refine hx_blk (npc := 40) (L' := [(0, .inr (.inl 52)), (1, .inr (.inl 3)), (2, .inl x2), (3, .inl (m 3 3))]) (st' := [.inr (.inl 3)]) (m' := m) [((39, .aload_n 1, 1, 0, 0, 0, 0), (0, 0, 0))] (by decide +kernel) rfl ?_
        exact hx_call (E := (40, .invokevirtual 52, 3, 30, 0, 3010, 0)) (M' := yp_m30) [.inr (.inl 3)] [] rfl (by decide +kernel) rfl ⟨rfl, rfl⟩ rfl rfl (hx_mono (h5 c1 c2 c3) (fun r m' h' => hx_pick [0, 1, 2] h'))
    · have c2 : (m 3 3) = 40 := by have h : ¬ ((m 3 3) ≠ 40) := c2; omega
      refine hx_blk (npc := 20) (L' := [(0, .inr (.inl 52)), (1, .inr (.inl 3)), (2, .inl x2), (3, .inl (m 3 3))]) (st' := [.inl 6, .inl x2]) (m' := m) [((17, .iload_n 2, 1, 0, 0, 0, 0), (0, 0, 0)), ((18, .bipush 6, 2, 0, 0, 0, 0), (0, 0, 0))] (by decide +kernel) rfl ?_
      refine hx_cmp .lt 33 (by decide +kernel) (fun c3 => ?_) (fun c3 => ?_)
      · have c3 : x2 < 6 := c3
        refine hx_blk (npc := 36) (L' := [(0, .inr (.inl 52)), (1, .inr (.inl 3)), (2, .inl x2), (3, .inl (m 3 3))]) (st' := [.inl 40, .inl (m 3 3)]) (m' := m) [((33, .iload_n 3, 1, 0, 0, 0, 0), (0, 0, 0)), ((34, .bipush 40, 2, 0, 0, 0, 0), (0, 0, 0))] (by decide +kernel) rfl ?_
        refine hx_cmp .ne 69 (by decide +kernel) (fun c4 => ?_) (fun c4 => ?_)
        · have c4 : (m 3 3) ≠ 40 := c4
          exfalso; omega
        · have c4 : (m 3 3) = 40 := by have h : ¬ ((m 3 3) ≠ 40) := c4; omega
          refine hx_blk (npc := 40) (L' := [(0, .inr (.inl 52)), (1, .inr (.inl 3)), (2, .inl x2), (3, .inl (m 3 3))]) (st' := [.inr (.inl 3)]) (m' := m) [((39, .aload_n 1, 1, 0, 0, 0, 0), (0, 0, 0))] (by decide +kernel) rfl ?_
          exact hx_call (E := (40, .invokevirtual 52, 3, 30, 0, 3010, 0)) (M' := yp_m30) [.inr (.inl 3)] [] rfl (by decide +kernel) rfl ⟨rfl, rfl⟩ rfl rfl (hx_mono (h6 c1 c2 c3 c4) (fun r m' h' => hx_pick [0, 1, 2] h'))
      · have c3 : 6 ≤ x2 := by have h : ¬ (x2 < 6) := c3; omega
        refine hx_blk (npc := 29) (L' := [(0, .inr (.inl 52)), (1, .inr (.inl 3)), (2, .inl x2), (3, .inl (m 3 3))]) (st' := [.inl (m 3 2), .inl 5, .inr (.inl 3)]) (m' := m) [((23, .aload_n 1, 1, 0, 0, 0, 0), (0, 0, 0)), ((24, .iconst 5, 1, 0, 0, 0, 0), (0, 0, 0)), ((25, .aload_n 1, 1, 0, 0, 0, 0), (0, 0, 0)), ((26, .getfield 45, 3, 1, 2, 1053, 0), (0, 3, 0))] (by decide +kernel) rfl ?_
        exact hx_call (E := (29, .invokevirtual 48, 3, 29, 0, 3009, 0)) (M' := yp_m29) [.inr (.inl 3), .inl 5, .inl (m 3 2)] [] rfl (by decide +kernel) rfl ⟨rfl, rfl⟩ rfl rfl (hx_mono (h7 c1 c2 c3) (fun r m' h' => hx_pick [] h'))

/-- piece from 32 on -/
theorem hr43_32 {xs : List Int32} {n : Nat} {Q : hQ} {m : gx_M} {s0 : Int}
    (h1 : Q (some (.inl s0)) m) : hxn xs (n + 1) yp_m43 32 [] [.inl s0] m Q := by
  exact hx_reti (by decide +kernel) h1

/-- piece from 43 on -/
theorem hr43_43 {xs : List Int32} {n : Nat} {Q : hQ} {m : gx_M} {x2 : Int} (r_x2 : 0 ≤ x2 ∧ x2 ≤ 6)
    (h1 : hxn xs n yp_m41 0 [(0, .inr (.inl 52)), (1, .inr (.inl 3)), (2, .inl (x2 + 1))] [] m (fun r m' => hxn xs n yp_m43 51 [(1, .inr (.inl 3))] (hrs r ++ []) m' Q)) : hxn xs (n + 1) yp_m43 43 [(0, .inr (.inl 52)), (1, .inr (.inl 3)), (2, .inl x2)] [] m Q := by
  have e1 : gx_w (x2 + 1) = x2 + 1 := gx_w_id (by omega) (by omega)
  refine hx_blks (npc := 48) (L' := [(0, .inr (.inl 52)), (1, .inr (.inl 3)), (2, .inl x2)]) (st' := [.inl (gx_w (x2 + 1)), .inr (.inl 3), .inr (.inl 52)]) (m' := m) ((43, .aload_n 0, 1, 0, 0, 0, 0), (0, 0, 0)) [((44, .aload_n 1, 1, 0, 0, 0, 0), (0, 0, 0)), ((45, .iload_n 2, 1, 0, 0, 0, 0), (0, 0, 0)), ((46, .iconst 1, 1, 0, 0, 0, 0), (0, 0, 0)), ((47, .iadd, 1, 0, 0, 0, 0), (0, 0, 0))] (by decide +kernel) rfl ?_
  rw [e1]
  exact hx_call (E := (48, .invokevirtual 58, 3, 41, 0, 3054, 0)) (M' := yp_m41) [.inr (.inl 52), .inr (.inl 3), .inl (x2 + 1)] [] rfl (by decide +kernel) rfl ⟨rfl, rfl⟩ rfl rfl (hx_mono h1 (fun r m' h' => hx_pick [1] h'))

/-- piece from 51 on -/
theorem hr43_51 {xs : List Int32} {n : Nat} {Q : hQ} {m : gx_M} {s0 : Int}
    (h1 : (s0 = 0) → Q (some (.inl 0)) m)
    (h2 : (s0 ≠ 0) → hxn xs n yp_m37 0 [(0, .inr (.inl 3)), (1, .inl 41)] [] m (fun r m' => hxn xs n yp_m43 60 [] (hrs r ++ []) m' Q)) : hxn xs (n + 1) yp_m43 51 [(1, .inr (.inl 3))] [.inl s0] m Q := by
  refine hx_ifs .eq 67 (by decide +kernel) (fun c1 => ?_) (fun c1 => ?_)
  · have c1 : s0 = 0 := c1
    refine hx_blk (npc := 68) (L' := [(1, .inr (.inl 3))]) (st' := [.inl 0]) (m' := m) [((67, .iconst 0, 1, 0, 0, 0, 0), (0, 0, 0))] (by decide +kernel) rfl ?_
    exact hx_reti (by decide +kernel) (h1 c1)
  · have c1 : s0 ≠ 0 := c1
    refine hx_blk (npc := 57) (L' := [(1, .inr (.inl 3))]) (st' := [.inl 41, .inr (.inl 3)]) (m' := m) [((54, .aload_n 1, 1, 0, 0, 0, 0), (0, 0, 0)), ((55, .bipush 41, 2, 0, 0, 0, 0), (0, 0, 0))] (by decide +kernel) rfl ?_
    exact hx_call (E := (57, .invokevirtual 35, 3, 37, 0, 3040, 0)) (M' := yp_m37) [.inr (.inl 3), .inl 41] [] rfl (by decide +kernel) rfl ⟨rfl, rfl⟩ rfl rfl (hx_mono (h2 c1) (fun r m' h' => hx_pick [] h'))

/-- piece from 60 on -/
theorem hr43_60 {xs : List Int32} {n : Nat} {Q : hQ} {m : gx_M} {s0 : Int}
    (h1 : (s0 = 0) → Q (some (.inl 0)) m)
    (h2 : (s0 ≠ 0) → Q (some (.inl 1)) m) : hxn xs (n + 1) yp_m43 60 [] [.inl s0] m Q := by
  refine hx_ifs .eq 67 (by decide +kernel) (fun c1 => ?_) (fun c1 => ?_)
  · have c1 : s0 = 0 := c1
    refine hx_blk (npc := 68) (L' := []) (st' := [.inl 0]) (m' := m) [((67, .iconst 0, 1, 0, 0, 0, 0), (0, 0, 0))] (by decide +kernel) rfl ?_
    exact hx_reti (by decide +kernel) (h1 c1)
  · have c1 : s0 ≠ 0 := c1
    refine hx_blk (npc := 68) (L' := []) (st' := [.inl 1]) (m' := m) [((63, .iconst 1, 1, 0, 0, 0, 0), (0, 0, 0)), ((64, .goto 4, 3, 0, 0, 0, 0), (0, 0, 0))] (by decide +kernel) rfl ?_
    exact hx_reti (by decide +kernel) (h2 c1)

/-- piece from 79 on -/
theorem hr43_79 {xs : List Int32} {n : Nat} {Q : hQ} {m : gx_M} {x2 : Int} (r_x2 : 0 ≤ x2 ∧ x2 ≤ 6)
    (h1 : hxn xs n yp_m43 0 [(0, .inr (.inl 52)), (1, .inr (.inl 3)), (2, .inl (x2 + 1))] [] m (fun r m' => hxn xs n yp_m43 87 [(0, .inr (.inl 52))] (hrs r ++ []) m' Q)) : hxn xs (n + 1) yp_m43 79 [(0, .inr (.inl 52)), (1, .inr (.inl 3)), (2, .inl x2)] [] m Q := by
  have e1 : gx_w (x2 + 1) = x2 + 1 := gx_w_id (by omega) (by omega)
  refine hx_blks (npc := 84) (L' := [(0, .inr (.inl 52)), (1, .inr (.inl 3)), (2, .inl x2)]) (st' := [.inl (gx_w (x2 + 1)), .inr (.inl 3), .inr (.inl 52)]) (m' := m) ((79, .aload_n 0, 1, 0, 0, 0, 0), (0, 0, 0)) [((80, .aload_n 1, 1, 0, 0, 0, 0), (0, 0, 0)), ((81, .iload_n 2, 1, 0, 0, 0, 0), (0, 0, 0)), ((82, .iconst 1, 1, 0, 0, 0, 0), (0, 0, 0)), ((83, .iadd, 1, 0, 0, 0, 0), (0, 0, 0))] (by decide +kernel) rfl ?_
  rw [e1]
  exact hx_call (E := (84, .invokevirtual 76, 3, 43, 0, 3062, 0)) (M' := yp_m43) [.inr (.inl 52), .inr (.inl 3), .inl (x2 + 1)] [] rfl (by decide +kernel) rfl ⟨rfl, rfl⟩ rfl rfl (hx_mono h1 (fun r m' h' => hx_pick [0] h'))

/-- piece from 87 on -/
theorem hr43_87 {xs : List Int32} {n : Nat} {Q : hQ} {m : gx_M} {s0 : Int}
    (h1 : (s0 ≠ 0) → hxn xs n yp_m36 0 [(0, .inr (.inl 53)), (1, .inl 33), (2, .inl 0)] [] m (fun r m' => hxn xs n yp_m43 102 [] (hrs r ++ []) m' Q))
    (h2 : (s0 = 0) → Q (some (.inl 0)) m) : hxn xs (n + 1) yp_m43 87 [(0, .inr (.inl 52))] [.inl s0] m Q := by
  refine hx_ifs .ne 92 (by decide +kernel) (fun c1 => ?_) (fun c1 => ?_)
  · have c1 : s0 ≠ 0 := c1
    refine hx_blk (npc := 99) (L' := [(0, .inr (.inl 52))]) (st' := [.inl 0, .inl 33, .inr (.inl 53)]) (m' := m) [((92, .aload_n 0, 1, 0, 0, 0, 0), (0, 0, 0)), ((93, .getfield 12, 3, 4, 0, 1226, 0), (1, 52, 53)), ((96, .bipush 33, 2, 0, 0, 0, 0), (0, 0, 0)), ((98, .iconst 0, 1, 0, 0, 0, 0), (0, 0, 0))] (by decide +kernel) rfl ?_
    exact hx_call (E := (99, .invokevirtual 68, 3, 36, 0, 3036, 0)) (M' := yp_m36) [.inr (.inl 53), .inl 33, .inl 0] [] rfl (by decide +kernel) rfl ⟨rfl, rfl⟩ rfl rfl (hx_mono (h1 c1) (fun r m' h' => hx_pick [] h'))
  · have c1 : s0 = 0 := by have h : ¬ (s0 ≠ 0) := c1; omega
    refine hx_blk (npc := 91) (L' := [(0, .inr (.inl 52))]) (st' := [.inl 0]) (m' := m) [((90, .iconst 0, 1, 0, 0, 0, 0), (0, 0, 0))] (by decide +kernel) rfl ?_
    exact hx_reti (by decide +kernel) (h2 c1)

/-- piece from 102 on -/
theorem hr43_102 {xs : List Int32} {n : Nat} {Q : hQ} {m : gx_M} {s0 : Int}
    (h1 : Q (some (.inl 1)) m) : hxn xs (n + 1) yp_m43 102 [] [.inl s0] m Q := by
  refine hx_blks (npc := 104) (L' := []) (st' := [.inl 1]) (m' := m) ((102, .pop, 1, 0, 0, 0, 0), (0, 0, 0)) [((103, .iconst 1, 1, 0, 0, 0, 0), (0, 0, 0))] (by decide +kernel) rfl ?_
  exact hx_reti (by decide +kernel) h1

/-- piece from 111 on -/
theorem hr43_111 {xs : List Int32} {n : Nat} {Q : hQ} {m : gx_M} {x2 s0 : Int} (r_x2 : 0 ≤ x2 ∧ x2 ≤ 6)
    (h1 : (s0 ≠ 0) → ((m 3 3) = 60) → hxn xs n yp_m30 0 [(0, .inr (.inl 3))] [] m (fun r m' => hxn xs n yp_m43 152 [(0, .inr (.inl 52)), (1, .inr (.inl 3)), (2, .inl x2), (4, .inl (m 3 3))] (hrs r ++ []) m' Q))
    (h2 : (s0 ≠ 0) → ((m 3 3) ≠ 60) → ((m 3 3) = 62) → hxn xs n yp_m30 0 [(0, .inr (.inl 3))] [] m (fun r m' => hxn xs n yp_m43 152 [(0, .inr (.inl 52)), (1, .inr (.inl 3)), (2, .inl x2), (4, .inl (m 3 3))] (hrs r ++ []) m' Q))
    (h3 : (s0 ≠ 0) → ((m 3 3) ≠ 60) → ((m 3 3) ≠ 62) → ((m 3 3) = 61) → hxn xs n yp_m30 0 [(0, .inr (.inl 3))] [] m (fun r m' => hxn xs n yp_m43 152 [(0, .inr (.inl 52)), (1, .inr (.inl 3)), (2, .inl x2), (4, .inl (m 3 3))] (hrs r ++ []) m' Q))
    (h4 : (s0 ≠ 0) → ((m 3 3) ≠ 60) → ((m 3 3) ≠ 62) → ((m 3 3) ≠ 61) → hxn xs n yp_m28 0 [(0, .inr (.inl 3))] [] m (fun r m' => hxn xs n yp_m43 147 [] (hrs r ++ []) m' Q))
    (h5 : (s0 = 0) → Q (some (.inl 0)) m) : hxn xs (n + 1) yp_m43 111 [(0, .inr (.inl 52)), (1, .inr (.inl 3)), (2, .inl x2)] [.inl s0] m Q := by
  refine hx_ifs .ne 116 (by decide +kernel) (fun c1 => ?_) (fun c1 => ?_)
  · have c1 : s0 ≠ 0 := c1
    refine hx_blk (npc := 126) (L' := [(0, .inr (.inl 52)), (1, .inr (.inl 3)), (2, .inl x2), (4, .inl (m 3 3))]) (st' := [.inl 60, .inl (m 3 3)]) (m' := m) [((116, .aload_n 1, 1, 0, 0, 0, 0), (0, 0, 0)), ((117, .getfield 39, 3, 1, 3, 1055, 0), (0, 3, 0)), ((120, .istore 4, 2, 0, 0, 0, 0), (0, 0, 0)), ((122, .iload 4, 2, 0, 0, 0, 0), (0, 0, 0)), ((124, .bipush 60, 2, 0, 0, 0, 0), (0, 0, 0))] (by decide +kernel) rfl ?_
    refine hx_cmp .eq 148 (by decide +kernel) (fun c2 => ?_) (fun c2 => ?_)
    · have c2 : (m 3 3) = 60 := c2
      refine hx_blk (npc := 149) (L' := [(0, .inr (.inl 52)), (1, .inr (.inl 3)), (2, .inl x2), (4, .inl (m 3 3))]) (st' := [.inr (.inl 3)]) (m' := m) [((148, .aload_n 1, 1, 0, 0, 0, 0), (0, 0, 0))] (by decide +kernel) rfl ?_
      exact hx_call (E := (149, .invokevirtual 52, 3, 30, 0, 3010, 0)) (M' := yp_m30) [.inr (.inl 3)] [] rfl (by decide +kernel) rfl ⟨rfl, rfl⟩ rfl rfl (hx_mono (h1 c1 c2) (fun r m' h' => hx_pick [0, 1, 2, 4] h'))
    · have c2 : (m 3 3) ≠ 60 := c2
      refine hx_blk (npc := 133) (L' := [(0, .inr (.inl 52)), (1, .inr (.inl 3)), (2, .inl x2), (4, .inl (m 3 3))]) (st' := [.inl 62, .inl (m 3 3)]) (m' := m) [((129, .iload 4, 2, 0, 0, 0, 0), (0, 0, 0)), ((131, .bipush 62, 2, 0, 0, 0, 0), (0, 0, 0))] (by decide +kernel) rfl ?_
      refine hx_cmp .eq 148 (by decide +kernel) (fun c3 => ?_) (fun c3 => ?_)
      · have c3 : (m 3 3) = 62 := c3
        refine hx_blk (npc := 149) (L' := [(0, .inr (.inl 52)), (1, .inr (.inl 3)), (2, .inl x2), (4, .inl (m 3 3))]) (st' := [.inr (.inl 3)]) (m' := m) [((148, .aload_n 1, 1, 0, 0, 0, 0), (0, 0, 0))] (by decide +kernel) rfl ?_
        exact hx_call (E := (149, .invokevirtual 52, 3, 30, 0, 3010, 0)) (M' := yp_m30) [.inr (.inl 3)] [] rfl (by decide +kernel) rfl ⟨rfl, rfl⟩ rfl rfl (hx_mono (h2 c1 c2 c3) (fun r m' h' => hx_pick [0, 1, 2, 4] h'))
      · have c3 : (m 3 3) ≠ 62 := c3
        refine hx_blk (npc := 140) (L' := [(0, .inr (.inl 52)), (1, .inr (.inl 3)), (2, .inl x2), (4, .inl (m 3 3))]) (st' := [.inl 61, .inl (m 3 3)]) (m' := m) [((136, .iload 4, 2, 0, 0, 0, 0), (0, 0, 0)), ((138, .bipush 61, 2, 0, 0, 0, 0), (0, 0, 0))] (by decide +kernel) rfl ?_
        refine hx_cmp .eq 148 (by decide +kernel) (fun c4 => ?_) (fun c4 => ?_)
        · have c4 : (m 3 3) = 61 := c4
          refine hx_blk (npc := 149) (L' := [(0, .inr (.inl 52)), (1, .inr (.inl 3)), (2, .inl x2), (4, .inl (m 3 3))]) (st' := [.inr (.inl 3)]) (m' := m) [((148, .aload_n 1, 1, 0, 0, 0, 0), (0, 0, 0))] (by decide +kernel) rfl ?_
          exact hx_call (E := (149, .invokevirtual 52, 3, 30, 0, 3010, 0)) (M' := yp_m30) [.inr (.inl 3)] [] rfl (by decide +kernel) rfl ⟨rfl, rfl⟩ rfl rfl (hx_mono (h3 c1 c2 c3 c4) (fun r m' h' => hx_pick [0, 1, 2, 4] h'))
        · have c4 : (m 3 3) ≠ 61 := c4
          refine hx_blk (npc := 144) (L' := [(0, .inr (.inl 52)), (1, .inr (.inl 3)), (2, .inl x2), (4, .inl (m 3 3))]) (st' := [.inr (.inl 3)]) (m' := m) [((143, .aload_n 1, 1, 0, 0, 0, 0), (0, 0, 0))] (by decide +kernel) rfl ?_
          exact hx_call (E := (144, .invokevirtual 42, 3, 28, 0, 3001, 0)) (M' := yp_m28) [.inr (.inl 3)] [] rfl (by decide +kernel) rfl ⟨rfl, rfl⟩ rfl rfl (hx_mono (h4 c1 c2 c3 c4) (fun r m' h' => hx_pick [] h'))
  · have c1 : s0 = 0 := by have h : ¬ (s0 ≠ 0) := c1; omega
    refine hx_blk (npc := 115) (L' := [(0, .inr (.inl 52)), (1, .inr (.inl 3)), (2, .inl x2)]) (st' := [.inl 0]) (m' := m) [((114, .iconst 0, 1, 0, 0, 0, 0), (0, 0, 0))] (by decide +kernel) rfl ?_
    exact hx_reti (by decide +kernel) (h5 c1)

/-- piece from 147 on -/
theorem hr43_147 {xs : List Int32} {n : Nat} {Q : hQ} {m : gx_M} {s0 : Int}
    (h1 : Q (some (.inl s0)) m) : hxn xs (n + 1) yp_m43 147 [] [.inl s0] m Q := by
  exact hx_reti (by decide +kernel) h1

/-- piece from 152 on -/
theorem hr43_152 {xs : List Int32} {n : Nat} {Q : hQ} {m : gx_M} {x2 x4 : Int} (r_x2 : 0 ≤ x2 ∧ x2 ≤ 6)
    (h1 : hxn xs n yp_m31 0 [(0, .inr (.inl 52)), (1, .inr (.inl 3)), (2, .inl x2)] [] m (fun r m' => hxn xs n yp_m43 158 [(0, .inr (.inl 52)), (4, .inl x4)] (hrs r ++ []) m' Q)) : hxn xs (n + 1) yp_m43 152 [(0, .inr (.inl 52)), (1, .inr (.inl 3)), (2, .inl x2), (4, .inl x4)] [] m Q := by
  refine hx_blks (npc := 155) (L' := [(0, .inr (.inl 52)), (1, .inr (.inl 3)), (2, .inl x2), (4, .inl x4)]) (st' := [.inl x2, .inr (.inl 3), .inr (.inl 52)]) (m' := m) ((152, .aload_n 0, 1, 0, 0, 0, 0), (0, 0, 0)) [((153, .aload_n 1, 1, 0, 0, 0, 0), (0, 0, 0)), ((154, .iload_n 2, 1, 0, 0, 0, 0), (0, 0, 0))] (by decide +kernel) rfl ?_
  exact hx_call (E := (155, .invokevirtual 55, 3, 31, 0, 3014, 0)) (M' := yp_m31) [.inr (.inl 52), .inr (.inl 3), .inl x2] [] rfl (by decide +kernel) rfl ⟨rfl, rfl⟩ rfl rfl (hx_mono h1 (fun r m' h' => hx_pick [0, 4] h'))

/-- piece from 158 on -/
theorem hr43_158 {xs : List Int32} {n : Nat} {Q : hQ} {m : gx_M} {x4 s0 : Int}
    (h1 : (s0 ≠ 0) → hxn xs n yp_m36 0 [(0, .inr (.inl 53)), (1, .inl x4), (2, .inl 0)] [] m (fun r m' => hxn xs n yp_m43 173 [] (hrs r ++ []) m' Q))
    (h2 : (s0 = 0) → Q (some (.inl 0)) m) : hxn xs (n + 1) yp_m43 158 [(0, .inr (.inl 52)), (4, .inl x4)] [.inl s0] m Q := by
  refine hx_ifs .ne 163 (by decide +kernel) (fun c1 => ?_) (fun c1 => ?_)
  · have c1 : s0 ≠ 0 := c1
    refine hx_blk (npc := 170) (L' := [(0, .inr (.inl 52)), (4, .inl x4)]) (st' := [.inl 0, .inl x4, .inr (.inl 53)]) (m' := m) [((163, .aload_n 0, 1, 0, 0, 0, 0), (0, 0, 0)), ((164, .getfield 12, 3, 4, 0, 1226, 0), (1, 52, 53)), ((167, .iload 4, 2, 0, 0, 0, 0), (0, 0, 0)), ((169, .iconst 0, 1, 0, 0, 0, 0), (0, 0, 0))] (by decide +kernel) rfl ?_
    exact hx_call (E := (170, .invokevirtual 68, 3, 36, 0, 3036, 0)) (M' := yp_m36) [.inr (.inl 53), .inl x4, .inl 0] [] rfl (by decide +kernel) rfl ⟨rfl, rfl⟩ rfl rfl (hx_mono (h1 c1) (fun r m' h' => hx_pick [] h'))
  · have c1 : s0 = 0 := by have h : ¬ (s0 ≠ 0) := c1; omega
    refine hx_blk (npc := 162) (L' := [(0, .inr (.inl 52)), (4, .inl x4)]) (st' := [.inl 0]) (m' := m) [((161, .iconst 0, 1, 0, 0, 0, 0), (0, 0, 0))] (by decide +kernel) rfl ?_
    exact hx_reti (by decide +kernel) (h2 c1)

/-- piece from 173 on -/
theorem hr43_173 {xs : List Int32} {n : Nat} {Q : hQ} {m : gx_M} {s0 : Int}
    (h1 : Q (some (.inl 1)) m) : hxn xs (n + 1) yp_m43 173 [] [.inl s0] m Q := by
  refine hx_blks (npc := 175) (L' := []) (st' := [.inl 1]) (m' := m) ((173, .pop, 1, 0, 0, 0, 0), (0, 0, 0)) [((174, .iconst 1, 1, 0, 0, 0, 0), (0, 0, 0))] (by decide +kernel) rfl ?_
  exact hx_reti (by decide +kernel) h1

/-- part from 0 on -/
theorem hr42_0 {xs : List Int32} {n : Nat} {Q : hQ} {m : gx_M} {x2 : Int} (r_x2 : 0 ≤ x2 ∧ x2 ≤ 6)
    (h1 : hxn xs n yp_m43 0 [(0, .inr (.inl 52)), (1, .inr (.inl 3)), (2, .inl x2)] [] m (fun r m' => hxn xs n yp_m42 6 [(0, .inr (.inl 52)), (1, .inr (.inl 3)), (2, .inl x2)] (hrs r ++ []) m' Q)) : hxn xs (n + 1) yp_m42 0 [(0, .inr (.inl 52)), (1, .inr (.inl 3)), (2, .inl x2)] [] m Q := by
  refine hx_blks (npc := 3) (L' := [(0, .inr (.inl 52)), (1, .inr (.inl 3)), (2, .inl x2)]) (st' := [.inl x2, .inr (.inl 3), .inr (.inl 52)]) (m' := m) ((0, .aload_n 0, 1, 0, 0, 0, 0), (0, 0, 0)) [((1, .aload_n 1, 1, 0, 0, 0, 0), (0, 0, 0)), ((2, .iload_n 2, 1, 0, 0, 0, 0), (0, 0, 0))] (by decide +kernel) rfl ?_
  exact hx_call (E := (3, .invokevirtual 76, 3, 43, 0, 3062, 0)) (M' := yp_m43) [.inr (.inl 52), .inr (.inl 3), .inl x2] [] rfl (by decide +kernel) rfl ⟨rfl, rfl⟩ rfl rfl (hx_mono h1 (fun r m' h' => hx_pick [0, 1, 2] h'))

/-- part from 6 on -/
theorem hr42_6 {xs : List Int32} {n : Nat} {Q : hQ} {m : gx_M} {x2 s0 : Int} (r_x2 : 0 ≤ x2 ∧ x2 ≤ 6)
    (h1 : (s0 ≠ 0) → hxn xs n yp_m42 13 [(0, .inr (.inl 52)), (1, .inr (.inl 3)), (2, .inl x2), (3, .inl 0)] [] m Q)
    (h2 : (s0 = 0) → Q (some (.inl 0)) m) : hxn xs (n + 1) yp_m42 6 [(0, .inr (.inl 52)), (1, .inr (.inl 3)), (2, .inl x2)] [.inl s0] m Q := by
  refine hx_ifs .ne 11 (by decide +kernel) (fun c1 => ?_) (fun c1 => ?_)
  · have c1 : s0 ≠ 0 := c1
    refine hx_blk (npc := 13) (L' := [(0, .inr (.inl 52)), (1, .inr (.inl 3)), (2, .inl x2), (3, .inl 0)]) (st' := []) (m' := m) [((11, .iconst 0, 1, 0, 0, 0, 0), (0, 0, 0)), ((12, .istore_n 3, 1, 0, 0, 0, 0), (0, 0, 0))] (by decide +kernel) rfl ?_
    exact hx_pick [0, 1, 2, 3] (h1 c1)
  · have c1 : s0 = 0 := by have h : ¬ (s0 ≠ 0) := c1; omega
    refine hx_blk (npc := 10) (L' := [(0, .inr (.inl 52)), (1, .inr (.inl 3)), (2, .inl x2)]) (st' := [.inl 0]) (m' := m) [((9, .iconst 0, 1, 0, 0, 0, 0), (0, 0, 0))] (by decide +kernel) rfl ?_
    exact hx_reti (by decide +kernel) (h2 c1)

/-- part from 13 on -/
theorem hr42_13 {xs : List Int32} {n : Nat} {Q : hQ} {m : gx_M} {x2 x3 : Int} (r_x2 : 0 ≤ x2 ∧ x2 ≤ 6) (r_x3 : 0 ≤ x3 ∧ x3 ≤ 240)
    (h1 : (240 ≤ x3) → Q (some (.inl 1)) m)
    (h2 : (x3 < 240) → ((m 3 3) ≠ 38) → Q (some (.inl 1)) m)
    (h3 : (x3 < 240) → ((m 3 3) = 38) → hxn xs n yp_m30 0 [(0, .inr (.inl 3))] [] m (fun r m' => hxn xs n yp_m42 33 [(0, .inr (.inl 52)), (1, .inr (.inl 3)), (2, .inl x2), (3, .inl x3)] (hrs r ++ []) m' Q)) : hxn xs (n + 1) yp_m42 13 [(0, .inr (.inl 52)), (1, .inr (.inl 3)), (2, .inl x2), (3, .inl x3)] [] m Q := by
  refine hx_blks (npc := 17) (L' := [(0, .inr (.inl 52)), (1, .inr (.inl 3)), (2, .inl x2), (3, .inl x3)]) (st' := [.inl 240, .inl x3]) (m' := m) ((13, .iload_n 3, 1, 0, 0, 0, 0), (0, 0, 0)) [((14, .sipush 240, 3, 0, 0, 0, 0), (0, 0, 0))] (by decide +kernel) rfl ?_
  refine hx_cmp .ge 71 (by decide +kernel) (fun c1 => ?_) (fun c1 => ?_)
  · have c1 : 240 ≤ x3 := c1
    refine hx_blk (npc := 72) (L' := [(0, .inr (.inl 52)), (1, .inr (.inl 3)), (2, .inl x2), (3, .inl x3)]) (st' := [.inl 1]) (m' := m) [((71, .iconst 1, 1, 0, 0, 0, 0), (0, 0, 0))] (by decide +kernel) rfl ?_
    exact hx_reti (by decide +kernel) (h1 c1)
  · have c1 : x3 < 240 := by have h : ¬ (240 ≤ x3) := c1; omega
    refine hx_blk (npc := 26) (L' := [(0, .inr (.inl 52)), (1, .inr (.inl 3)), (2, .inl x2), (3, .inl x3)]) (st' := [.inl 38, .inl (m 3 3)]) (m' := m) [((20, .aload_n 1, 1, 0, 0, 0, 0), (0, 0, 0)), ((21, .getfield 39, 3, 1, 3, 1055, 0), (0, 3, 0)), ((24, .bipush 38, 2, 0, 0, 0, 0), (0, 0, 0))] (by decide +kernel) rfl ?_
    refine hx_cmp .ne 71 (by decide +kernel) (fun c2 => ?_) (fun c2 => ?_)
    · have c2 : (m 3 3) ≠ 38 := c2
      refine hx_blk (npc := 72) (L' := [(0, .inr (.inl 52)), (1, .inr (.inl 3)), (2, .inl x2), (3, .inl x3)]) (st' := [.inl 1]) (m' := m) [((71, .iconst 1, 1, 0, 0, 0, 0), (0, 0, 0))] (by decide +kernel) rfl ?_
      exact hx_reti (by decide +kernel) (h2 c1 c2)
    · have c2 : (m 3 3) = 38 := by have h : ¬ ((m 3 3) ≠ 38) := c2; omega
      refine hx_blk (npc := 30) (L' := [(0, .inr (.inl 52)), (1, .inr (.inl 3)), (2, .inl x2), (3, .inl x3)]) (st' := [.inr (.inl 3)]) (m' := m) [((29, .aload_n 1, 1, 0, 0, 0, 0), (0, 0, 0))] (by decide +kernel) rfl ?_
      exact hx_call (E := (30, .invokevirtual 52, 3, 30, 0, 3010, 0)) (M' := yp_m30) [.inr (.inl 3)] [] rfl (by decide +kernel) rfl ⟨rfl, rfl⟩ rfl rfl (hx_mono (h3 c1 c2) (fun r m' h' => hx_pick [0, 1, 2, 3] h'))

/-- part from 33 on -/
theorem hr42_33 {xs : List Int32} {n : Nat} {Q : hQ} {m : gx_M} {x2 x3 : Int} (r_x2 : 0 ≤ x2 ∧ x2 ≤ 6) (r_x3 : 0 ≤ x3 ∧ x3 ≤ 240)
    (h1 : hxn xs n yp_m36 0 [(0, .inr (.inl 53)), (1, .inl 38), (2, .inl 0)] [] m (fun r m' => hxn xs n yp_m42 43 [(0, .inr (.inl 52)), (1, .inr (.inl 3)), (2, .inl x2), (3, .inl x3)] (hrs r ++ []) m' Q)) : hxn xs (n + 1) yp_m42 33 [(0, .inr (.inl 52)), (1, .inr (.inl 3)), (2, .inl x2), (3, .inl x3)] [] m Q := by
  refine hx_blks (npc := 40) (L' := [(0, .inr (.inl 52)), (1, .inr (.inl 3)), (2, .inl x2), (3, .inl x3)]) (st' := [.inl 0, .inl 38, .inr (.inl 53)]) (m' := m) ((33, .aload_n 0, 1, 0, 0, 0, 0), (0, 0, 0)) [((34, .getfield 12, 3, 4, 0, 1226, 0), (1, 52, 53)), ((37, .bipush 38, 2, 0, 0, 0, 0), (0, 0, 0)), ((39, .iconst 0, 1, 0, 0, 0, 0), (0, 0, 0))] (by decide +kernel) rfl ?_
  exact hx_call (E := (40, .invokevirtual 68, 3, 36, 0, 3036, 0)) (M' := yp_m36) [.inr (.inl 53), .inl 38, .inl 0] [] rfl (by decide +kernel) rfl ⟨rfl, rfl⟩ rfl rfl (hx_mono h1 (fun r m' h' => hx_pick [0, 1, 2, 3] h'))

/-- part from 43 on -/
theorem hr42_43 {xs : List Int32} {n : Nat} {Q : hQ} {m : gx_M} {x2 x3 s0 : Int} (r_x2 : 0 ≤ x2 ∧ x2 ≤ 6) (r_x3 : 0 ≤ x3 ∧ x3 ≤ 240)
    (h1 : hxn xs n yp_m43 0 [(0, .inr (.inl 52)), (1, .inr (.inl 3)), (2, .inl x2)] [] m (fun r m' => hxn xs n yp_m42 51 [(0, .inr (.inl 52)), (1, .inr (.inl 3)), (2, .inl x2), (3, .inl x3), (4, .inl s0)] (hrs r ++ []) m' Q)) : hxn xs (n + 1) yp_m42 43 [(0, .inr (.inl 52)), (1, .inr (.inl 3)), (2, .inl x2), (3, .inl x3)] [.inl s0] m Q := by
  refine hx_blks (npc := 48) (L' := [(0, .inr (.inl 52)), (1, .inr (.inl 3)), (2, .inl x2), (3, .inl x3), (4, .inl s0)]) (st' := [.inl x2, .inr (.inl 3), .inr (.inl 52)]) (m' := m) ((43, .istore 4, 2, 0, 0, 0, 0), (0, 0, 0)) [((45, .aload_n 0, 1, 0, 0, 0, 0), (0, 0, 0)), ((46, .aload_n 1, 1, 0, 0, 0, 0), (0, 0, 0)), ((47, .iload_n 2, 1, 0, 0, 0, 0), (0, 0, 0))] (by decide +kernel) rfl ?_
  exact hx_call (E := (48, .invokevirtual 76, 3, 43, 0, 3062, 0)) (M' := yp_m43) [.inr (.inl 52), .inr (.inl 3), .inl x2] [] rfl (by decide +kernel) rfl ⟨rfl, rfl⟩ rfl rfl (hx_mono h1 (fun r m' h' => hx_pick [0, 1, 2, 3, 4] h'))

/-- part from 51 on -/
theorem hr42_51 {xs : List Int32} {n : Nat} {Q : hQ} {m : gx_M} {x2 x3 x4 s0 : Int} (r_x2 : 0 ≤ x2 ∧ x2 ≤ 6) (r_x3 : 0 ≤ x3 ∧ x3 ≤ 240)
    (h1 : (s0 ≠ 0) → hxn xs n yp_m44 0 [(0, .inr (.inl 53)), (1, .inl x4)] [] m (fun r m' => hxn xs n yp_m42 65 [(0, .inr (.inl 52)), (1, .inr (.inl 3)), (2, .inl x2), (3, .inl x3)] (hrs r ++ []) m' Q))
    (h2 : (s0 = 0) → Q (some (.inl 0)) m) : hxn xs (n + 1) yp_m42 51 [(0, .inr (.inl 52)), (1, .inr (.inl 3)), (2, .inl x2), (3, .inl x3), (4, .inl x4)] [.inl s0] m Q := by
  refine hx_ifs .ne 56 (by decide +kernel) (fun c1 => ?_) (fun c1 => ?_)
  · have c1 : s0 ≠ 0 := c1
    refine hx_blk (npc := 62) (L' := [(0, .inr (.inl 52)), (1, .inr (.inl 3)), (2, .inl x2), (3, .inl x3), (4, .inl x4)]) (st' := [.inl x4, .inr (.inl 53)]) (m' := m) [((56, .aload_n 0, 1, 0, 0, 0, 0), (0, 0, 0)), ((57, .getfield 12, 3, 4, 0, 1226, 0), (1, 52, 53)), ((60, .iload 4, 2, 0, 0, 0, 0), (0, 0, 0))] (by decide +kernel) rfl ?_
    exact hx_call (E := (62, .invokevirtual 72, 3, 44, 0, 3066, 0)) (M' := yp_m44) [.inr (.inl 53), .inl x4] [] rfl (by decide +kernel) rfl ⟨rfl, rfl⟩ rfl rfl (hx_mono (h1 c1) (fun r m' h' => hx_pick [0, 1, 2, 3] h'))
  · have c1 : s0 = 0 := by have h : ¬ (s0 ≠ 0) := c1; omega
    refine hx_blk (npc := 55) (L' := [(0, .inr (.inl 52)), (1, .inr (.inl 3)), (2, .inl x2), (3, .inl x3), (4, .inl x4)]) (st' := [.inl 0]) (m' := m) [((54, .iconst 0, 1, 0, 0, 0, 0), (0, 0, 0))] (by decide +kernel) rfl ?_
    exact hx_reti (by decide +kernel) (h2 c1)

/-- part from 65 on -/
theorem hr42_65 {xs : List Int32} {n : Nat} {Q : hQ} {m : gx_M} {x2 x3 : Int} (r_x2 : 0 ≤ x2 ∧ x2 ≤ 6) (r_x3 : 0 ≤ x3 ∧ x3 ≤ 240)
    (h1 : hxn xs n yp_m42 13 [(0, .inr (.inl 52)), (1, .inr (.inl 3)), (2, .inl x2), (3, .inl (x3 + 1))] [] m Q) : hxn xs (n + 1) yp_m42 65 [(0, .inr (.inl 52)), (1, .inr (.inl 3)), (2, .inl x2), (3, .inl x3)] [] m Q := by
  have e1 : gx_w (x3 + 1) = x3 + 1 := gx_w_id (by omega) (by omega)
  refine hx_blks (npc := 13) (L' := [(0, .inr (.inl 52)), (1, .inr (.inl 3)), (2, .inl x2), (3, .inl (gx_w (x3 + 1)))]) (st' := []) (m' := m) ((65, .iinc 3 1, 3, 0, 0, 0, 0), (0, 0, 0)) [((68, .goto (-55), 3, 0, 0, 0, 0), (0, 0, 0))] (by decide +kernel) rfl ?_
  rw [e1]
  exact hx_pick [0, 1, 2, 3] h1

/-- condition from 0 on -/
theorem hr41_0 {xs : List Int32} {n : Nat} {Q : hQ} {m : gx_M} {x2 : Int} (r_x2 : 0 ≤ x2 ∧ x2 ≤ 6)
    (h1 : hxn xs n yp_m42 0 [(0, .inr (.inl 52)), (1, .inr (.inl 3)), (2, .inl x2)] [] m (fun r m' => hxn xs n yp_m41 6 [(0, .inr (.inl 52)), (1, .inr (.inl 3)), (2, .inl x2)] (hrs r ++ []) m' Q)) : hxn xs (n + 1) yp_m41 0 [(0, .inr (.inl 52)), (1, .inr (.inl 3)), (2, .inl x2)] [] m Q := by
  refine hx_blks (npc := 3) (L' := [(0, .inr (.inl 52)), (1, .inr (.inl 3)), (2, .inl x2)]) (st' := [.inl x2, .inr (.inl 3), .inr (.inl 52)]) (m' := m) ((0, .aload_n 0, 1, 0, 0, 0, 0), (0, 0, 0)) [((1, .aload_n 1, 1, 0, 0, 0, 0), (0, 0, 0)), ((2, .iload_n 2, 1, 0, 0, 0, 0), (0, 0, 0))] (by decide +kernel) rfl ?_
  exact hx_call (E := (3, .invokevirtual 65, 3, 42, 0, 3058, 0)) (M' := yp_m42) [.inr (.inl 52), .inr (.inl 3), .inl x2] [] rfl (by decide +kernel) rfl ⟨rfl, rfl⟩ rfl rfl (hx_mono h1 (fun r m' h' => hx_pick [0, 1, 2] h'))

/-- condition from 6 on -/
theorem hr41_6 {xs : List Int32} {n : Nat} {Q : hQ} {m : gx_M} {x2 s0 : Int} (r_x2 : 0 ≤ x2 ∧ x2 ≤ 6)
    (h1 : (s0 ≠ 0) → hxn xs n yp_m41 13 [(0, .inr (.inl 52)), (1, .inr (.inl 3)), (2, .inl x2), (3, .inl 0)] [] m Q)
    (h2 : (s0 = 0) → Q (some (.inl 0)) m) : hxn xs (n + 1) yp_m41 6 [(0, .inr (.inl 52)), (1, .inr (.inl 3)), (2, .inl x2)] [.inl s0] m Q := by
  refine hx_ifs .ne 11 (by decide +kernel) (fun c1 => ?_) (fun c1 => ?_)
  · have c1 : s0 ≠ 0 := c1
    refine hx_blk (npc := 13) (L' := [(0, .inr (.inl 52)), (1, .inr (.inl 3)), (2, .inl x2), (3, .inl 0)]) (st' := []) (m' := m) [((11, .iconst 0, 1, 0, 0, 0, 0), (0, 0, 0)), ((12, .istore_n 3, 1, 0, 0, 0, 0), (0, 0, 0))] (by decide +kernel) rfl ?_
    exact hx_pick [0, 1, 2, 3] (h1 c1)
  · have c1 : s0 = 0 := by have h : ¬ (s0 ≠ 0) := c1; omega
    refine hx_blk (npc := 10) (L' := [(0, .inr (.inl 52)), (1, .inr (.inl 3)), (2, .inl x2)]) (st' := [.inl 0]) (m' := m) [((9, .iconst 0, 1, 0, 0, 0, 0), (0, 0, 0))] (by decide +kernel) rfl ?_
    exact hx_reti (by decide +kernel) (h2 c1)

/-- condition from 13 on -/
theorem hr41_13 {xs : List Int32} {n : Nat} {Q : hQ} {m : gx_M} {x2 x3 : Int} (r_x2 : 0 ≤ x2 ∧ x2 ≤ 6) (r_x3 : 0 ≤ x3 ∧ x3 ≤ 240)
    (h1 : (240 ≤ x3) → Q (some (.inl 1)) m)
    (h2 : (x3 < 240) → ((m 3 3) ≠ 124) → Q (some (.inl 1)) m)
    (h3 : (x3 < 240) → ((m 3 3) = 124) → hxn xs n yp_m30 0 [(0, .inr (.inl 3))] [] m (fun r m' => hxn xs n yp_m41 33 [(0, .inr (.inl 52)), (1, .inr (.inl 3)), (2, .inl x2), (3, .inl x3)] (hrs r ++ []) m' Q)) : hxn xs (n + 1) yp_m41 13 [(0, .inr (.inl 52)), (1, .inr (.inl 3)), (2, .inl x2), (3, .inl x3)] [] m Q := by
  refine hx_blks (npc := 17) (L' := [(0, .inr (.inl 52)), (1, .inr (.inl 3)), (2, .inl x2), (3, .inl x3)]) (st' := [.inl 240, .inl x3]) (m' := m) ((13, .iload_n 3, 1, 0, 0, 0, 0), (0, 0, 0)) [((14, .sipush 240, 3, 0, 0, 0, 0), (0, 0, 0))] (by decide +kernel) rfl ?_
  refine hx_cmp .ge 71 (by decide +kernel) (fun c1 => ?_) (fun c1 => ?_)
  · have c1 : 240 ≤ x3 := c1
    refine hx_blk (npc := 72) (L' := [(0, .inr (.inl 52)), (1, .inr (.inl 3)), (2, .inl x2), (3, .inl x3)]) (st' := [.inl 1]) (m' := m) [((71, .iconst 1, 1, 0, 0, 0, 0), (0, 0, 0))] (by decide +kernel) rfl ?_
    exact hx_reti (by decide +kernel) (h1 c1)
  · have c1 : x3 < 240 := by have h : ¬ (240 ≤ x3) := c1; omega
    refine hx_blk (npc := 26) (L' := [(0, .inr (.inl 52)), (1, .inr (.inl 3)), (2, .inl x2), (3, .inl x3)]) (st' := [.inl 124, .inl (m 3 3)]) (m' := m) [((20, .aload_n 1, 1, 0, 0, 0, 0), (0, 0, 0)), ((21, .getfield 39, 3, 1, 3, 1055, 0), (0, 3, 0)), ((24, .bipush 124, 2, 0, 0, 0, 0), (0, 0, 0))] (by decide +kernel) rfl ?_
    refine hx_cmp .ne 71 (by decide +kernel) (fun c2 => ?_) (fun c2 => ?_)
    · have c2 : (m 3 3) ≠ 124 := c2
      refine hx_blk (npc := 72) (L' := [(0, .inr (.inl 52)), (1, .inr (.inl 3)), (2, .inl x2), (3, .inl x3)]) (st' := [.inl 1]) (m' := m) [((71, .iconst 1, 1, 0, 0, 0, 0), (0, 0, 0))] (by decide +kernel) rfl ?_
      exact hx_reti (by decide +kernel) (h2 c1 c2)
    · have c2 : (m 3 3) = 124 := by have h : ¬ ((m 3 3) ≠ 124) := c2; omega
      refine hx_blk (npc := 30) (L' := [(0, .inr (.inl 52)), (1, .inr (.inl 3)), (2, .inl x2), (3, .inl x3)]) (st' := [.inr (.inl 3)]) (m' := m) [((29, .aload_n 1, 1, 0, 0, 0, 0), (0, 0, 0))] (by decide +kernel) rfl ?_
      exact hx_call (E := (30, .invokevirtual 52, 3, 30, 0, 3010, 0)) (M' := yp_m30) [.inr (.inl 3)] [] rfl (by decide +kernel) rfl ⟨rfl, rfl⟩ rfl rfl (hx_mono (h3 c1 c2) (fun r m' h' => hx_pick [0, 1, 2, 3] h'))

/-- condition from 33 on -/
theorem hr41_33 {xs : List Int32} {n : Nat} {Q : hQ} {m : gx_M} {x2 x3 : Int} (r_x2 : 0 ≤ x2 ∧ x2 ≤ 6) (r_x3 : 0 ≤ x3 ∧ x3 ≤ 240)
    (h1 : hxn xs n yp_m36 0 [(0, .inr (.inl 53)), (1, .inl 124), (2, .inl 0)] [] m (fun r m' => hxn xs n yp_m41 43 [(0, .inr (.inl 52)), (1, .inr (.inl 3)), (2, .inl x2), (3, .inl x3)] (hrs r ++ []) m' Q)) : hxn xs (n + 1) yp_m41 33 [(0, .inr (.inl 52)), (1, .inr (.inl 3)), (2, .inl x2), (3, .inl x3)] [] m Q := by
  refine hx_blks (npc := 40) (L' := [(0, .inr (.inl 52)), (1, .inr (.inl 3)), (2, .inl x2), (3, .inl x3)]) (st' := [.inl 0, .inl 124, .inr (.inl 53)]) (m' := m) ((33, .aload_n 0, 1, 0, 0, 0, 0), (0, 0, 0)) [((34, .getfield 12, 3, 4, 0, 1226, 0), (1, 52, 53)), ((37, .bipush 124, 2, 0, 0, 0, 0), (0, 0, 0)), ((39, .iconst 0, 1, 0, 0, 0, 0), (0, 0, 0))] (by decide +kernel) rfl ?_
  exact hx_call (E := (40, .invokevirtual 68, 3, 36, 0, 3036, 0)) (M' := yp_m36) [.inr (.inl 53), .inl 124, .inl 0] [] rfl (by decide +kernel) rfl ⟨rfl, rfl⟩ rfl rfl (hx_mono h1 (fun r m' h' => hx_pick [0, 1, 2, 3] h'))

/-- condition from 43 on -/
theorem hr41_43 {xs : List Int32} {n : Nat} {Q : hQ} {m : gx_M} {x2 x3 s0 : Int} (r_x2 : 0 ≤ x2 ∧ x2 ≤ 6) (r_x3 : 0 ≤ x3 ∧ x3 ≤ 240)
    (h1 : hxn xs n yp_m42 0 [(0, .inr (.inl 52)), (1, .inr (.inl 3)), (2, .inl x2)] [] m (fun r m' => hxn xs n yp_m41 51 [(0, .inr (.inl 52)), (1, .inr (.inl 3)), (2, .inl x2), (3, .inl x3), (4, .inl s0)] (hrs r ++ []) m' Q)) : hxn xs (n + 1) yp_m41 43 [(0, .inr (.inl 52)), (1, .inr (.inl 3)), (2, .inl x2), (3, .inl x3)] [.inl s0] m Q := by
  refine hx_blks (npc := 48) (L' := [(0, .inr (.inl 52)), (1, .inr (.inl 3)), (2, .inl x2), (3, .inl x3), (4, .inl s0)]) (st' := [.inl x2, .inr (.inl 3), .inr (.inl 52)]) (m' := m) ((43, .istore 4, 2, 0, 0, 0, 0), (0, 0, 0)) [((45, .aload_n 0, 1, 0, 0, 0, 0), (0, 0, 0)), ((46, .aload_n 1, 1, 0, 0, 0, 0), (0, 0, 0)), ((47, .iload_n 2, 1, 0, 0, 0, 0), (0, 0, 0))] (by decide +kernel) rfl ?_
  exact hx_call (E := (48, .invokevirtual 65, 3, 42, 0, 3058, 0)) (M' := yp_m42) [.inr (.inl 52), .inr (.inl 3), .inl x2] [] rfl (by decide +kernel) rfl ⟨rfl, rfl⟩ rfl rfl (hx_mono h1 (fun r m' h' => hx_pick [0, 1, 2, 3, 4] h'))

/-- condition from 51 on -/
theorem hr41_51 {xs : List Int32} {n : Nat} {Q : hQ} {m : gx_M} {x2 x3 x4 s0 : Int} (r_x2 : 0 ≤ x2 ∧ x2 ≤ 6) (r_x3 : 0 ≤ x3 ∧ x3 ≤ 240)
    (h1 : (s0 ≠ 0) → hxn xs n yp_m44 0 [(0, .inr (.inl 53)), (1, .inl x4)] [] m (fun r m' => hxn xs n yp_m41 65 [(0, .inr (.inl 52)), (1, .inr (.inl 3)), (2, .inl x2), (3, .inl x3)] (hrs r ++ []) m' Q))
    (h2 : (s0 = 0) → Q (some (.inl 0)) m) : hxn xs (n + 1) yp_m41 51 [(0, .inr (.inl 52)), (1, .inr (.inl 3)), (2, .inl x2), (3, .inl x3), (4, .inl x4)] [.inl s0] m Q := by
  refine hx_ifs .ne 56 (by decide +kernel) (fun c1 => ?_) (fun c1 => ?_)
  · have c1 : s0 ≠ 0 := c1
    refine hx_blk (npc := 62) (L' := [(0, .inr (.inl 52)), (1, .inr (.inl 3)), (2, .inl x2), (3, .inl x3), (4, .inl x4)]) (st' := [.inl x4, .inr (.inl 53)]) (m' := m) [((56, .aload_n 0, 1, 0, 0, 0, 0), (0, 0, 0)), ((57, .getfield 12, 3, 4, 0, 1226, 0), (1, 52, 53)), ((60, .iload 4, 2, 0, 0, 0, 0), (0, 0, 0))] (by decide +kernel) rfl ?_
    exact hx_call (E := (62, .invokevirtual 72, 3, 44, 0, 3066, 0)) (M' := yp_m44) [.inr (.inl 53), .inl x4] [] rfl (by decide +kernel) rfl ⟨rfl, rfl⟩ rfl rfl (hx_mono (h1 c1) (fun r m' h' => hx_pick [0, 1, 2, 3] h'))
  · have c1 : s0 = 0 := by have h : ¬ (s0 ≠ 0) := c1; omega
    refine hx_blk (npc := 55) (L' := [(0, .inr (.inl 52)), (1, .inr (.inl 3)), (2, .inl x2), (3, .inl x3), (4, .inl x4)]) (st' := [.inl 0]) (m' := m) [((54, .iconst 0, 1, 0, 0, 0, 0), (0, 0, 0))] (by decide +kernel) rfl ?_
    exact hx_reti (by decide +kernel) (h2 c1)

/-- condition from 65 on -/
theorem hr41_65 {xs : List Int32} {n : Nat} {Q : hQ} {m : gx_M} {x2 x3 : Int} (r_x2 : 0 ≤ x2 ∧ x2 ≤ 6) (r_x3 : 0 ≤ x3 ∧ x3 ≤ 240)
    (h1 : hxn xs n yp_m41 13 [(0, .inr (.inl 52)), (1, .inr (.inl 3)), (2, .inl x2), (3, .inl (x3 + 1))] [] m Q) : hxn xs (n + 1) yp_m41 65 [(0, .inr (.inl 52)), (1, .inr (.inl 3)), (2, .inl x2), (3, .inl x3)] [] m Q := by
  have e1 : gx_w (x3 + 1) = x3 + 1 := gx_w_id (by omega) (by omega)
  refine hx_blks (npc := 13) (L' := [(0, .inr (.inl 52)), (1, .inr (.inl 3)), (2, .inl x2), (3, .inl (gx_w (x3 + 1)))]) (st' := []) (m' := m) ((65, .iinc 3 1, 3, 0, 0, 0, 0), (0, 0, 0)) [((68, .goto (-55), 3, 0, 0, 0, 0), (0, 0, 0))] (by decide +kernel) rfl ?_
  rw [e1]
  exact hx_pick [0, 1, 2, 3] h1
end
section
/-! factors to conditions: what the class makes of them -/
def cEnd (T : Nat → Int) (L k p : Nat) : Prop := (k = 1 → ¬ isPr (tx T L p)) ∧ (k = 2 → ¬ isSm (tx T L p)) ∧ (k = 4 → tx T L p ≠ 38) ∧ (k = 5 → tx T L p ≠ 124)
def cR (T : Nat → Int) (L : Nat) (m0 : gx_M) (k o p : Nat) (K : hCode) (Q : hQ) : Prop := (∀ p' K' m', lD T L k o p K p' K' → cEnd T L k p' → cS T L m0 p' K' m' → Q (some (.inl 1)) m') ∧ ∀ f m', lE T L k o p K f → cF m0 f m' → Q (some (.inl 0)) m'
noncomputable def cP (xs : List Int32) (T : Nat → Int) (L : Nat) (m0 : gx_M) (n : Nat) (M : sx_M) (k : Nat) : Prop := ∀ (o p : Nat) (K : hCode) (m : gx_M) (Q : hQ), o ≤ 6 → cS T L m0 p K m → cR T L m0 k o p K Q → hxn xs n M 0 [(0, .inr (.inl 52)), (1, .inr (.inl 3)), (2, .inl (o : Int))] [] m Q
theorem cEnd0 {T : Nat → Int} {L k p : Nat} (hk : k = 0 ∨ k = 3) : cEnd T L k p := ⟨fun e => by omega, fun e => by omega, fun e => by omega, fun e => by omega⟩
theorem isPr_no : ¬ isPr (-1) := by
  unfold isPr
  omega
theorem isSm_no : ¬ isSm (-1) := by
  unfold isSm
  omega
section CP
variable {xs : List Int32} {n : Nat} {T : Nat → Int} {L : Nat} {m0 : gx_M}
theorem c_fac (ih : cP xs T L m0 n yp_m31 2) : cP xs T L m0 n yp_m33 0 := by
  intro o p K m Q ho hS hR
  have hpl := cs_pl hS
  have hsg := cs_sg hS
  have hkl := cs_kl hS
  refine hx_dn (hr33_0 (by omega) (fun c => ?_) (fun c1 c2 c3 => ?_) (fun c1 c2 c3 => ?_) (fun c1 c2 c3 => ?_) (fun c1 c2 c3 => ?_))
  · rw [hsg] at c
    refine cs35 (most := 5) (by decide) hS (fun j m1 hj hd he h1 => ?_)
    have hj1 : 1 ≤ j := by
      rcases Nat.eq_zero_or_pos j with rfl | h
      · rcases he with he | he
        · omega
        · exact absurd c he
      · exact h
    refine hx_dn (hr33_17 ?_)
    refine cs36 h1 (by omega) (fun m2 h2 => ?_)
    refine hx_dn (hr33_20 (fun d => ?_) (fun d => ?_))
    · rw [cs_sg h2] at d
      have hj5 : j = 5 := he.resolve_right (fun x => x d)
      subst hj5
      rw [cs_pl h2]
      refine cs29 h2 (by decide) (fun m3 h3 => hx_dn (hr33_37 (fun _ => hR.2 _ _ ((lE_rul T L).2.1 _ _ _ (fun i hi => ?_)) h3) (fun c => absurd rfl c)))
      by_cases e : i = 5
      · rw [e]
        exact d
      · exact hd i (by omega)
    · rw [cs_sg h2] at d
      exact hR.1 _ _ _ (lD_num hj1 hj hd d) (cEnd0 (.inl rfl)) h2
  · rw [hsg] at c1 c2 c3 ⊢
    refine cs30 hS (tx_lt (fun e => by rw [e] at c3; unfold isLt at c3; omega)) (fun m1 h1 => ?_)
    refine hx_dn (hr33_119 ?_)
    exact cs36 h1 (by omega) (fun m2 h2 => hx_dn (hr33_128 (hR.1 _ _ _ (lD_let c3) (cEnd0 (.inl rfl)) h2)))
  · rw [hsg] at c1 c2 c3
    exact cs28 hS (fun m1 h1 => hx_dn (hr33_114 (hR.2 _ _ ((lE_rul T L).1 _ _ _ c1 c2 c3) h1)))
  · rw [hsg] at c1 c2
    have ho6 : o < 6 := by omega
    refine cs30 hS (tx_lt (by rw [c2]; decide)) (fun m1 h1 => ?_)
    refine hx_dn (hr33_77 (by omega) ?_)
    refine ih (o + 1) (p + 1) K m1 _ (by omega) h1 ⟨fun p' K' m2 d e h2 => ?_, fun f m2 d h2 => ?_⟩
    · refine hx_dn (hr33_85 (s0 := 1) (fun c => absurd c (by decide)) (fun _ => ?_))
      refine cs37 h2 (by decide) (fun t m3 h3 => ?_) (fun t m3 h3 => ?_)
      · exact hx_dn (hr33_94 (s0 := 1) (fun c => absurd c (by decide)) (fun _ => hR.1 _ _ _ (lD_br c2 ho6 d t) (cEnd0 (.inl rfl)) h3))
      · exact hx_dn (hr33_94 (s0 := 0) (fun _ => hR.2 _ _ ((lE_rul T L).2.2.2.2.1 _ _ _ _ _ c2 ho6 d (e.2.1 rfl) t) h3) (fun c => absurd rfl c))
    · exact hx_dn (hr33_85 (s0 := 0) (fun _ => hR.2 _ _ ((lE_rul T L).2.2.2.1 _ _ _ _ c2 ho6 d) h2) (fun c => absurd rfl c))
  · rw [hsg] at c1 c2
    rw [hpl]
    exact cs29 hS (by decide) (fun m1 h1 => hx_dn (hr33_72 (hR.2 _ _ ((lE_rul T L).2.2.1 _ _ _ c2 (by omega)) h1)))
/-- products: the loop -/
theorem c_prl (ih : cP xs T L m0 n yp_m33 0) {o p : Nat} {K : hCode} {Q : hQ} (ho : o ≤ 6) (hR : cR T L m0 1 o p K Q) : ∀ e i : Nat, i + e = 240 → ∀ p1 K1 m1, i ≤ p1 → lD T L 1 o p K p1 K1 → cS T L m0 p1 K1 m1 → hxn xs n yp_m32 13 [(0, .inr (.inl 52)), (1, .inr (.inl 3)), (2, .inl (o : Int)), (3, .inl (i : Int))] [] m1 Q := by
  intro e
  induction e with
  | zero =>
    intro i hi p1 K1 m1 hip d h1
    have hL := cs_L h1
    refine hx_dn (hr32_13 (by omega) (by omega) (fun _ => hR.1 _ _ _ d ⟨fun _ => ?_, fun e => by omega, fun e => by omega, fun e => by omega⟩ h1) (fun c => absurd c (by omega)) (fun c => absurd c (by omega)))
    rw [tx_no (by omega)]
    exact isPr_no
  | succ e il =>
    intro i hi p1 K1 m1 hip d h1
    have hsg := cs_sg h1
    have hkl := cs_kl h1
    refine hx_dn (hr32_13 (by omega) (by omega) (fun c => absurd c (by omega)) (fun _ c => ?_) (fun _ c => ?_))
    · rw [hsg] at c ⊢
      refine cs30 h1 (tx_lt (fun e => by rw [e] at c; exact isPr_no c)) (fun m2 h2 => ?_)
      refine hx_dn (hr32_40 (by omega) (by omega) ?_)
      refine ih o (p1 + 1) K1 m2 _ ho h2 ⟨fun p2 K2 m3 d2 _ h3 => ?_, fun f m3 d2 h3 => ?_⟩
      · have hg := lD_grow d2
        refine hx_dn (hr32_46 (s0 := 1) (by omega) (by omega) (fun _ => ?_) (fun c => absurd c (by decide)))
        refine cs36 h3 (by omega) (fun m4 h4 => ?_)
        exact hx_dn (hr32_61 (by omega) (by omega) (il (i + 1) (by omega) p2 _ m4 (by omega) (lD_pr2 d c d2) h4))
      · exact hx_dn (hr32_46 (s0 := 0) (by omega) (by omega) (fun c => absurd rfl c) (fun _ => hR.2 _ _ ((lE_rul T L).2.2.2.2.2.2.1 _ _ _ _ _ _ d c d2) h3))
    · rw [hsg] at c
      exact hR.1 _ _ _ d ⟨fun _ => c, fun e => by omega, fun e => by omega, fun e => by omega⟩ h1
theorem c_pro (ih : cP xs T L m0 n yp_m33 0) : cP xs T L m0 n yp_m32 1 := by
  intro o p K m Q ho hS hR
  refine hx_dn (hr32_0 (by omega) (ih o p K m _ ho hS ⟨fun p1 K1 m1 d _ h1 => ?_, fun f m1 d h1 => ?_⟩))
  · exact hx_dn (hr32_6 (s0 := 1) (by omega) (fun _ => c_prl ih ho hR 240 0 rfl p1 K1 m1 (by omega) (lD_pr1 d) h1) (fun c => absurd c (by decide)))
  · exact hx_dn (hr32_6 (s0 := 0) (by omega) (fun c => absurd rfl c) (fun _ => hR.2 _ _ ((lE_rul T L).2.2.2.2.2.1 _ _ _ _ d) h1))
/-- sums: the loop -/
theorem c_sml (ih : cP xs T L m0 n yp_m32 1) {o p : Nat} {K : hCode} {Q : hQ} (ho : o ≤ 6) (hR : cR T L m0 2 o p K Q) : ∀ e i : Nat, i + e = 240 → ∀ p1 K1 m1, i ≤ p1 → lD T L 2 o p K p1 K1 → cS T L m0 p1 K1 m1 → hxn xs n yp_m31 13 [(0, .inr (.inl 52)), (1, .inr (.inl 3)), (2, .inl (o : Int)), (3, .inl (i : Int))] [] m1 Q := by
  intro e
  induction e with
  | zero =>
    intro i hi p1 K1 m1 hip d h1
    have hL := cs_L h1
    refine hx_dn (hr31_13 (by omega) (by omega) (fun _ => hR.1 _ _ _ d ⟨fun e => by omega, fun _ => ?_, fun e => by omega, fun e => by omega⟩ h1) (fun c => absurd c (by omega)) (fun c => absurd c (by omega)))
    rw [tx_no (by omega)]
    exact isSm_no
  | succ e il =>
    intro i hi p1 K1 m1 hip d h1
    have hsg := cs_sg h1
    have hkl := cs_kl h1
    refine hx_dn (hr31_13 (by omega) (by omega) (fun c => absurd c (by omega)) (fun _ c => ?_) (fun _ c => ?_))
    · rw [hsg] at c ⊢
      refine cs30 h1 (tx_lt (fun e => by rw [e] at c; exact isSm_no c)) (fun m2 h2 => ?_)
      refine hx_dn (hr31_40 (by omega) (by omega) ?_)
      refine ih o (p1 + 1) K1 m2 _ ho h2 ⟨fun p2 K2 m3 d2 e2 h3 => ?_, fun f m3 d2 h3 => ?_⟩
      · have hg := lD_grow d2
        refine hx_dn (hr31_46 (s0 := 1) (by omega) (by omega) (fun _ => ?_) (fun c => absurd c (by decide)))
        refine cs36 h3 (by omega) (fun m4 h4 => ?_)
        exact hx_dn (hr31_61 (by omega) (by omega) (il (i + 1) (by omega) p2 _ m4 (by omega) (lD_sm2 d c d2 (e2.1 rfl)) h4))
      · exact hx_dn (hr31_46 (s0 := 0) (by omega) (by omega) (fun c => absurd rfl c) (fun _ => hR.2 _ _ ((lE_rul T L).2.2.2.2.2.2.2.2.1 _ _ _ _ _ _ d c d2) h3))
    · rw [hsg] at c
      exact hR.1 _ _ _ d ⟨fun e => by omega, fun _ => c, fun e => by omega, fun e => by omega⟩ h1
theorem c_sum (ih : cP xs T L m0 n yp_m31 2) : cP xs T L m0 (n + 1) yp_m31 2 := by
  intro o p K m Q ho hS hR
  have ihP := c_pro (c_fac ih)
  refine hr31_0 (by omega) (ihP o p K m _ ho hS ⟨fun p1 K1 m1 d e1 h1 => ?_, fun f m1 d h1 => ?_⟩)
  · exact hx_dn (hr31_6 (s0 := 1) (by omega) (fun _ => c_sml ihP ho hR 240 0 rfl p1 K1 m1 (by omega) (lD_sm1 d (e1.1 rfl)) h1) (fun c => absurd c (by decide)))
  · exact hx_dn (hr31_6 (s0 := 0) (by omega) (fun c => absurd rfl c) (fun _ => hR.2 _ _ ((lE_rul T L).2.2.2.2.2.2.2.1 _ _ _ _ d) h1))
/-- parts: the loop -/
theorem c_ptl (ih : cP xs T L m0 n yp_m43 3) {o p : Nat} {K : hCode} {Q : hQ} (ho : o ≤ 6) (hR : cR T L m0 4 o p K Q) : ∀ e i : Nat, i + e = 240 → ∀ p1 K1 m1, i ≤ p1 → lD T L 4 o p K p1 K1 → cS T L m0 p1 K1 m1 → hxn xs n yp_m42 13 [(0, .inr (.inl 52)), (1, .inr (.inl 3)), (2, .inl (o : Int)), (3, .inl (i : Int))] [] m1 Q := by
  intro e
  induction e with
  | zero =>
    intro i hi p1 K1 m1 hip d h1
    have hL := cs_L h1
    refine hx_dn (hr42_13 (by omega) (by omega) (fun _ => hR.1 _ _ _ d ⟨fun e => by omega, fun e => by omega, fun _ => ?_, fun e => by omega⟩ h1) (fun c => absurd c (by omega)) (fun c => absurd c (by omega)))
    rw [tx_no (by omega)]
    decide
  | succ e il =>
    intro i hi p1 K1 m1 hip d h1
    have hsg := cs_sg h1
    have hkl := cs_kl h1
    refine hx_dn (hr42_13 (by omega) (by omega) (fun c => absurd c (by omega)) (fun _ c => ?_) (fun _ c => ?_))
    · rw [hsg] at c
      exact hR.1 _ _ _ d ⟨fun e => by omega, fun e => by omega, fun _ => c, fun e => by omega⟩ h1
    · rw [hsg] at c
      refine cs30 h1 (tx_lt (by rw [c]; decide)) (fun m2 h2 => ?_)
      refine hx_dn (hr42_33 (by omega) (by omega) ?_)
      refine cs36 h2 (by omega) (fun m3 h3 => ?_)
      refine hx_dn (hr42_43 (by omega) (by omega) ?_)
      refine ih o (p1 + 1) _ m3 _ ho h3 ⟨fun p2 K2 m4 d2 _ h4 => ?_, fun f m4 d2 h4 => ?_⟩
      · have hg := lD_grow d2
        have hk : K2[K1.length]? = some (38, 0) := by
          rw [lD_pre d2 K1.length (by rw [List.length_append, List.length_singleton]; omega)]
          exact lk_last
        refine hx_dn (hr42_51 (s0 := 1) (by omega) (by omega) (fun _ => ?_) (fun c => absurd c (by decide)))
        refine cs44 h4 hk (fun m5 h5 => ?_)
        exact hx_dn (hr42_65 (by omega) (by omega) (il (i + 1) (by omega) p2 _ m5 (by omega) (lD_pt2 d c d2) h5))
      · exact hx_dn (hr42_51 (s0 := 0) (by omega) (by omega) (fun c => absurd rfl c) (fun _ => hR.2 _ _ ((lE_rul T L).2.2.2.2.2.2.2.2.2.2.2.2.2.2.2.2.2.1 _ _ _ _ _ _ d c d2) h4))
theorem c_par (ih : cP xs T L m0 n yp_m43 3) : cP xs T L m0 n yp_m42 4 := by
  intro o p K m Q ho hS hR
  refine hx_dn (hr42_0 (by omega) (ih o p K m _ ho hS ⟨fun p1 K1 m1 d _ h1 => ?_, fun f m1 d h1 => ?_⟩))
  · exact hx_dn (hr42_6 (s0 := 1) (by omega) (fun _ => c_ptl ih ho hR 240 0 rfl p1 K1 m1 (by omega) (lD_pt1 d) h1) (fun c => absurd c (by decide)))
  · exact hx_dn (hr42_6 (s0 := 0) (by omega) (fun c => absurd rfl c) (fun _ => hR.2 _ _ ((lE_rul T L).2.2.2.2.2.2.2.2.2.2.2.2.2.2.2.2.1 _ _ _ _ d) h1))
/-- conditions: the loop -/
theorem c_cnl (ih : cP xs T L m0 n yp_m42 4) {o p : Nat} {K : hCode} {Q : hQ} (ho : o ≤ 6) (hR : cR T L m0 5 o p K Q) : ∀ e i : Nat, i + e = 240 → ∀ p1 K1 m1, i ≤ p1 → lD T L 5 o p K p1 K1 → cS T L m0 p1 K1 m1 → hxn xs n yp_m41 13 [(0, .inr (.inl 52)), (1, .inr (.inl 3)), (2, .inl (o : Int)), (3, .inl (i : Int))] [] m1 Q := by
  intro e
  induction e with
  | zero =>
    intro i hi p1 K1 m1 hip d h1
    have hL := cs_L h1
    refine hx_dn (hr41_13 (by omega) (by omega) (fun _ => hR.1 _ _ _ d ⟨fun e => by omega, fun e => by omega, fun e => by omega, fun _ => ?_⟩ h1) (fun c => absurd c (by omega)) (fun c => absurd c (by omega)))
    rw [tx_no (by omega)]
    decide
  | succ e il =>
    intro i hi p1 K1 m1 hip d h1
    have hsg := cs_sg h1
    have hkl := cs_kl h1
    refine hx_dn (hr41_13 (by omega) (by omega) (fun c => absurd c (by omega)) (fun _ c => ?_) (fun _ c => ?_))
    · rw [hsg] at c
      exact hR.1 _ _ _ d ⟨fun e => by omega, fun e => by omega, fun e => by omega, fun _ => c⟩ h1
    · rw [hsg] at c
      refine cs30 h1 (tx_lt (by rw [c]; decide)) (fun m2 h2 => ?_)
      refine hx_dn (hr41_33 (by omega) (by omega) ?_)
      refine cs36 h2 (by omega) (fun m3 h3 => ?_)
      refine hx_dn (hr41_43 (by omega) (by omega) ?_)
      refine ih o (p1 + 1) _ m3 _ ho h3 ⟨fun p2 K2 m4 d2 e2 h4 => ?_, fun f m4 d2 h4 => ?_⟩
      · have hg := lD_grow d2
        have hk : K2[K1.length]? = some (124, 0) := by
          rw [lD_pre d2 K1.length (by rw [List.length_append, List.length_singleton]; omega)]
          exact lk_last
        refine hx_dn (hr41_51 (s0 := 1) (by omega) (by omega) (fun _ => ?_) (fun c => absurd c (by decide)))
        refine cs44 h4 hk (fun m5 h5 => ?_)
        exact hx_dn (hr41_65 (by omega) (by omega) (il (i + 1) (by omega) p2 _ m5 (by omega) (lD_cn2 d c d2 (e2.2.2.1 rfl)) h5))
      · exact hx_dn (hr41_51 (s0 := 0) (by omega) (by omega) (fun c => absurd rfl c) (fun _ => hR.2 _ _ ((lE_rul T L).2.2.2.2.2.2.2.2.2.2.2.2.2.2.2.2.2.2.2 _ _ _ _ _ _ d c d2) h4))
theorem c_con (ih : cP xs T L m0 n yp_m42 4) : cP xs T L m0 n yp_m41 5 := by
  intro o p K m Q ho hS hR
  refine hx_dn (hr41_0 (by omega) (ih o p K m _ ho hS ⟨fun p1 K1 m1 d e1 h1 => ?_, fun f m1 d h1 => ?_⟩))
  · exact hx_dn (hr41_6 (s0 := 1) (by omega) (fun _ => c_cnl ih ho hR 240 0 rfl p1 K1 m1 (by omega) (lD_cn1 d (e1.2.2.1 rfl)) h1) (fun c => absurd c (by decide)))
  · exact hx_dn (hr41_6 (s0 := 0) (by omega) (fun c => absurd rfl c) (fun _ => hR.2 _ _ ((lE_rul T L).2.2.2.2.2.2.2.2.2.2.2.2.2.2.2.2.2.2.1 _ _ _ _ d) h1))
theorem c_pie (ihS : cP xs T L m0 n yp_m31 2) (ih : cP xs T L m0 n yp_m43 3) : cP xs T L m0 (n + 1) yp_m43 3 := by
  intro o p K m Q ho hS hR
  have hpl := cs_pl hS
  have hsg := cs_sg hS
  have hkl := cs_kl hS
  have ihC := c_con (c_par ih)
  have no : tx T L p = 33 → o < 6 → hxn xs n yp_m30 0 [(0, .inr (.inl 3))] [] m (fun r m' => hxn xs n yp_m43 79 [(0, .inr (.inl 52)), (1, .inr (.inl 3)), (2, .inl (o : Int))] (hrs r ++ []) m' Q) := fun c1 c2 => by
    refine cs30 hS (tx_lt (by rw [c1]; decide)) (fun m1 h1 => ?_)
    refine hx_dn (hr43_79 (by omega) ?_)
    refine ih (o + 1) (p + 1) K m1 _ (by omega) h1 ⟨fun p2 K2 m2 d _ h2 => ?_, fun f m2 d h2 => ?_⟩
    · have hg := lD_grow d
      refine hx_dn (hr43_87 (s0 := 1) (fun _ => ?_) (fun c => absurd c (by decide)))
      exact cs36 h2 (by omega) (fun m3 h3 => hx_dn (hr43_102 (hR.1 _ _ _ (lD_no c1 c2 d) (cEnd0 (.inr rfl)) h3)))
    · exact hx_dn (hr43_87 (s0 := 0) (fun c => absurd rfl c) (fun _ => hR.2 _ _ ((lE_rul T L).2.2.2.2.2.2.2.2.2.2.2.2.1 _ _ _ _ c1 c2 d) h2))
  have ou : (tx T L p = 33 ∨ tx T L p = 40) → 6 ≤ o → hxn xs n yp_m29 0 [(0, .inr (.inl 3)), (1, .inl 5), (2, .inl (p : Int))] [] m (fun r m' => hxn xs n yp_m43 32 [] (hrs r ++ []) m' Q) := fun c1 c2 =>
    cs29 hS (by decide) (fun m1 h1 => hx_dn (hr43_32 (hR.2 _ _ ((lE_rul T L).2.2.2.2.2.2.2.2.2.1 _ _ _ c1 c2) h1)))
  have pa : tx T L p = 40 → o < 6 → hxn xs n yp_m30 0 [(0, .inr (.inl 3))] [] m (fun r m' => hxn xs n yp_m43 43 [(0, .inr (.inl 52)), (1, .inr (.inl 3)), (2, .inl (o : Int))] (hrs r ++ []) m' Q) := fun c1 c2 => by
    refine cs30 hS (tx_lt (by rw [c1]; decide)) (fun m1 h1 => ?_)
    refine hx_dn (hr43_43 (by omega) ?_)
    refine ihC (o + 1) (p + 1) K m1 _ (by omega) h1 ⟨fun p2 K2 m2 d e h2 => ?_, fun f m2 d h2 => ?_⟩
    · refine hx_dn (hr43_51 (s0 := 1) (fun c => absurd c (by decide)) (fun _ => ?_))
      refine cs37 h2 (by decide) (fun t m3 h3 => ?_) (fun t m3 h3 => ?_)
      · exact hx_dn (hr43_60 (s0 := 1) (fun c => absurd c (by decide)) (fun _ => hR.1 _ _ _ (lD_pa c1 c2 d t) (cEnd0 (.inr rfl)) h3))
      · exact hx_dn (hr43_60 (s0 := 0) (fun _ => hR.2 _ _ ((lE_rul T L).2.2.2.2.2.2.2.2.2.2.2.1 _ _ _ _ _ c1 c2 d (e.2.2.2 rfl) t) h3) (fun c => absurd rfl c))
    · exact hx_dn (hr43_51 (s0 := 0) (fun _ => hR.2 _ _ ((lE_rul T L).2.2.2.2.2.2.2.2.2.2.1 _ _ _ _ c1 c2 d) h2) (fun c => absurd rfl c))
  have cm : ∀ {p1 K1 m1}, tx T L p ≠ 33 → tx T L p ≠ 40 → lD T L 2 o p K p1 K1 → isCm (tx T L p1) → cS T L m0 p1 K1 m1 → hxn xs n yp_m30 0 [(0, .inr (.inl 3))] [] m1 (fun r m' => hxn xs n yp_m43 152 [(0, .inr (.inl 52)), (1, .inr (.inl 3)), (2, .inl (o : Int)), (4, .inl (tx T L p1))] (hrs r ++ []) m' Q) := fun {p1 K1 m1} c1 c2 d1 t h1 => by
    have hk1 := cs_kl h1
    refine cs30 h1 (tx_lt (fun e => by rw [e] at t; unfold isCm at t; omega)) (fun m2 h2 => ?_)
    refine hx_dn (hr43_152 (by omega) ?_)
    refine ihS o (p1 + 1) K1 m2 _ ho h2 ⟨fun p2 K2 m3 d2 e2 h3 => ?_, fun f m3 d2 h3 => ?_⟩
    · have hg := lD_grow d2
      refine hx_dn (hr43_158 (s0 := 1) (fun _ => ?_) (fun c => absurd c (by decide)))
      exact cs36 h3 (by omega) (fun m4 h4 => hx_dn (hr43_173 (hR.1 _ _ _ (lD_cm c1 c2 d1 t d2 (e2.2.1 rfl)) (cEnd0 (.inr rfl)) h4)))
    · exact hx_dn (hr43_158 (s0 := 0) (fun c => absurd rfl c) (fun _ => hR.2 _ _ ((lE_rul T L).2.2.2.2.2.2.2.2.2.2.2.2.2.2.2.1 _ _ _ _ _ _ c1 c2 d1 t d2) h3))
  refine hr43_0 (by omega) (fun c1 c2 _ _ => ?_) (fun c1 c2 => ?_) (fun c1 c2 _ _ => ?_) (fun c1 c2 _ c4 => absurd c4 c1) (fun c1 c2 c3 => absurd c3 c2) (fun c1 c2 c3 _ => ?_) (fun c1 c2 c3 => ?_)
  · rw [hsg] at c1
    exact no c1 (by omega)
  · rw [hsg] at c1
    rw [hpl]
    exact ou (.inl c1) (by omega)
  · rw [hsg] at c1 c2
    refine ihS o p K m _ ho hS ⟨fun p1 K1 m1 d e1 h1 => ?_, fun f m1 d h1 => ?_⟩
    · have hs1 := cs_sg h1
      refine hx_dn (hr43_111 (s0 := 1) (by omega) (fun _ t => ?_) (fun _ _ t => ?_) (fun _ _ _ t => ?_) (fun _ t1 t2 t3 => ?_) (fun c => absurd c (by decide)))
      · rw [hs1] at t ⊢
        exact cm c1 c2 d (.inl t) h1
      · rw [hs1] at t ⊢
        exact cm c1 c2 d (.inr (.inl t)) h1
      · rw [hs1] at t ⊢
        exact cm c1 c2 d (.inr (.inr t)) h1
      · rw [hs1] at t1 t2 t3
        refine cs28 h1 (fun m2 h2 => hx_dn (hr43_147 (hR.2 _ _ ((lE_rul T L).2.2.2.2.2.2.2.2.2.2.2.2.2.2.1 _ _ _ _ _ c1 c2 d (e1.2.1 rfl) ?_) h2)))
        unfold isCm
        omega
    · exact hx_dn (hr43_111 (s0 := 0) (by omega) (fun c => absurd rfl c) (fun c => absurd rfl c) (fun c => absurd rfl c) (fun c => absurd rfl c) (fun _ => hR.2 _ _ ((lE_rul T L).2.2.2.2.2.2.2.2.2.2.2.2.2.1 _ _ _ _ c1 c2 d) h1))
  · rw [hsg] at c2
    exact pa c2 (by omega)
  · rw [hsg] at c2
    rw [hpl]
    exact ou (.inr c2) (by omega)
theorem c_all : ∀ n : Nat, cP xs T L m0 n yp_m31 2 ∧ cP xs T L m0 n yp_m43 3
  | 0 => ⟨fun _ _ _ _ _ _ _ _ => hx_0, fun _ _ _ _ _ _ _ _ => hx_0⟩
  | n + 1 => ⟨c_sum (c_all n).1, c_pie (c_all n).1 (c_all n).2⟩
theorem c_sumA : cP xs T L m0 n yp_m31 2 := (c_all n).1
theorem c_conA : cP xs T L m0 n yp_m41 5 := c_con (c_par (c_all n).2)
end CP
end
section
/-! clauses as the class reads them: roads -/
/-- clause from 0 on -/
theorem hr27_0 {xs : List Int32} {n : Nat} {Q : hQ} {m : gx_M} {x2 : Int}
    (h1 : ((m 3 3) = 110) → (x2 < 16) → hxn xs n yp_m30 0 [(0, .inr (.inl 3))] [] m (fun r m' => hxn xs n yp_m27 60 [(0, .inr (.inl 52)), (1, .inr (.inl 3)), (3, .inl (m 3 3))] (hrs r ++ []) m' Q))
    (h2 : ((m 3 3) = 110) → (16 ≤ x2) → hxn xs n yp_m29 0 [(0, .inr (.inl 3)), (1, .inl 4), (2, .inl (m 3 2))] [] m (fun r m' => hxn xs n yp_m27 55 [] (hrs r ++ []) m' Q))
    (h3 : ((m 3 3) ≠ 110) → ((m 3 3) = 118) → (x2 < 16) → hxn xs n yp_m30 0 [(0, .inr (.inl 3))] [] m (fun r m' => hxn xs n yp_m27 60 [(0, .inr (.inl 52)), (1, .inr (.inl 3)), (3, .inl (m 3 3))] (hrs r ++ []) m' Q))
    (h4 : ((m 3 3) ≠ 110) → ((m 3 3) = 118) → (16 ≤ x2) → hxn xs n yp_m29 0 [(0, .inr (.inl 3)), (1, .inl 4), (2, .inl (m 3 2))] [] m (fun r m' => hxn xs n yp_m27 55 [] (hrs r ++ []) m' Q))
    (h5 : ((m 3 3) ≠ 110) → ((m 3 3) ≠ 118) → ((m 3 3) = 105) → (x2 < 16) → hxn xs n yp_m30 0 [(0, .inr (.inl 3))] [] m (fun r m' => hxn xs n yp_m27 60 [(0, .inr (.inl 52)), (1, .inr (.inl 3)), (3, .inl (m 3 3))] (hrs r ++ []) m' Q))
    (h6 : ((m 3 3) ≠ 110) → ((m 3 3) ≠ 118) → ((m 3 3) = 105) → (16 ≤ x2) → hxn xs n yp_m29 0 [(0, .inr (.inl 3)), (1, .inl 4), (2, .inl (m 3 2))] [] m (fun r m' => hxn xs n yp_m27 55 [] (hrs r ++ []) m' Q))
    (h7 : ((m 3 3) ≠ 110) → ((m 3 3) ≠ 118) → ((m 3 3) ≠ 105) → ((m 3 3) = 102) → (x2 < 16) → hxn xs n yp_m30 0 [(0, .inr (.inl 3))] [] m (fun r m' => hxn xs n yp_m27 60 [(0, .inr (.inl 52)), (1, .inr (.inl 3)), (3, .inl (m 3 3))] (hrs r ++ []) m' Q))
    (h8 : ((m 3 3) ≠ 110) → ((m 3 3) ≠ 118) → ((m 3 3) ≠ 105) → ((m 3 3) = 102) → (16 ≤ x2) → hxn xs n yp_m29 0 [(0, .inr (.inl 3)), (1, .inl 4), (2, .inl (m 3 2))] [] m (fun r m' => hxn xs n yp_m27 55 [] (hrs r ++ []) m' Q))
    (h9 : ((m 3 3) ≠ 110) → ((m 3 3) ≠ 118) → ((m 3 3) ≠ 105) → ((m 3 3) ≠ 102) → ((m 3 3) = 103) → (x2 < 16) → hxn xs n yp_m30 0 [(0, .inr (.inl 3))] [] m (fun r m' => hxn xs n yp_m27 60 [(0, .inr (.inl 52)), (1, .inr (.inl 3)), (3, .inl (m 3 3))] (hrs r ++ []) m' Q))
    (h10 : ((m 3 3) ≠ 110) → ((m 3 3) ≠ 118) → ((m 3 3) ≠ 105) → ((m 3 3) ≠ 102) → ((m 3 3) = 103) → (16 ≤ x2) → hxn xs n yp_m29 0 [(0, .inr (.inl 3)), (1, .inl 4), (2, .inl (m 3 2))] [] m (fun r m' => hxn xs n yp_m27 55 [] (hrs r ++ []) m' Q))
    (h11 : ((m 3 3) ≠ 110) → ((m 3 3) ≠ 118) → ((m 3 3) ≠ 105) → ((m 3 3) ≠ 102) → ((m 3 3) ≠ 103) → hxn xs n yp_m28 0 [(0, .inr (.inl 3))] [] m (fun r m' => hxn xs n yp_m27 39 [] (hrs r ++ []) m' Q)) : hxn xs (n + 1) yp_m27 0 [(0, .inr (.inl 52)), (1, .inr (.inl 3)), (2, .inl x2)] [] m Q := by
  refine hx_blks (npc := 8) (L' := [(0, .inr (.inl 52)), (1, .inr (.inl 3)), (2, .inl x2), (3, .inl (m 3 3))]) (st' := [.inl 110, .inl (m 3 3)]) (m' := m) ((0, .aload_n 1, 1, 0, 0, 0, 0), (0, 0, 0)) [((1, .getfield 39, 3, 1, 3, 1055, 0), (0, 3, 0)), ((4, .istore_n 3, 1, 0, 0, 0, 0), (0, 0, 0)), ((5, .iload_n 3, 1, 0, 0, 0, 0), (0, 0, 0)), ((6, .bipush 110, 2, 0, 0, 0, 0), (0, 0, 0))] (by decide +kernel) rfl ?_
  refine hx_cmp .eq 40 (by decide +kernel) (fun c1 => ?_) (fun c1 => ?_)
  · have c1 : (m 3 3) = 110 := c1
    refine hx_blk (npc := 43) (L' := [(0, .inr (.inl 52)), (1, .inr (.inl 3)), (2, .inl x2), (3, .inl (m 3 3))]) (st' := [.inl 16, .inl x2]) (m' := m) [((40, .iload_n 2, 1, 0, 0, 0, 0), (0, 0, 0)), ((41, .bipush 16, 2, 0, 0, 0, 0), (0, 0, 0))] (by decide +kernel) rfl ?_
    refine hx_cmp .lt 56 (by decide +kernel) (fun c2 => ?_) (fun c2 => ?_)
    · have c2 : x2 < 16 := c2
      refine hx_blk (npc := 57) (L' := [(0, .inr (.inl 52)), (1, .inr (.inl 3)), (2, .inl x2), (3, .inl (m 3 3))]) (st' := [.inr (.inl 3)]) (m' := m) [((56, .aload_n 1, 1, 0, 0, 0, 0), (0, 0, 0))] (by decide +kernel) rfl ?_
      exact hx_call (E := (57, .invokevirtual 52, 3, 30, 0, 3010, 0)) (M' := yp_m30) [.inr (.inl 3)] [] rfl (by decide +kernel) rfl ⟨rfl, rfl⟩ rfl rfl (hx_mono (h1 c1 c2) (fun r m' h' => hx_pick [0, 1, 3] h'))
    · have c2 : 16 ≤ x2 := by have h : ¬ (x2 < 16) := c2; omega
      refine hx_blk (npc := 52) (L' := [(0, .inr (.inl 52)), (1, .inr (.inl 3)), (2, .inl x2), (3, .inl (m 3 3))]) (st' := [.inl (m 3 2), .inl 4, .inr (.inl 3)]) (m' := m) [((46, .aload_n 1, 1, 0, 0, 0, 0), (0, 0, 0)), ((47, .iconst 4, 1, 0, 0, 0, 0), (0, 0, 0)), ((48, .aload_n 1, 1, 0, 0, 0, 0), (0, 0, 0)), ((49, .getfield 45, 3, 1, 2, 1053, 0), (0, 3, 0))] (by decide +kernel) rfl ?_
      exact hx_call (E := (52, .invokevirtual 48, 3, 29, 0, 3009, 0)) (M' := yp_m29) [.inr (.inl 3), .inl 4, .inl (m 3 2)] [] rfl (by decide +kernel) rfl ⟨rfl, rfl⟩ rfl rfl (hx_mono (h2 c1 c2) (fun r m' h' => hx_pick [] h'))
  · have c1 : (m 3 3) ≠ 110 := c1
    refine hx_blk (npc := 14) (L' := [(0, .inr (.inl 52)), (1, .inr (.inl 3)), (2, .inl x2), (3, .inl (m 3 3))]) (st' := [.inl 118, .inl (m 3 3)]) (m' := m) [((11, .iload_n 3, 1, 0, 0, 0, 0), (0, 0, 0)), ((12, .bipush 118, 2, 0, 0, 0, 0), (0, 0, 0))] (by decide +kernel) rfl ?_
    refine hx_cmp .eq 40 (by decide +kernel) (fun c2 => ?_) (fun c2 => ?_)
    · have c2 : (m 3 3) = 118 := c2
      refine hx_blk (npc := 43) (L' := [(0, .inr (.inl 52)), (1, .inr (.inl 3)), (2, .inl x2), (3, .inl (m 3 3))]) (st' := [.inl 16, .inl x2]) (m' := m) [((40, .iload_n 2, 1, 0, 0, 0, 0), (0, 0, 0)), ((41, .bipush 16, 2, 0, 0, 0, 0), (0, 0, 0))] (by decide +kernel) rfl ?_
      refine hx_cmp .lt 56 (by decide +kernel) (fun c3 => ?_) (fun c3 => ?_)
      · have c3 : x2 < 16 := c3
        refine hx_blk (npc := 57) (L' := [(0, .inr (.inl 52)), (1, .inr (.inl 3)), (2, .inl x2), (3, .inl (m 3 3))]) (st' := [.inr (.inl 3)]) (m' := m) [((56, .aload_n 1, 1, 0, 0, 0, 0), (0, 0, 0))] (by decide +kernel) rfl ?_
        exact hx_call (E := (57, .invokevirtual 52, 3, 30, 0, 3010, 0)) (M' := yp_m30) [.inr (.inl 3)] [] rfl (by decide +kernel) rfl ⟨rfl, rfl⟩ rfl rfl (hx_mono (h3 c1 c2 c3) (fun r m' h' => hx_pick [0, 1, 3] h'))
      · have c3 : 16 ≤ x2 := by have h : ¬ (x2 < 16) := c3; omega
        refine hx_blk (npc := 52) (L' := [(0, .inr (.inl 52)), (1, .inr (.inl 3)), (2, .inl x2), (3, .inl (m 3 3))]) (st' := [.inl (m 3 2), .inl 4, .inr (.inl 3)]) (m' := m) [((46, .aload_n 1, 1, 0, 0, 0, 0), (0, 0, 0)), ((47, .iconst 4, 1, 0, 0, 0, 0), (0, 0, 0)), ((48, .aload_n 1, 1, 0, 0, 0, 0), (0, 0, 0)), ((49, .getfield 45, 3, 1, 2, 1053, 0), (0, 3, 0))] (by decide +kernel) rfl ?_
        exact hx_call (E := (52, .invokevirtual 48, 3, 29, 0, 3009, 0)) (M' := yp_m29) [.inr (.inl 3), .inl 4, .inl (m 3 2)] [] rfl (by decide +kernel) rfl ⟨rfl, rfl⟩ rfl rfl (hx_mono (h4 c1 c2 c3) (fun r m' h' => hx_pick [] h'))
    · have c2 : (m 3 3) ≠ 118 := c2
      refine hx_blk (npc := 20) (L' := [(0, .inr (.inl 52)), (1, .inr (.inl 3)), (2, .inl x2), (3, .inl (m 3 3))]) (st' := [.inl 105, .inl (m 3 3)]) (m' := m) [((17, .iload_n 3, 1, 0, 0, 0, 0), (0, 0, 0)), ((18, .bipush 105, 2, 0, 0, 0, 0), (0, 0, 0))] (by decide +kernel) rfl ?_
      refine hx_cmp .eq 40 (by decide +kernel) (fun c3 => ?_) (fun c3 => ?_)
      · have c3 : (m 3 3) = 105 := c3
        refine hx_blk (npc := 43) (L' := [(0, .inr (.inl 52)), (1, .inr (.inl 3)), (2, .inl x2), (3, .inl (m 3 3))]) (st' := [.inl 16, .inl x2]) (m' := m) [((40, .iload_n 2, 1, 0, 0, 0, 0), (0, 0, 0)), ((41, .bipush 16, 2, 0, 0, 0, 0), (0, 0, 0))] (by decide +kernel) rfl ?_
        refine hx_cmp .lt 56 (by decide +kernel) (fun c4 => ?_) (fun c4 => ?_)
        · have c4 : x2 < 16 := c4
          refine hx_blk (npc := 57) (L' := [(0, .inr (.inl 52)), (1, .inr (.inl 3)), (2, .inl x2), (3, .inl (m 3 3))]) (st' := [.inr (.inl 3)]) (m' := m) [((56, .aload_n 1, 1, 0, 0, 0, 0), (0, 0, 0))] (by decide +kernel) rfl ?_
          exact hx_call (E := (57, .invokevirtual 52, 3, 30, 0, 3010, 0)) (M' := yp_m30) [.inr (.inl 3)] [] rfl (by decide +kernel) rfl ⟨rfl, rfl⟩ rfl rfl (hx_mono (h5 c1 c2 c3 c4) (fun r m' h' => hx_pick [0, 1, 3] h'))
        · have c4 : 16 ≤ x2 := by have h : ¬ (x2 < 16) := c4; omega
          refine hx_blk (npc := 52) (L' := [(0, .inr (.inl 52)), (1, .inr (.inl 3)), (2, .inl x2), (3, .inl (m 3 3))]) (st' := [.inl (m 3 2), .inl 4, .inr (.inl 3)]) (m' := m) [((46, .aload_n 1, 1, 0, 0, 0, 0), (0, 0, 0)), ((47, .iconst 4, 1, 0, 0, 0, 0), (0, 0, 0)), ((48, .aload_n 1, 1, 0, 0, 0, 0), (0, 0, 0)), ((49, .getfield 45, 3, 1, 2, 1053, 0), (0, 3, 0))] (by decide +kernel) rfl ?_
          exact hx_call (E := (52, .invokevirtual 48, 3, 29, 0, 3009, 0)) (M' := yp_m29) [.inr (.inl 3), .inl 4, .inl (m 3 2)] [] rfl (by decide +kernel) rfl ⟨rfl, rfl⟩ rfl rfl (hx_mono (h6 c1 c2 c3 c4) (fun r m' h' => hx_pick [] h'))
      · have c3 : (m 3 3) ≠ 105 := c3
        refine hx_blk (npc := 26) (L' := [(0, .inr (.inl 52)), (1, .inr (.inl 3)), (2, .inl x2), (3, .inl (m 3 3))]) (st' := [.inl 102, .inl (m 3 3)]) (m' := m) [((23, .iload_n 3, 1, 0, 0, 0, 0), (0, 0, 0)), ((24, .bipush 102, 2, 0, 0, 0, 0), (0, 0, 0))] (by decide +kernel) rfl ?_
        refine hx_cmp .eq 40 (by decide +kernel) (fun c4 => ?_) (fun c4 => ?_)
        · have c4 : (m 3 3) = 102 := c4
          refine hx_blk (npc := 43) (L' := [(0, .inr (.inl 52)), (1, .inr (.inl 3)), (2, .inl x2), (3, .inl (m 3 3))]) (st' := [.inl 16, .inl x2]) (m' := m) [((40, .iload_n 2, 1, 0, 0, 0, 0), (0, 0, 0)), ((41, .bipush 16, 2, 0, 0, 0, 0), (0, 0, 0))] (by decide +kernel) rfl ?_
          refine hx_cmp .lt 56 (by decide +kernel) (fun c5 => ?_) (fun c5 => ?_)
          · have c5 : x2 < 16 := c5
            refine hx_blk (npc := 57) (L' := [(0, .inr (.inl 52)), (1, .inr (.inl 3)), (2, .inl x2), (3, .inl (m 3 3))]) (st' := [.inr (.inl 3)]) (m' := m) [((56, .aload_n 1, 1, 0, 0, 0, 0), (0, 0, 0))] (by decide +kernel) rfl ?_
            exact hx_call (E := (57, .invokevirtual 52, 3, 30, 0, 3010, 0)) (M' := yp_m30) [.inr (.inl 3)] [] rfl (by decide +kernel) rfl ⟨rfl, rfl⟩ rfl rfl (hx_mono (h7 c1 c2 c3 c4 c5) (fun r m' h' => hx_pick [0, 1, 3] h'))
          · have c5 : 16 ≤ x2 := by have h : ¬ (x2 < 16) := c5; omega
            refine hx_blk (npc := 52) (L' := [(0, .inr (.inl 52)), (1, .inr (.inl 3)), (2, .inl x2), (3, .inl (m 3 3))]) (st' := [.inl (m 3 2), .inl 4, .inr (.inl 3)]) (m' := m) [((46, .aload_n 1, 1, 0, 0, 0, 0), (0, 0, 0)), ((47, .iconst 4, 1, 0, 0, 0, 0), (0, 0, 0)), ((48, .aload_n 1, 1, 0, 0, 0, 0), (0, 0, 0)), ((49, .getfield 45, 3, 1, 2, 1053, 0), (0, 3, 0))] (by decide +kernel) rfl ?_
            exact hx_call (E := (52, .invokevirtual 48, 3, 29, 0, 3009, 0)) (M' := yp_m29) [.inr (.inl 3), .inl 4, .inl (m 3 2)] [] rfl (by decide +kernel) rfl ⟨rfl, rfl⟩ rfl rfl (hx_mono (h8 c1 c2 c3 c4 c5) (fun r m' h' => hx_pick [] h'))
        · have c4 : (m 3 3) ≠ 102 := c4
          refine hx_blk (npc := 32) (L' := [(0, .inr (.inl 52)), (1, .inr (.inl 3)), (2, .inl x2), (3, .inl (m 3 3))]) (st' := [.inl 103, .inl (m 3 3)]) (m' := m) [((29, .iload_n 3, 1, 0, 0, 0, 0), (0, 0, 0)), ((30, .bipush 103, 2, 0, 0, 0, 0), (0, 0, 0))] (by decide +kernel) rfl ?_
          refine hx_cmp .eq 40 (by decide +kernel) (fun c5 => ?_) (fun c5 => ?_)
          · have c5 : (m 3 3) = 103 := c5
            refine hx_blk (npc := 43) (L' := [(0, .inr (.inl 52)), (1, .inr (.inl 3)), (2, .inl x2), (3, .inl (m 3 3))]) (st' := [.inl 16, .inl x2]) (m' := m) [((40, .iload_n 2, 1, 0, 0, 0, 0), (0, 0, 0)), ((41, .bipush 16, 2, 0, 0, 0, 0), (0, 0, 0))] (by decide +kernel) rfl ?_
            refine hx_cmp .lt 56 (by decide +kernel) (fun c6 => ?_) (fun c6 => ?_)
            · have c6 : x2 < 16 := c6
              refine hx_blk (npc := 57) (L' := [(0, .inr (.inl 52)), (1, .inr (.inl 3)), (2, .inl x2), (3, .inl (m 3 3))]) (st' := [.inr (.inl 3)]) (m' := m) [((56, .aload_n 1, 1, 0, 0, 0, 0), (0, 0, 0))] (by decide +kernel) rfl ?_
              exact hx_call (E := (57, .invokevirtual 52, 3, 30, 0, 3010, 0)) (M' := yp_m30) [.inr (.inl 3)] [] rfl (by decide +kernel) rfl ⟨rfl, rfl⟩ rfl rfl (hx_mono (h9 c1 c2 c3 c4 c5 c6) (fun r m' h' => hx_pick [0, 1, 3] h'))
            · have c6 : 16 ≤ x2 := by have h : ¬ (x2 < 16) := c6; omega
              refine hx_blk (npc := 52) (L' := [(0, .inr (.inl 52)), (1, .inr (.inl 3)), (2, .inl x2), (3, .inl (m 3 3))]) (st' := [.inl (m 3 2), .inl 4, .inr (.inl 3)]) (m' := m) [((46, .aload_n 1, 1, 0, 0, 0, 0), (0, 0, 0)), ((47, .iconst 4, 1, 0, 0, 0, 0), (0, 0, 0)), ((48, .aload_n 1, 1, 0, 0, 0, 0), (0, 0, 0)), ((49, .getfield 45, 3, 1, 2, 1053, 0), (0, 3, 0))] (by decide +kernel) rfl ?_
              exact hx_call (E := (52, .invokevirtual 48, 3, 29, 0, 3009, 0)) (M' := yp_m29) [.inr (.inl 3), .inl 4, .inl (m 3 2)] [] rfl (by decide +kernel) rfl ⟨rfl, rfl⟩ rfl rfl (hx_mono (h10 c1 c2 c3 c4 c5 c6) (fun r m' h' => hx_pick [] h'))
          · have c5 : (m 3 3) ≠ 103 := c5
            refine hx_blk (npc := 36) (L' := [(0, .inr (.inl 52)), (1, .inr (.inl 3)), (2, .inl x2), (3, .inl (m 3 3))]) (st' := [.inr (.inl 3)]) (m' := m) [((35, .aload_n 1, 1, 0, 0, 0, 0), (0, 0, 0))] (by decide +kernel) rfl ?_
            exact hx_call (E := (36, .invokevirtual 42, 3, 28, 0, 3001, 0)) (M' := yp_m28) [.inr (.inl 3)] [] rfl (by decide +kernel) rfl ⟨rfl, rfl⟩ rfl rfl (hx_mono (h11 c1 c2 c3 c4 c5) (fun r m' h' => hx_pick [] h'))

/-- clause from 39 on -/
theorem hr27_39 {xs : List Int32} {n : Nat} {Q : hQ} {m : gx_M} {s0 : Int}
    (h1 : Q (some (.inl s0)) m) : hxn xs (n + 1) yp_m27 39 [] [.inl s0] m Q := by
  exact hx_reti (by decide +kernel) h1

/-- clause from 55 on -/
theorem hr27_55 {xs : List Int32} {n : Nat} {Q : hQ} {m : gx_M} {s0 : Int}
    (h1 : Q (some (.inl s0)) m) : hxn xs (n + 1) yp_m27 55 [] [.inl s0] m Q := by
  exact hx_reti (by decide +kernel) h1

/-- clause from 60 on -/
theorem hr27_60 {xs : List Int32} {n : Nat} {Q : hQ} {m : gx_M} {x3 : Int}
    (h1 : (x3 = 110) → hxn xs n yp_m37 0 [(0, .inr (.inl 3)), (1, .inl 40)] [] m (fun r m' => hxn xs n yp_m27 101 [(0, .inr (.inl 52)), (1, .inr (.inl 3)), (3, .inl x3), (4, .inl (m 53 2)), (5, .inl (m 53 2))] (hrs r ++ []) m' Q))
    (h2 : (x3 ≠ 110) → hxn xs n yp_m31 0 [(0, .inr (.inl 52)), (1, .inr (.inl 3)), (2, .inl 0)] [] m (fun r m' => hxn xs n yp_m27 81 [(0, .inr (.inl 52)), (1, .inr (.inl 3)), (3, .inl x3), (4, .inl (m 53 2))] (hrs r ++ []) m' Q)) : hxn xs (n + 1) yp_m27 60 [(0, .inr (.inl 52)), (1, .inr (.inl 3)), (3, .inl x3)] [] m Q := by
  refine hx_blks (npc := 72) (L' := [(0, .inr (.inl 52)), (1, .inr (.inl 3)), (3, .inl x3), (4, .inl (m 53 2))]) (st' := [.inl 110, .inl x3]) (m' := m) ((60, .aload_n 0, 1, 0, 0, 0, 0), (0, 0, 0)) [((61, .getfield 12, 3, 4, 0, 1226, 0), (1, 52, 53)), ((64, .getfield 18, 3, 3, 2, 1180, 0), (0, 53, 0)), ((67, .istore 4, 2, 0, 0, 0, 0), (0, 0, 0)), ((69, .iload_n 3, 1, 0, 0, 0, 0), (0, 0, 0)), ((70, .bipush 110, 2, 0, 0, 0, 0), (0, 0, 0))] (by decide +kernel) rfl ?_
  refine hx_cmp .eq 86 (by decide +kernel) (fun c1 => ?_) (fun c1 => ?_)
  · have c1 : x3 = 110 := c1
    refine hx_blk (npc := 98) (L' := [(0, .inr (.inl 52)), (1, .inr (.inl 3)), (3, .inl x3), (4, .inl (m 53 2)), (5, .inl (m 53 2))]) (st' := [.inl 40, .inr (.inl 3)]) (m' := m) [((86, .aload_n 0, 1, 0, 0, 0, 0), (0, 0, 0)), ((87, .getfield 12, 3, 4, 0, 1226, 0), (1, 52, 53)), ((90, .getfield 18, 3, 3, 2, 1180, 0), (0, 53, 0)), ((93, .istore 5, 2, 0, 0, 0, 0), (0, 0, 0)), ((95, .aload_n 1, 1, 0, 0, 0, 0), (0, 0, 0)), ((96, .bipush 40, 2, 0, 0, 0, 0), (0, 0, 0))] (by decide +kernel) rfl ?_
    exact hx_call (E := (98, .invokevirtual 35, 3, 37, 0, 3040, 0)) (M' := yp_m37) [.inr (.inl 3), .inl 40] [] rfl (by decide +kernel) rfl ⟨rfl, rfl⟩ rfl rfl (hx_mono (h1 c1) (fun r m' h' => hx_pick [0, 1, 3, 4, 5] h'))
  · have c1 : x3 ≠ 110 := c1
    refine hx_blk (npc := 78) (L' := [(0, .inr (.inl 52)), (1, .inr (.inl 3)), (3, .inl x3), (4, .inl (m 53 2))]) (st' := [.inl 0, .inr (.inl 3), .inr (.inl 52)]) (m' := m) [((75, .aload_n 0, 1, 0, 0, 0, 0), (0, 0, 0)), ((76, .aload_n 1, 1, 0, 0, 0, 0), (0, 0, 0)), ((77, .iconst 0, 1, 0, 0, 0, 0), (0, 0, 0))] (by decide +kernel) rfl ?_
    exact hx_call (E := (78, .invokevirtual 55, 3, 31, 0, 3014, 0)) (M' := yp_m31) [.inr (.inl 52), .inr (.inl 3), .inl 0] [] rfl (by decide +kernel) rfl ⟨rfl, rfl⟩ rfl rfl (hx_mono (h2 c1) (fun r m' h' => hx_pick [0, 1, 3, 4] h'))

/-- clause from 81 on -/
theorem hr27_81 {xs : List Int32} {n : Nat} {Q : hQ} {m : gx_M} {x3 x4 s0 : Int}
    (h1 : (s0 ≠ 0) → hxn xs n yp_m37 0 [(0, .inr (.inl 3)), (1, .inl 40)] [] m (fun r m' => hxn xs n yp_m27 101 [(0, .inr (.inl 52)), (1, .inr (.inl 3)), (3, .inl x3), (4, .inl x4), (5, .inl (m 53 2))] (hrs r ++ []) m' Q))
    (h2 : (s0 = 0) → Q (some (.inl 0)) m) : hxn xs (n + 1) yp_m27 81 [(0, .inr (.inl 52)), (1, .inr (.inl 3)), (3, .inl x3), (4, .inl x4)] [.inl s0] m Q := by
  refine hx_ifs .ne 86 (by decide +kernel) (fun c1 => ?_) (fun c1 => ?_)
  · have c1 : s0 ≠ 0 := c1
    refine hx_blk (npc := 98) (L' := [(0, .inr (.inl 52)), (1, .inr (.inl 3)), (3, .inl x3), (4, .inl x4), (5, .inl (m 53 2))]) (st' := [.inl 40, .inr (.inl 3)]) (m' := m) [((86, .aload_n 0, 1, 0, 0, 0, 0), (0, 0, 0)), ((87, .getfield 12, 3, 4, 0, 1226, 0), (1, 52, 53)), ((90, .getfield 18, 3, 3, 2, 1180, 0), (0, 53, 0)), ((93, .istore 5, 2, 0, 0, 0, 0), (0, 0, 0)), ((95, .aload_n 1, 1, 0, 0, 0, 0), (0, 0, 0)), ((96, .bipush 40, 2, 0, 0, 0, 0), (0, 0, 0))] (by decide +kernel) rfl ?_
    exact hx_call (E := (98, .invokevirtual 35, 3, 37, 0, 3040, 0)) (M' := yp_m37) [.inr (.inl 3), .inl 40] [] rfl (by decide +kernel) rfl ⟨rfl, rfl⟩ rfl rfl (hx_mono (h1 c1) (fun r m' h' => hx_pick [0, 1, 3, 4, 5] h'))
  · have c1 : s0 = 0 := by have h : ¬ (s0 ≠ 0) := c1; omega
    refine hx_blk (npc := 85) (L' := [(0, .inr (.inl 52)), (1, .inr (.inl 3)), (3, .inl x3), (4, .inl x4)]) (st' := [.inl 0]) (m' := m) [((84, .iconst 0, 1, 0, 0, 0, 0), (0, 0, 0))] (by decide +kernel) rfl ?_
    exact hx_reti (by decide +kernel) (h2 c1)

/-- clause from 101 on -/
theorem hr27_101 {xs : List Int32} {n : Nat} {Q : hQ} {m : gx_M} {x3 x4 x5 s0 : Int}
    (h1 : (s0 = 0) → Q (some (.inl 0)) m)
    (h2 : (s0 ≠ 0) → hxn xs n yp_m41 0 [(0, .inr (.inl 52)), (1, .inr (.inl 3)), (2, .inl 1)] [] m (fun r m' => hxn xs n yp_m27 110 [(0, .inr (.inl 52)), (1, .inr (.inl 3)), (3, .inl x3), (4, .inl x4), (5, .inl x5)] (hrs r ++ []) m' Q)) : hxn xs (n + 1) yp_m27 101 [(0, .inr (.inl 52)), (1, .inr (.inl 3)), (3, .inl x3), (4, .inl x4), (5, .inl x5)] [.inl s0] m Q := by
  refine hx_ifs .eq 122 (by decide +kernel) (fun c1 => ?_) (fun c1 => ?_)
  · have c1 : s0 = 0 := c1
    refine hx_blk (npc := 123) (L' := [(0, .inr (.inl 52)), (1, .inr (.inl 3)), (3, .inl x3), (4, .inl x4), (5, .inl x5)]) (st' := [.inl 0]) (m' := m) [((122, .iconst 0, 1, 0, 0, 0, 0), (0, 0, 0))] (by decide +kernel) rfl ?_
    exact hx_reti (by decide +kernel) (h1 c1)
  · have c1 : s0 ≠ 0 := c1
    refine hx_blk (npc := 107) (L' := [(0, .inr (.inl 52)), (1, .inr (.inl 3)), (3, .inl x3), (4, .inl x4), (5, .inl x5)]) (st' := [.inl 1, .inr (.inl 3), .inr (.inl 52)]) (m' := m) [((104, .aload_n 0, 1, 0, 0, 0, 0), (0, 0, 0)), ((105, .aload_n 1, 1, 0, 0, 0, 0), (0, 0, 0)), ((106, .iconst 1, 1, 0, 0, 0, 0), (0, 0, 0))] (by decide +kernel) rfl ?_
    exact hx_call (E := (107, .invokevirtual 58, 3, 41, 0, 3054, 0)) (M' := yp_m41) [.inr (.inl 52), .inr (.inl 3), .inl 1] [] rfl (by decide +kernel) rfl ⟨rfl, rfl⟩ rfl rfl (hx_mono (h2 c1) (fun r m' h' => hx_pick [0, 1, 3, 4, 5] h'))

/-- clause from 110 on -/
theorem hr27_110 {xs : List Int32} {n : Nat} {Q : hQ} {m : gx_M} {x3 x4 x5 s0 : Int}
    (h1 : (s0 = 0) → Q (some (.inl 0)) m)
    (h2 : (s0 ≠ 0) → hxn xs n yp_m37 0 [(0, .inr (.inl 3)), (1, .inl 41)] [] m (fun r m' => hxn xs n yp_m27 119 [(0, .inr (.inl 52)), (3, .inl x3), (4, .inl x4), (5, .inl x5)] (hrs r ++ []) m' Q)) : hxn xs (n + 1) yp_m27 110 [(0, .inr (.inl 52)), (1, .inr (.inl 3)), (3, .inl x3), (4, .inl x4), (5, .inl x5)] [.inl s0] m Q := by
  refine hx_ifs .eq 122 (by decide +kernel) (fun c1 => ?_) (fun c1 => ?_)
  · have c1 : s0 = 0 := c1
    refine hx_blk (npc := 123) (L' := [(0, .inr (.inl 52)), (1, .inr (.inl 3)), (3, .inl x3), (4, .inl x4), (5, .inl x5)]) (st' := [.inl 0]) (m' := m) [((122, .iconst 0, 1, 0, 0, 0, 0), (0, 0, 0))] (by decide +kernel) rfl ?_
    exact hx_reti (by decide +kernel) (h1 c1)
  · have c1 : s0 ≠ 0 := c1
    refine hx_blk (npc := 116) (L' := [(0, .inr (.inl 52)), (1, .inr (.inl 3)), (3, .inl x3), (4, .inl x4), (5, .inl x5)]) (st' := [.inl 41, .inr (.inl 3)]) (m' := m) [((113, .aload_n 1, 1, 0, 0, 0, 0), (0, 0, 0)), ((114, .bipush 41, 2, 0, 0, 0, 0), (0, 0, 0))] (by decide +kernel) rfl ?_
    exact hx_call (E := (116, .invokevirtual 35, 3, 37, 0, 3040, 0)) (M' := yp_m37) [.inr (.inl 3), .inl 41] [] rfl (by decide +kernel) rfl ⟨rfl, rfl⟩ rfl rfl (hx_mono (h2 c1) (fun r m' h' => hx_pick [0, 3, 4, 5] h'))

/-- clause from 119 on -/
theorem hr27_119 {xs : List Int32} {n : Nat} {Q : hQ} {m : gx_M} {x3 x4 x5 s0 : Int}
    (h1 : (s0 ≠ 0) → hxn xs n yp_m45 0 [(0, .inr (.inl 53)), (1, .inl x3), (2, .inl x4), (3, .inl x5)] [] m (fun r m' => hxn xs n yp_m27 136 [] (hrs r ++ []) m' Q))
    (h2 : (s0 = 0) → Q (some (.inl 0)) m) : hxn xs (n + 1) yp_m27 119 [(0, .inr (.inl 52)), (3, .inl x3), (4, .inl x4), (5, .inl x5)] [.inl s0] m Q := by
  refine hx_ifs .ne 124 (by decide +kernel) (fun c1 => ?_) (fun c1 => ?_)
  · have c1 : s0 ≠ 0 := c1
    refine hx_blk (npc := 133) (L' := [(0, .inr (.inl 52)), (3, .inl x3), (4, .inl x4), (5, .inl x5)]) (st' := [.inl x5, .inl x4, .inl x3, .inr (.inl 53)]) (m' := m) [((124, .aload_n 0, 1, 0, 0, 0, 0), (0, 0, 0)), ((125, .getfield 12, 3, 4, 0, 1226, 0), (1, 52, 53)), ((128, .iload_n 3, 1, 0, 0, 0, 0), (0, 0, 0)), ((129, .iload 4, 2, 0, 0, 0, 0), (0, 0, 0)), ((131, .iload 5, 2, 0, 0, 0, 0), (0, 0, 0))] (by decide +kernel) rfl ?_
    exact hx_call (E := (133, .invokevirtual 61, 3, 45, 0, 3070, 0)) (M' := yp_m45) [.inr (.inl 53), .inl x3, .inl x4, .inl x5] [] rfl (by decide +kernel) rfl ⟨rfl, rfl⟩ rfl rfl (hx_mono (h1 c1) (fun r m' h' => hx_pick [] h'))
  · have c1 : s0 = 0 := by have h : ¬ (s0 ≠ 0) := c1; omega
    refine hx_blk (npc := 123) (L' := [(0, .inr (.inl 52)), (3, .inl x3), (4, .inl x4), (5, .inl x5)]) (st' := [.inl 0]) (m' := m) [((122, .iconst 0, 1, 0, 0, 0, 0), (0, 0, 0))] (by decide +kernel) rfl ?_
    exact hx_reti (by decide +kernel) (h2 c1)

/-- clause from 136 on -/
theorem hr27_136 {xs : List Int32} {n : Nat} {Q : hQ} {m : gx_M}
    (h1 : Q (some (.inl 1)) m) : hxn xs (n + 1) yp_m27 136 [] [] m Q := by
  refine hx_blks (npc := 137) (L' := []) (st' := [.inl 1]) (m' := m) ((136, .iconst 1, 1, 0, 0, 0, 0), (0, 0, 0)) [] (by decide +kernel) rfl ?_
  exact hx_reti (by decide +kernel) h1

/-- read from 0 on -/
theorem hr26_0 {xs : List Int32} {n : Nat} {Q : hQ} {m : gx_M}
    (h1 : hxn xs n yp_m26 18 [(0, .inr (.inl 52)), (1, .inr (.inl 3)), (2, .inl 0)] [] (gx_u (gx_u m 53 2 0) 53 7 0) Q) : hxn xs (n + 1) yp_m26 0 [(0, .inr (.inl 52)), (1, .inr (.inl 3))] [] m Q := by
  refine hx_blks (npc := 18) (L' := [(0, .inr (.inl 52)), (1, .inr (.inl 3)), (2, .inl 0)]) (st' := []) (m' := (gx_u (gx_u m 53 2 0) 53 7 0)) ((0, .aload_n 0, 1, 0, 0, 0, 0), (0, 0, 0)) [((1, .getfield 12, 3, 4, 0, 1226, 0), (1, 52, 53)), ((4, .iconst 0, 1, 0, 0, 0, 0), (0, 0, 0)), ((5, .putfield 18, 3, 3, 2, 1180, 0), (0, 53, 0)), ((8, .aload_n 0, 1, 0, 0, 0, 0), (0, 0, 0)), ((9, .getfield 12, 3, 4, 0, 1226, 0), (1, 52, 53)), ((12, .iconst 0, 1, 0, 0, 0, 0), (0, 0, 0)), ((13, .putfield 22, 3, 3, 7, 1186, 0), (0, 53, 0)), ((16, .iconst 0, 1, 0, 0, 0, 0), (0, 0, 0)), ((17, .istore_n 2, 1, 0, 0, 0, 0), (0, 0, 0))] (by decide +kernel) rfl ?_
  exact hx_pick [0, 1, 2] h1

/-- read from 18 on -/
theorem hr26_18 {xs : List Int32} {n : Nat} {Q : hQ} {m : gx_M} {x2 : Int} (r_x2 : 0 ≤ x2 ∧ x2 ≤ 16)
    (h1 : (x2 ≤ 16) → hxn xs n yp_m27 0 [(0, .inr (.inl 52)), (1, .inr (.inl 3)), (2, .inl x2)] [] m (fun r m' => hxn xs n yp_m26 30 [(0, .inr (.inl 52)), (1, .inr (.inl 3)), (2, .inl x2)] (hrs r ++ []) m' Q)) : hxn xs (n + 1) yp_m26 18 [(0, .inr (.inl 52)), (1, .inr (.inl 3)), (2, .inl x2)] [] m Q := by
  refine hx_blks (npc := 21) (L' := [(0, .inr (.inl 52)), (1, .inr (.inl 3)), (2, .inl x2)]) (st' := [.inl 16, .inl x2]) (m' := m) ((18, .iload_n 2, 1, 0, 0, 0, 0), (0, 0, 0)) [((19, .bipush 16, 2, 0, 0, 0, 0), (0, 0, 0))] (by decide +kernel) rfl ?_
  refine hx_cmp .gt 61 (by decide +kernel) (fun c1 => ?_) (fun c1 => ?_)
  · have c1 : 16 < x2 := c1
    exfalso; omega
  · have c1 : x2 ≤ 16 := by have h : ¬ (16 < x2) := c1; omega
    refine hx_blk (npc := 27) (L' := [(0, .inr (.inl 52)), (1, .inr (.inl 3)), (2, .inl x2)]) (st' := [.inl x2, .inr (.inl 3), .inr (.inl 52)]) (m' := m) [((24, .aload_n 0, 1, 0, 0, 0, 0), (0, 0, 0)), ((25, .aload_n 1, 1, 0, 0, 0, 0), (0, 0, 0)), ((26, .iload_n 2, 1, 0, 0, 0, 0), (0, 0, 0))] (by decide +kernel) rfl ?_
    exact hx_call (E := (27, .invokevirtual 25, 3, 27, 0, 2237, 0)) (M' := yp_m27) [.inr (.inl 52), .inr (.inl 3), .inl x2] [] rfl (by decide +kernel) rfl ⟨rfl, rfl⟩ rfl rfl (hx_mono (h1 c1) (fun r m' h' => hx_pick [0, 1, 2] h'))

/-- read from 30 on -/
theorem hr26_30 {xs : List Int32} {n : Nat} {Q : hQ} {m : gx_M} {x2 s0 : Int} (r_x2 : 0 ≤ x2 ∧ x2 ≤ 16)
    (h1 : (s0 ≠ 0) → hxn xs n yp_m46 0 [(0, .inr (.inl 3))] [] m (fun r m' => hxn xs n yp_m26 39 [(0, .inr (.inl 52)), (1, .inr (.inl 3)), (2, .inl x2)] (hrs r ++ []) m' Q))
    (h2 : (s0 = 0) → Q (some (.inl 0)) m) : hxn xs (n + 1) yp_m26 30 [(0, .inr (.inl 52)), (1, .inr (.inl 3)), (2, .inl x2)] [.inl s0] m Q := by
  refine hx_ifs .ne 35 (by decide +kernel) (fun c1 => ?_) (fun c1 => ?_)
  · have c1 : s0 ≠ 0 := c1
    refine hx_blk (npc := 36) (L' := [(0, .inr (.inl 52)), (1, .inr (.inl 3)), (2, .inl x2)]) (st' := [.inr (.inl 3)]) (m' := m) [((35, .aload_n 1, 1, 0, 0, 0, 0), (0, 0, 0))] (by decide +kernel) rfl ?_
    exact hx_call (E := (36, .invokevirtual 29, 3, 46, 0, 3074, 0)) (M' := yp_m46) [.inr (.inl 3)] [] rfl (by decide +kernel) rfl ⟨rfl, rfl⟩ rfl rfl (hx_mono (h1 c1) (fun r m' h' => hx_pick [0, 1, 2] h'))
  · have c1 : s0 = 0 := by have h : ¬ (s0 ≠ 0) := c1; omega
    refine hx_blk (npc := 34) (L' := [(0, .inr (.inl 52)), (1, .inr (.inl 3)), (2, .inl x2)]) (st' := [.inl 0]) (m' := m) [((33, .iconst 0, 1, 0, 0, 0, 0), (0, 0, 0))] (by decide +kernel) rfl ?_
    exact hx_reti (by decide +kernel) (h2 c1)

/-- read from 39 on -/
theorem hr26_39 {xs : List Int32} {n : Nat} {Q : hQ} {m : gx_M} {x2 s0 : Int} (r_x2 : 0 ≤ x2 ∧ x2 ≤ 16)
    (h1 : (s0 = 0) → hxn xs n yp_m37 0 [(0, .inr (.inl 3)), (1, .inl 59)] [] m (fun r m' => hxn xs n yp_m26 50 [(0, .inr (.inl 52)), (1, .inr (.inl 3)), (2, .inl x2)] (hrs r ++ []) m' Q))
    (h2 : (s0 ≠ 0) → Q (some (.inl 1)) m) : hxn xs (n + 1) yp_m26 39 [(0, .inr (.inl 52)), (1, .inr (.inl 3)), (2, .inl x2)] [.inl s0] m Q := by
  refine hx_ifs .eq 44 (by decide +kernel) (fun c1 => ?_) (fun c1 => ?_)
  · have c1 : s0 = 0 := c1
    refine hx_blk (npc := 47) (L' := [(0, .inr (.inl 52)), (1, .inr (.inl 3)), (2, .inl x2)]) (st' := [.inl 59, .inr (.inl 3)]) (m' := m) [((44, .aload_n 1, 1, 0, 0, 0, 0), (0, 0, 0)), ((45, .bipush 59, 2, 0, 0, 0, 0), (0, 0, 0))] (by decide +kernel) rfl ?_
    exact hx_call (E := (47, .invokevirtual 35, 3, 37, 0, 3040, 0)) (M' := yp_m37) [.inr (.inl 3), .inl 59] [] rfl (by decide +kernel) rfl ⟨rfl, rfl⟩ rfl rfl (hx_mono (h1 c1) (fun r m' h' => hx_pick [0, 1, 2] h'))
  · have c1 : s0 ≠ 0 := c1
    refine hx_blk (npc := 43) (L' := [(0, .inr (.inl 52)), (1, .inr (.inl 3)), (2, .inl x2)]) (st' := [.inl 1]) (m' := m) [((42, .iconst 1, 1, 0, 0, 0, 0), (0, 0, 0))] (by decide +kernel) rfl ?_
    exact hx_reti (by decide +kernel) (h2 c1)

/-- read from 50 on -/
theorem hr26_50 {xs : List Int32} {n : Nat} {Q : hQ} {m : gx_M} {x2 s0 : Int} (r_x2 : 0 ≤ x2 ∧ x2 ≤ 16)
    (h1 : (s0 ≠ 0) → hxn xs n yp_m26 18 [(0, .inr (.inl 52)), (1, .inr (.inl 3)), (2, .inl (x2 + 1))] [] m Q)
    (h2 : (s0 = 0) → Q (some (.inl 0)) m) : hxn xs (n + 1) yp_m26 50 [(0, .inr (.inl 52)), (1, .inr (.inl 3)), (2, .inl x2)] [.inl s0] m Q := by
  refine hx_ifs .ne 55 (by decide +kernel) (fun c1 => ?_) (fun c1 => ?_)
  · have c1 : s0 ≠ 0 := c1
    have e1 : gx_w (x2 + 1) = x2 + 1 := gx_w_id (by omega) (by omega)
    refine hx_blk (npc := 18) (L' := [(0, .inr (.inl 52)), (1, .inr (.inl 3)), (2, .inl (gx_w (x2 + 1)))]) (st' := []) (m' := m) [((55, .iinc 2 1, 3, 0, 0, 0, 0), (0, 0, 0)), ((58, .goto (-40), 3, 0, 0, 0, 0), (0, 0, 0))] (by decide +kernel) rfl ?_
    rw [e1]
    exact hx_pick [0, 1, 2] (h1 c1)
  · have c1 : s0 = 0 := by have h : ¬ (s0 ≠ 0) := c1; omega
    refine hx_blk (npc := 54) (L' := [(0, .inr (.inl 52)), (1, .inr (.inl 3)), (2, .inl x2)]) (st' := [.inl 0]) (m' := m) [((53, .iconst 0, 1, 0, 0, 0, 0), (0, 0, 0))] (by decide +kernel) rfl ?_
    exact hx_reti (by decide +kernel) (h2 c1)

/-- law from 0 on -/
theorem hr22_0 {xs : List Int32} {n : Nat} {Q : hQ} {m : gx_M} {x1 : Int}
    (h1 : hxn xs n yp_m23 0 [(0, .inr (.inl 1)), (1, .inl x1), (2, .inl 240)] [] m (fun r m' => hxn xs n yp_m22 11 [(0, .inr (.inl 0)), (1, .inl x1)] (hrs r ++ []) m' Q)) : hxn xs (n + 1) yp_m22 0 [(0, .inr (.inl 0)), (1, .inl x1)] [] m Q := by
  refine hx_blks (npc := 8) (L' := [(0, .inr (.inl 0)), (1, .inl x1)]) (st' := [.inl 240, .inl x1, .inr (.inl 1)]) (m' := m) ((0, .aload_n 0, 1, 0, 0, 0, 0), (0, 0, 0)) [((1, .getfield 10, 3, 9, 0, 2119, 0), (1, 0, 1)), ((4, .iload_n 1, 1, 0, 0, 0, 0), (0, 0, 0)), ((5, .sipush 240, 3, 0, 0, 0, 0), (0, 0, 0))] (by decide +kernel) rfl ?_
  exact hx_call (E := (8, .invokevirtual 124, 3, 23, 0, 2212, 0)) (M' := yp_m23) [.inr (.inl 1), .inl x1, .inl 240] [] rfl (by decide +kernel) rfl ⟨rfl, rfl⟩ rfl rfl (hx_mono h1 (fun r m' h' => hx_pick [0, 1] h'))

/-- law from 11 on -/
theorem hr22_11 {xs : List Int32} {n : Nat} {Q : hQ} {m : gx_M} {x1 s0 : Int}
    (h1 : (s0 ≠ 0) → hxn xs n yp_m24 0 [(0, .inr (.inl 3)), (1, .inr (.inl 1)), (2, .inl x1)] [] m (fun r m' => hxn xs n yp_m22 28 [(0, .inr (.inl 0))] (hrs r ++ []) m' Q))
    (h2 : (s0 = 0) → Q (some (.inl (-1))) m) : hxn xs (n + 1) yp_m22 11 [(0, .inr (.inl 0)), (1, .inl x1)] [.inl s0] m Q := by
  refine hx_ifs .ne 16 (by decide +kernel) (fun c1 => ?_) (fun c1 => ?_)
  · have c1 : s0 ≠ 0 := c1
    refine hx_blk (npc := 25) (L' := [(0, .inr (.inl 0)), (1, .inl x1)]) (st' := [.inl x1, .inr (.inl 1), .inr (.inl 3)]) (m' := m) [((16, .aload_n 0, 1, 0, 0, 0, 0), (0, 0, 0)), ((17, .getfield 19, 3, 9, 1, 2120, 0), (1, 0, 3)), ((20, .aload_n 0, 1, 0, 0, 0, 0), (0, 0, 0)), ((21, .getfield 10, 3, 9, 0, 2119, 0), (1, 0, 1)), ((24, .iload_n 1, 1, 0, 0, 0, 0), (0, 0, 0))] (by decide +kernel) rfl ?_
    exact hx_call (E := (25, .invokevirtual 128, 3, 24, 0, 2216, 0)) (M' := yp_m24) [.inr (.inl 3), .inr (.inl 1), .inl x1] [] rfl (by decide +kernel) rfl ⟨rfl, rfl⟩ rfl rfl (hx_mono (h1 c1) (fun r m' h' => hx_pick [0] h'))
  · have c1 : s0 = 0 := by have h : ¬ (s0 ≠ 0) := c1; omega
    refine hx_blk (npc := 15) (L' := [(0, .inr (.inl 0)), (1, .inl x1)]) (st' := [.inl (-1)]) (m' := m) [((14, .iconst (-1), 1, 0, 0, 0, 0), (0, 0, 0))] (by decide +kernel) rfl ?_
    exact hx_reti (by decide +kernel) (h2 c1)

/-- law from 28 on -/
theorem hr22_28 {xs : List Int32} {n : Nat} {Q : hQ} {m : gx_M}
    (h1 : hxn xs n yp_m26 0 [(0, .inr (.inl 52)), (1, .inr (.inl 3))] [] m (fun r m' => hxn xs n yp_m22 39 [(0, .inr (.inl 0))] (hrs r ++ []) m' Q)) : hxn xs (n + 1) yp_m22 28 [(0, .inr (.inl 0))] [] m Q := by
  refine hx_blks (npc := 36) (L' := [(0, .inr (.inl 0))]) (st' := [.inr (.inl 3), .inr (.inl 52)]) (m' := m) ((28, .aload_n 0, 1, 0, 0, 0, 0), (0, 0, 0)) [((29, .getfield 46, 3, 9, 6, 2125, 0), (1, 0, 52)), ((32, .aload_n 0, 1, 0, 0, 0, 0), (0, 0, 0)), ((33, .getfield 19, 3, 9, 1, 2120, 0), (1, 0, 3))] (by decide +kernel) rfl ?_
  exact hx_call (E := (36, .invokevirtual 132, 3, 26, 0, 2233, 0)) (M' := yp_m26) [.inr (.inl 52), .inr (.inl 3)] [] rfl (by decide +kernel) rfl ⟨rfl, rfl⟩ rfl rfl (hx_mono h1 (fun r m' h' => hx_pick [0] h'))

/-- law from 39 on -/
theorem hr22_39 {xs : List Int32} {n : Nat} {Q : hQ} {m : gx_M} {s0 : Int}
    (h1 : (s0 ≠ 0) → hxn xs n yp_m47 0 [(0, .inr (.inl 44)), (1, .inr (.inl 53))] [] m (fun r m' => hxn xs n yp_m22 64 [(0, .inr (.inl 0))] (hrs r ++ []) m' Q))
    (h2 : (s0 = 0) → Q (some (.inl (m 3 4))) m) : hxn xs (n + 1) yp_m22 39 [(0, .inr (.inl 0))] [.inl s0] m Q := by
  refine hx_ifs .ne 50 (by decide +kernel) (fun c1 => ?_) (fun c1 => ?_)
  · have c1 : s0 ≠ 0 := c1
    refine hx_blk (npc := 61) (L' := [(0, .inr (.inl 0))]) (st' := [.inr (.inl 53), .inr (.inl 44)]) (m' := m) [((50, .aload_n 0, 1, 0, 0, 0, 0), (0, 0, 0)), ((51, .getfield 39, 3, 9, 5, 2124, 0), (1, 0, 44)), ((54, .aload_n 0, 1, 0, 0, 0, 0), (0, 0, 0)), ((55, .getfield 46, 3, 9, 6, 2125, 0), (1, 0, 52)), ((58, .getfield 139, 3, 4, 0, 1227, 0), (1, 52, 53))] (by decide +kernel) rfl ?_
    exact hx_call (E := (61, .invokevirtual 142, 3, 47, 0, 3078, 0)) (M' := yp_m47) [.inr (.inl 44), .inr (.inl 53)] [] rfl (by decide +kernel) rfl ⟨rfl, rfl⟩ rfl rfl (hx_mono (h1 c1) (fun r m' h' => hx_pick [0] h'))
  · have c1 : s0 = 0 := by have h : ¬ (s0 ≠ 0) := c1; omega
    refine hx_blk (npc := 49) (L' := [(0, .inr (.inl 0))]) (st' := [.inl (m 3 4)]) (m' := m) [((42, .aload_n 0, 1, 0, 0, 0, 0), (0, 0, 0)), ((43, .getfield 19, 3, 9, 1, 2120, 0), (1, 0, 3)), ((46, .getfield 136, 3, 1, 4, 1058, 0), (0, 3, 0))] (by decide +kernel) rfl ?_
    exact hx_reti (by decide +kernel) (h2 c1)

/-- law from 64 on -/
theorem hr22_64 {xs : List Int32} {n : Nat} {Q : hQ} {m : gx_M}
    (h1 : Q (some (.inl (m 44 7))) m) : hxn xs (n + 1) yp_m22 64 [(0, .inr (.inl 0))] [] m Q := by
  refine hx_blks (npc := 71) (L' := [(0, .inr (.inl 0))]) (st' := [.inl (m 44 7)]) (m' := m) ((64, .aload_n 0, 1, 0, 0, 0, 0), (0, 0, 0)) [((65, .getfield 39, 3, 9, 5, 2124, 0), (1, 0, 44)), ((68, .getfield 146, 3, 3, 7, 1188, 0), (0, 44, 0))] (by decide +kernel) rfl ?_
  exact hx_reti (by decide +kernel) h1

/-- copy from 0 on -/
theorem hr47_0 {xs : List Int32} {n : Nat} {Q : hQ} {m : gx_M}
    (h1 : Q none (gx_u (hcopy (hcopy (hcopy (hcopy (hcopy (hcopy m 54 0 45 0 240) 55 0 46 0 240) 56 0 47 0 16) 57 0 48 0 16) 58 0 49 0 16) 59 0 50 0 16) 44 7 ((hcopy (hcopy (hcopy (hcopy (hcopy (hcopy m 54 0 45 0 240) 55 0 46 0 240) 56 0 47 0 16) 57 0 48 0 16) 58 0 49 0 16) 59 0 50 0 16) 53 7))) : hxn xs (n + 1) yp_m47 0 [(0, .inr (.inl 44)), (1, .inr (.inl 53))] [] m Q := by
  refine hx_blks (npc := 100) (L' := [(0, .inr (.inl 44)), (1, .inr (.inl 53))]) (st' := []) (m' := (gx_u (hcopy (hcopy (hcopy (hcopy (hcopy (hcopy m 54 0 45 0 240) 55 0 46 0 240) 56 0 47 0 16) 57 0 48 0 16) 58 0 49 0 16) 59 0 50 0 16) 44 7 ((hcopy (hcopy (hcopy (hcopy (hcopy (hcopy m 54 0 45 0 240) 55 0 46 0 240) 56 0 47 0 16) 57 0 48 0 16) 58 0 49 0 16) 59 0 50 0 16) 53 7))) ((0, .aload_n 1, 1, 0, 0, 0, 0), (0, 0, 0)) [((1, .getfield 9, 3, 3, 0, 1178, 0), (1, 53, 54)), ((4, .iconst 0, 1, 0, 0, 0, 0), (0, 0, 0)), ((5, .aload_n 0, 1, 0, 0, 0, 0), (0, 0, 0)), ((6, .getfield 9, 3, 3, 0, 1178, 0), (1, 44, 45)), ((9, .iconst 0, 1, 0, 0, 0, 0), (0, 0, 0)), ((10, .sipush 240, 3, 0, 0, 0, 0), (0, 0, 0)), ((13, .invokestatic 33, 3, 1001, 2228, 3082, 1014), (0, 54, 45)), ((16, .aload_n 1, 1, 0, 0, 0, 0), (0, 0, 0)), ((17, .getfield 15, 3, 3, 1, 1179, 0), (1, 53, 55)), ((20, .iconst 0, 1, 0, 0, 0, 0), (0, 0, 0)), ((21, .aload_n 0, 1, 0, 0, 0, 0), (0, 0, 0)), ((22, .getfield 15, 3, 3, 1, 1179, 0), (1, 44, 46)), ((25, .iconst 0, 1, 0, 0, 0, 0), (0, 0, 0)), ((26, .sipush 240, 3, 0, 0, 0, 0), (0, 0, 0)), ((29, .invokestatic 33, 3, 1001, 2228, 3082, 1014), (0, 55, 46)), ((32, .aload_n 1, 1, 0, 0, 0, 0), (0, 0, 0)), ((33, .getfield 18, 3, 3, 3, 1182, 0), (1, 53, 56)), ((36, .iconst 0, 1, 0, 0, 0, 0), (0, 0, 0)), ((37, .aload_n 0, 1, 0, 0, 0, 0), (0, 0, 0)), ((38, .getfield 18, 3, 3, 3, 1182, 0), (1, 44, 47)), ((41, .iconst 0, 1, 0, 0, 0, 0), (0, 0, 0)), ((42, .bipush 16, 2, 0, 0, 0, 0), (0, 0, 0)), ((44, .invokestatic 33, 3, 1001, 2228, 3082, 1014), (0, 56, 47)), ((47, .aload_n 1, 1, 0, 0, 0, 0), (0, 0, 0)), ((48, .getfield 21, 3, 3, 4, 1183, 0), (1, 53, 57)), ((51, .iconst 0, 1, 0, 0, 0, 0), (0, 0, 0)), ((52, .aload_n 0, 1, 0, 0, 0, 0), (0, 0, 0)), ((53, .getfield 21, 3, 3, 4, 1183, 0), (1, 44, 48)), ((56, .iconst 0, 1, 0, 0, 0, 0), (0, 0, 0)), ((57, .bipush 16, 2, 0, 0, 0, 0), (0, 0, 0)), ((59, .invokestatic 33, 3, 1001, 2228, 3082, 1014), (0, 57, 48)), ((62, .aload_n 1, 1, 0, 0, 0, 0), (0, 0, 0)), ((63, .getfield 24, 3, 3, 5, 1184, 0), (1, 53, 58)), ((66, .iconst 0, 1, 0, 0, 0, 0), (0, 0, 0)), ((67, .aload_n 0, 1, 0, 0, 0, 0), (0, 0, 0)), ((68, .getfield 24, 3, 3, 5, 1184, 0), (1, 44, 49)), ((71, .iconst 0, 1, 0, 0, 0, 0), (0, 0, 0)), ((72, .bipush 16, 2, 0, 0, 0, 0), (0, 0, 0)), ((74, .invokestatic 33, 3, 1001, 2228, 3082, 1014), (0, 58, 49)), ((77, .aload_n 1, 1, 0, 0, 0, 0), (0, 0, 0)), ((78, .getfield 27, 3, 3, 6, 1185, 0), (1, 53, 59)), ((81, .iconst 0, 1, 0, 0, 0, 0), (0, 0, 0)), ((82, .aload_n 0, 1, 0, 0, 0, 0), (0, 0, 0)), ((83, .getfield 27, 3, 3, 6, 1185, 0), (1, 44, 50)), ((86, .iconst 0, 1, 0, 0, 0, 0), (0, 0, 0)), ((87, .bipush 16, 2, 0, 0, 0, 0), (0, 0, 0)), ((89, .invokestatic 33, 3, 1001, 2228, 3082, 1014), (0, 59, 50)), ((92, .aload_n 0, 1, 0, 0, 0, 0), (0, 0, 0)), ((93, .aload_n 1, 1, 0, 0, 0, 0), (0, 0, 0)), ((94, .getfield 39, 3, 3, 7, 1187, 0), (0, 53, 0)), ((97, .putfield 39, 3, 3, 7, 1187, 0), (0, 44, 0))] (by decide +kernel) rfl ?_
  exact hx_ret0 (by decide +kernel) h1
end
section
/-! clauses, as both read them -/
abbrev hCl : Type := Int × Nat × Nat × Nat
def lHd (T : Nat → Int) (L p : Nat) (K : hCode) (p1 : Nat) (K1 : hCode) : Prop := (tx T L p = 110 ∧ p1 = p + 1 ∧ K1 = K) ∨ (tx T L p ≠ 110 ∧ lD T L 2 0 (p + 1) K p1 K1 ∧ ¬ isSm (tx T L p1))
def lCl (T : Nat → Int) (L p : Nat) (K : hCode) (p' : Nat) (K' : hCode) (c : hCl) : Prop := isKd (tx T L p) ∧ ∃ p1 K1 p2, lHd T L p K p1 K1 ∧ tx T L p1 = 40 ∧ lD T L 5 1 (p1 + 1) K1 p2 K' ∧ tx T L p2 = 41 ∧ p' = p2 + 1 ∧ c = (tx T L p, K.length, K1.length, K'.length)
def lBr (T : Nat → Int) (L p : Nat) (K : hCode) (f : Int) : Prop := (tx T L p ≠ 40 ∧ f = lfl 1 p) ∨ (tx T L p = 40 ∧ lE T L 5 1 (p + 1) K f) ∨ (tx T L p = 40 ∧ ∃ p1 K1, lD T L 5 1 (p + 1) K p1 K1 ∧ tx T L p1 ≠ 124 ∧ tx T L p1 ≠ 41 ∧ f = lfl 1 p1)
def lCF (T : Nat → Int) (L i p : Nat) (K : hCode) (f : Int) : Prop := (¬ isKd (tx T L p) ∧ f = lfl 1 p) ∨ (isKd (tx T L p) ∧ 16 ≤ i ∧ f = lfl 4 p) ∨ (isKd (tx T L p) ∧ i < 16 ∧ tx T L p ≠ 110 ∧ lE T L 2 0 (p + 1) K f) ∨ (isKd (tx T L p) ∧ i < 16 ∧ ∃ p1 K1, lHd T L p K p1 K1 ∧ lBr T L p1 K1 f)
def lSep (T : Nat → Int) (L j p0 ps : Nat) : Prop := (j = 0 ∧ ps = p0) ∨ (j ≠ 0 ∧ tx T L p0 = 59 ∧ ps = p0 + 1)
def lLs (T : Nat → Int) (L : Nat) : Nat → Nat → hCode → List hCl → Prop
  | 0, p, K, CL => p = 0 ∧ K = [] ∧ CL = []
  | j + 1, p, K, CL => ∃ p0 K0 CL0 ps c, lLs T L j p0 K0 CL0 ∧ lSep T L j p0 ps ∧ j < 16 ∧ lCl T L ps K0 p K c ∧ CL = CL0 ++ [c]
def lOk (T : Nat → Int) (L : Nat) (K : hCode) (CL : List hCl) : Prop := ∃ j, lLs T L (j + 1) L K CL
def lWr (T : Nat → Int) (L : Nat) (f : Int) : Prop := (∃ j p0 K0 CL0 ps, j ≤ 16 ∧ lLs T L j p0 K0 CL0 ∧ lSep T L j p0 ps ∧ lCF T L j ps K0 f) ∨ (∃ j p K CL, lLs T L (j + 1) p K CL ∧ p < L ∧ tx T L p ≠ 59 ∧ f = lfl 1 p)
theorem lLs_len {T : Nat → Int} {L : Nat} : ∀ {j p : Nat} {K : hCode} {CL : List hCl}, lLs T L j p K CL → CL.length = j
  | 0, p, K, CL, h => by
    rw [h.2.2]
    rfl
  | j + 1, p, K, CL, h => by
    obtain ⟨p0, K0, CL0, ps, c, h1, -, -, -, rfl⟩ := h
    rw [List.length_append, List.length_singleton, lLs_len h1]
theorem lg_lt {α : Type} {K : List α} {i : Nat} {c : α} (h : K[i]? = some c) : i < K.length := (List.getElem?_eq_some_iff.mp h).1
theorem lg_app {α : Type} {K : List α} {x c : α} {i : Nat} (h : (K ++ [x])[i]? = some c) : K[i]? = some c ∨ (i = K.length ∧ c = x) := by
  by_cases hi : i < K.length
  · rw [List.getElem?_append_left hi] at h
    exact .inl h
  · rw [List.getElem?_append_right (by omega)] at h
    have h2 := lg_lt h
    have e : i - K.length = 0 := by
      rw [List.length_singleton] at h2
      omega
    rw [e] at h
    cases h
    exact .inr ⟨by omega, rfl⟩
theorem lCl_gr {T : Nat → Int} {L p p' : Nat} {K K' : hCode} {c : hCl} (h : lCl T L p K p' K' c) : K'.length + p ≤ K.length + p' ∧ p < p' ∧ p' ≤ L := by
  obtain ⟨-, p1, K1, p2, hh, -, hd, h41, rfl, -⟩ := h
  have g2 := lD_grow hd
  have hlt : p2 < L := tx_lt (by rw [h41]; decide)
  rcases hh with ⟨-, rfl, rfl⟩ | ⟨-, hd1, -⟩
  · omega
  · have g1 := lD_grow hd1
    omega
theorem lLs_kl {T : Nat → Int} {L : Nat} : ∀ {j p : Nat} {K : hCode} {CL : List hCl}, lLs T L j p K CL → K.length ≤ p
  | 0, p, K, CL, h => by
    rw [h.2.1]
    exact Nat.zero_le _
  | j + 1, p, K, CL, h => by
    obtain ⟨p0, K0, CL0, ps, c, h1, h2, -, h3, -⟩ := h
    have g := lCl_gr h3
    have ih := lLs_kl h1
    rcases h2 with ⟨-, rfl⟩ | ⟨-, -, rfl⟩ <;> omega
/-! the class -/
def cCl (CL : List hCl) (m : gx_M) : Prop := m 53 7 = (CL.length : Int) ∧ ∀ i c, CL[i]? = some c → m 56 i = c.1 ∧ m 57 i = (c.2.1 : Int) ∧ m 58 i = (c.2.2.1 : Int) ∧ m 59 i = (c.2.2.2 : Int)
def cFz (m0 m : gx_M) : Prop := (∀ c, c ≠ 3 → c ≠ 53 → c ≠ 54 → c ≠ 55 → c ≠ 56 → c ≠ 57 → c ≠ 58 → c ≠ 59 → m c = m0 c)
theorem cFz_of {m0 m : gx_M} (h : cFr m0 m) : cFz m0 m := fun c h1 h2 h3 h4 _ _ _ _ => h.1 c h1 h2 h3 h4
theorem cFz_t {m m1 m2 : gx_M} (h : cFz m m1) (h' : cFz m1 m2) : cFz m m2 := fun c a b d e f g i j => (h' c a b d e f g i j).trans (h c a b d e f g i j)
theorem cS_re {T : Nat → Int} {L p : Nat} {m0 m : gx_M} {K : hCode} (h : cS T L m0 p K m) : cS T L m p K m := ⟨h.1, h.2.1, ⟨fun _ _ _ _ _ => rfl, fun _ _ => rfl⟩, h.2.2.2⟩
theorem cCl_fr {m0 m : gx_M} {CL : List hCl} (h : cCl CL m0) (f : cFr m0 m) : cCl CL m := by
  refine ⟨by rw [f.2 7 (by decide)]; exact h.1, fun i c hc => ?_⟩
  rw [f.1 56 (by decide) (by decide) (by decide) (by decide), f.1 57 (by decide) (by decide) (by decide) (by decide), f.1 58 (by decide) (by decide) (by decide) (by decide), f.1 59 (by decide) (by decide) (by decide) (by decide)]
  exact h.2 i c hc
section CC
variable {xs : List Int32} {n : Nat} {Q : hQ} {T : Nat → Int} {L p : Nat} {m0 m : gx_M} {K : hCode} {CL : List hCl}
theorem c27 {i : Nat} (hS : cS T L m p K m) (hC : cCl CL m) (hi : i = CL.length) (h16 : i ≤ 16) (h1 : ∀ p' K' c m', lCl T L p K p' K' c → i < 16 → cS T L m' p' K' m' → cCl (CL ++ [c]) m' → cFz m m' → Q (some (.inl 1)) m') (h0 : ∀ f m', lCF T L i p K f → m' 3 4 = f → cFz m m' → Q (some (.inl 0)) m') : hxn xs n yp_m27 0 [(0, .inr (.inl 52)), (1, .inr (.inl 3)), (2, .inl (i : Int))] [] m Q := by
  have hsg := cs_sg hS
  have hpl := cs_pl hS
  have hkl := cs_kl hS
  have conp : ∀ p1 K1 m2, isKd (tx T L p) → i < 16 → lHd T L p K p1 K1 → cS T L m p1 K1 m2 → hxn xs n yp_m37 0 [(0, .inr (.inl 3)), (1, .inl 40)] [] m2 (fun r m' => hxn xs n yp_m27 101 [(0, .inr (.inl 52)), (1, .inr (.inl 3)), (3, .inl (tx T L p)), (4, .inl (K.length : Int)), (5, .inl (K1.length : Int))] (hrs r ++ []) m' Q) := fun p1 K1 m2 hkd hi16 hh s2 => by
    refine cs37 s2 (by decide) (fun t m3 s3 => ?_) (fun t m3 f3 => ?_)
    · refine hx_dn (hr27_101 (s0 := 1) (fun c => absurd c (by decide)) (fun _ => ?_))
      refine c_conA 1 (p1 + 1) K1 m3 _ (by decide) s3 ⟨fun p2 K2 m4 d e s4 => ?_, fun f m4 d f4 => ?_⟩
      · refine hx_dn (hr27_110 (s0 := 1) (fun c => absurd c (by decide)) (fun _ => ?_))
        refine cs37 s4 (by decide) (fun t2 m5 s5 => ?_) (fun t2 m5 f5 => ?_)
        · refine hx_dn (hr27_119 (s0 := 1) (fun _ => ?_) (fun c => absurd c (by decide)))
          have c5 := cCl_fr hC s5.2.2.1
          have k5 := s5.2.1.1
          have e7 : m5 53 7 = (i : Int) := by rw [c5.1, hi]
          refine hx_dn (hr45_0 (fun c => absurd c (by omega)) (fun _ _ => ?_) (fun _ c => absurd c (by omega)))
          rw [e7, Int.toNat_natCast]
          refine hx_dn (hr27_136 (h1 (p2 + 1) K2 (tx T L p, K.length, K1.length, K2.length) _ ⟨hkd, p1, K1, p2, hh, t, d, t2, rfl, rfl⟩ hi16 ?_ ?_ ?_))
          · obtain ⟨⟨t1, t2, t3, t4, t5⟩, ⟨k1, k2⟩, -, a⟩ := s5
            refine ⟨⟨?_, ?_, ?_, ?_, fun k hk => ?_⟩, ⟨?_, fun i' c hc => ?_⟩, ⟨fun _ _ _ _ _ => rfl, fun _ _ => rfl⟩, a⟩
            · rw [gx_u_ne (by omega), gx_u_ne (by omega), gx_u_ne (by omega), gx_u_ne (by omega), gx_u_ne (by omega)]
              exact t1
            · rw [gx_u_ne (by omega), gx_u_ne (by omega), gx_u_ne (by omega), gx_u_ne (by omega), gx_u_ne (by omega)]
              exact t2
            · rw [gx_u_ne (by omega), gx_u_ne (by omega), gx_u_ne (by omega), gx_u_ne (by omega), gx_u_ne (by omega)]
              exact t3
            · rw [gx_u_ne (by omega), gx_u_ne (by omega), gx_u_ne (by omega), gx_u_ne (by omega), gx_u_ne (by omega)]
              exact t4
            · rw [gx_u_ne (by omega), gx_u_ne (by omega), gx_u_ne (by omega), gx_u_ne (by omega), gx_u_ne (by omega)]
              exact t5 k hk
            · rw [gx_u_ne (by omega), gx_u_ne (by omega), gx_u_ne (by omega), gx_u_ne (by omega), gx_u_ne (by omega)]
              exact k1
            · rw [gx_u_ne (by omega), gx_u_ne (by omega), gx_u_ne (by omega), gx_u_ne (by omega), gx_u_ne (by omega), gx_u_ne (by omega), gx_u_ne (by omega), gx_u_ne (by omega), gx_u_ne (by omega), gx_u_ne (by omega)]
              exact k2 i' c hc
          · refine ⟨?_, fun i' c hc => ?_⟩
            · rw [gx_u_self, List.length_append, List.length_singleton]
              omega
            · rcases lg_app hc with hc | ⟨rfl, rfl⟩
              · have hlt := lg_lt hc
                obtain ⟨q1, q2, q3, q4⟩ := c5.2 i' c hc
                refine ⟨?_, ?_, ?_, ?_⟩
                · rw [gx_u_ne (by omega), gx_u_ne (by omega), gx_u_ne (by omega), gx_u_ne (by omega), gx_u_ne (by omega)]
                  exact q1
                · rw [gx_u_ne (by omega), gx_u_ne (by omega), gx_u_ne (by omega), gx_u_ne (by omega), gx_u_ne (by omega)]
                  exact q2
                · rw [gx_u_ne (by omega), gx_u_ne (by omega), gx_u_ne (by omega), gx_u_ne (by omega), gx_u_ne (by omega)]
                  exact q3
                · rw [gx_u_ne (by omega), gx_u_ne (by omega), gx_u_ne (by omega), gx_u_ne (by omega), gx_u_ne (by omega)]
                  exact q4
              · subst hi
                refine ⟨?_, ?_, ?_, ?_⟩
                · rw [gx_u_ne (by omega), gx_u_ne (by omega), gx_u_ne (by omega), gx_u_ne (by omega), gx_u_self]
                · rw [gx_u_ne (by omega), gx_u_ne (by omega), gx_u_ne (by omega), gx_u_self]
                · rw [gx_u_ne (by omega), gx_u_ne (by omega), gx_u_self]
                · rw [gx_u_ne (by omega), gx_u_self]
                  exact k5
          · intro c a1 a2 a3 a4 a5 a6 a7 a8
            funext k
            rw [gx_u_ne (by omega), gx_u_ne (by omega), gx_u_ne (by omega), gx_u_ne (by omega), gx_u_ne (by omega)]
            exact congrFun (s5.2.2.1.1 c a1 a2 a3 a4) k
        · exact hx_dn (hr27_119 (s0 := 0) (fun c => absurd rfl c) (fun _ => h0 _ m5 (.inr (.inr (.inr ⟨hkd, hi16, p1, K1, hh, .inr (.inr ⟨t, p2, K2, d, e.2.2.2 rfl, t2, rfl⟩)⟩))) f5.1 (cFz_of f5.2)))
      · exact hx_dn (hr27_110 (s0 := 0) (fun _ => h0 _ m4 (.inr (.inr (.inr ⟨hkd, hi16, p1, K1, hh, .inr (.inl ⟨t, d⟩)⟩))) f4.1 (cFz_of f4.2)) (fun c => absurd rfl c))
    · exact hx_dn (hr27_101 (s0 := 0) (fun _ => h0 _ m3 (.inr (.inr (.inr ⟨hkd, hi16, p1, K1, hh, .inl ⟨t, rfl⟩⟩))) f3.1 (cFz_of f3.2)) (fun c => absurd rfl c))
  have go : isKd (tx T L p) → i < 16 → hxn xs n yp_m30 0 [(0, .inr (.inl 3))] [] m (fun r m' => hxn xs n yp_m27 60 [(0, .inr (.inl 52)), (1, .inr (.inl 3)), (3, .inl (tx T L p))] (hrs r ++ []) m' Q) := fun hkd hi16 => by
    refine cs30 hS (tx_lt (fun e => by rw [e] at hkd; unfold isKd at hkd; omega)) (fun m1 s1 => ?_)
    refine hx_dn (hr27_60 (fun c => ?_) (fun c => ?_))
    · rw [s1.2.1.1]
      exact conp (p + 1) K m1 hkd hi16 (.inl ⟨c, rfl, rfl⟩) s1
    · rw [s1.2.1.1]
      refine c_sumA 0 (p + 1) K m1 _ (by decide) s1 ⟨fun p1 K1 m2 d e s2 => ?_, fun f m2 d f2 => ?_⟩
      · refine hx_dn (hr27_81 (s0 := 1) (fun _ => ?_) (fun c => absurd c (by decide)))
        rw [s2.2.1.1]
        exact conp p1 K1 m2 hkd hi16 (.inr ⟨c, d, e.2.1 rfl⟩) s2
      · exact hx_dn (hr27_81 (s0 := 0) (fun c => absurd rfl c) (fun _ => h0 _ m2 (.inr (.inr (.inl ⟨hkd, hi16, c, d⟩))) f2.1 (cFz_of f2.2)))
  have fr : isKd (tx T L p) → 16 ≤ i → hxn xs n yp_m29 0 [(0, .inr (.inl 3)), (1, .inl 4), (2, .inl (p : Int))] [] m (fun r m' => hxn xs n yp_m27 55 [] (hrs r ++ []) m' Q) := fun hkd hi16 =>
    cs29 hS (by decide) (fun m1 f1 => hx_dn (hr27_55 (h0 _ m1 (.inr (.inl ⟨hkd, hi16, rfl⟩)) f1.1 (cFz_of f1.2))))
  refine hx_dn (hr27_0 (fun c d => ?_) (fun c d => ?_) (fun _ c d => ?_) (fun _ c d => ?_) (fun _ _ c d => ?_) (fun _ _ c d => ?_) (fun _ _ _ c d => ?_) (fun _ _ _ c d => ?_) (fun _ _ _ _ c d => ?_) (fun _ _ _ _ c d => ?_) (fun a b c d e => ?_))
  · rw [hsg] at c ⊢
    exact go (.inl c) (by omega)
  · rw [hsg] at c
    rw [hpl]
    exact fr (.inl c) (by omega)
  · rw [hsg] at c ⊢
    exact go (.inr (.inl c)) (by omega)
  · rw [hsg] at c
    rw [hpl]
    exact fr (.inr (.inl c)) (by omega)
  · rw [hsg] at c ⊢
    exact go (.inr (.inr (.inl c))) (by omega)
  · rw [hsg] at c
    rw [hpl]
    exact fr (.inr (.inr (.inl c))) (by omega)
  · rw [hsg] at c ⊢
    exact go (.inr (.inr (.inr (.inl c)))) (by omega)
  · rw [hsg] at c
    rw [hpl]
    exact fr (.inr (.inr (.inr (.inl c)))) (by omega)
  · rw [hsg] at c ⊢
    exact go (.inr (.inr (.inr (.inr c)))) (by omega)
  · rw [hsg] at c
    rw [hpl]
    exact fr (.inr (.inr (.inr (.inr c)))) (by omega)
  · rw [hsg] at a b c d e
    refine cs28 hS (fun m1 f1 => hx_dn (hr27_39 (h0 _ m1 (.inl ⟨?_, rfl⟩) f1.1 (cFz_of f1.2))))
    unfold isKd
    omega
theorem c26l (h1 : ∀ K CL m', lOk T L K CL → cS T L m' L K m' → cCl CL m' → cFz m0 m' → Q (some (.inl 1)) m') (h0 : ∀ f m', lWr T L f → m' 3 4 = f → cFz m0 m' → Q (some (.inl 0)) m') : ∀ e i : Nat, i + e = 16 → ∀ p0 ps K CL m, lLs T L i p0 K CL → lSep T L i p0 ps → cS T L m ps K m → cCl CL m → cFz m0 m → hxn xs n yp_m26 18 [(0, .inr (.inl 52)), (1, .inr (.inl 3)), (2, .inl (i : Int))] [] m Q := by
  intro e
  induction e with
  | zero =>
    intro i hi p0 ps K CL m hl hs hS hC hF
    refine hx_dn (hr26_18 (by omega) (fun _ => ?_))
    refine c27 hS hC (lLs_len hl).symm (by omega) (fun p' K' c m' hc hi16 => by omega) (fun f m' hf h4 hz => ?_)
    exact hx_dn (hr26_30 (s0 := 0) (by omega) (fun c => absurd rfl c) (fun _ => h0 f m' (.inl ⟨i, p0, K, CL, ps, by omega, hl, hs, hf⟩) h4 (cFz_t hF hz)))
  | succ e il =>
    intro i hi p0 ps K CL m hl hs hS hC hF
    refine hx_dn (hr26_18 (by omega) (fun _ => ?_))
    refine c27 hS hC (lLs_len hl).symm (by omega) (fun p' K' c m' hc hi16 s' c' hz => ?_) (fun f m' hf h4 hz => ?_)
    · have hl' : lLs T L (i + 1) p' K' (CL ++ [c]) := ⟨p0, K, CL, ps, c, hl, hs, hi16, hc, rfl⟩
      have hF' := cFz_t hF hz
      refine hx_dn (hr26_30 (s0 := 1) (by omega) (fun _ => ?_) (fun c => absurd c (by decide)))
      have e1 : m' 3 1 = (L : Int) := s'.1.1
      have e2 := cs_pl s'
      have hle := cs_le s'
      refine hx_dn (hr46_0 (fun c => ?_) (fun c => ?_))
      · refine hx_dn (hr26_39 (s0 := 0) (by omega) (fun _ => ?_) (fun c => absurd rfl c))
        refine cs37 s' (by decide) (fun t m2 s2 => ?_) (fun t m2 f2 => ?_)
        · exact hx_dn (hr26_50 (s0 := 1) (by omega) (fun _ => il (i + 1) (by omega) p' (p' + 1) K' _ m2 hl' (.inr ⟨by omega, t, rfl⟩) (cS_re s2) (cCl_fr c' s2.2.2.1) (cFz_t hF' (cFz_of s2.2.2.1))) (fun c => absurd c (by decide)))
        · exact hx_dn (hr26_50 (s0 := 0) (by omega) (fun c => absurd rfl c) (fun _ => h0 _ m2 (.inr ⟨i, p', K', _, hl', by omega, t, rfl⟩) f2.1 (cFz_t hF' (cFz_of f2.2))))
      · have e : p' = L := by omega
        subst e
        exact hx_dn (hr26_39 (s0 := 1) (by omega) (fun c => absurd c (by decide)) (fun _ => h1 K' _ m' ⟨i, hl'⟩ s' c' hF'))
    · exact hx_dn (hr26_30 (s0 := 0) (by omega) (fun c => absurd rfl c) (fun _ => h0 f m' (.inl ⟨i, p0, K, CL, ps, by omega, hl, hs, hf⟩) h4 (cFz_t hF hz)))
theorem c26 (hT : cTx T L 0 m) (hL : L ≤ 240) (h1 : ∀ K CL m', lOk T L K CL → cS T L m' L K m' → cCl CL m' → cFz m m' → Q (some (.inl 1)) m') (h0 : ∀ f m', lWr T L f → m' 3 4 = f → cFz m m' → Q (some (.inl 0)) m') : hxn xs n yp_m26 0 [(0, .inr (.inl 52)), (1, .inr (.inl 3))] [] m Q := by
  refine hx_dn (hr26_0 ?_)
  obtain ⟨t1, t2, t3, t4, t5⟩ := hT
  refine c26l h1 h0 16 0 rfl 0 0 [] [] _ ⟨rfl, rfl, rfl⟩ (.inl ⟨rfl, rfl⟩) ⟨⟨?_, ?_, ?_, ?_, fun k hk => ?_⟩, ⟨?_, fun i c hc => by cases hc⟩, ⟨fun _ _ _ _ _ => rfl, fun _ _ => rfl⟩, Nat.zero_le _, hL, Nat.le_refl _⟩ ⟨?_, fun i c hc => by cases hc⟩ (fun c a1 a2 a3 a4 a5 a6 a7 a8 => ?_)
  · rw [gx_u_ne (by omega), gx_u_ne (by omega)]
    exact t1
  · rw [gx_u_ne (by omega), gx_u_ne (by omega)]
    exact t2
  · rw [gx_u_ne (by omega), gx_u_ne (by omega)]
    exact t3
  · rw [gx_u_ne (by omega), gx_u_ne (by omega)]
    exact t4
  · rw [gx_u_ne (by omega), gx_u_ne (by omega)]
    exact t5 k hk
  · rw [gx_u_ne (by omega), gx_u_self]
    rfl
  · rw [gx_u_self]
    rfl
  · funext k
    rw [gx_u_ne (by omega), gx_u_ne (by omega)]
/-- a text is taken from the tape -/
theorem cs24 {N : Nat} (hN : 1 ≤ N ∧ N ≤ 240) (h : ∀ m', cTx (m 2) N 0 m' → m' 1 1 = 0 → (∀ c k, c ≠ 3 → c ≠ 4 → ¬ (c = 1 ∧ k = 1) → m' c k = m c k) → Q none m') : hxn xs n yp_m24 0 [(0, .inr (.inl 3)), (1, .inr (.inl 1)), (2, .inl (N : Int))] [] m Q := by
  refine hx_dn (hr24_0 ?_)
  rw [if_neg (show ¬ (260 : Int) < (N : Int) by omega), if_pos (show (0 : Int) < (N : Int) by omega), Int.toNat_natCast]
  obtain ⟨M, hM⟩ : ∃ M, M = gx_u (gx_u (hcopy (gx_u m 3 1 (N : Int)) 2 0 4 0 N) 1 1 0) 3 2 0 := ⟨_, rfl⟩
  rw [← hM]
  have e1 : M 3 1 = (N : Int) := by rw [hM, gx_u_ne (by omega), gx_u_ne (by omega), hcopy_ne (by decide), gx_u_self]
  have e4 : ∀ k, k < N → M 4 k = m 2 k := fun k hk => by rw [hM, gx_u_ne (by omega), gx_u_ne (by omega), hcopy_at hk, gx_u_ne (by omega)]
  refine cs25 (p := 0) (T := m 2) (L := N) e1 e4 hN.2 ?_
  show hxn xs n yp_m24 48 _ [.inl (tx (m 2) N 0), .inr (.inl 3)] M Q
  refine hx_dn (hr24_48 (h _ ⟨?_, ?_, ?_, ?_, fun k hk => ?_⟩ ?_ (fun c k c1 c2 c3 => ?_)))
  · rw [gx_u_ne (by omega), gx_u_ne (by omega)]
    exact e1
  · rw [gx_u_ne (by omega), gx_u_ne (by omega), hM, gx_u_self]
    rfl
  · rw [gx_u_ne (by omega), gx_u_self]
  · rw [gx_u_self]
  · rw [gx_u_ne (by omega), gx_u_ne (by omega)]
    exact e4 k hk
  · rw [gx_u_ne (by omega), gx_u_ne (by omega), hM, gx_u_ne (by omega), gx_u_self]
  · rw [gx_u_ne (by omega), gx_u_ne (by omega), hM, gx_u_ne (by omega), gx_u_ne (by omega), hcopy_ne c2, gx_u_ne (by omega)]
/-- what the class's law answers, and what stands then -/
def cLw (K : hCode) (CL : List hCl) (m : gx_M) : Prop := m 44 7 = (CL.length : Int) ∧ (∀ i c, K[i]? = some c → m 45 i = c.1 ∧ m 46 i = c.2) ∧ ∀ i c, CL[i]? = some c → m 47 i = c.1 ∧ m 48 i = (c.2.1 : Int) ∧ m 49 i = (c.2.2.1 : Int) ∧ m 50 i = (c.2.2.2 : Int)
def cFl (m m' : gx_M) : Prop := ∀ c k, c ≠ 3 → c ≠ 4 → c ≠ 53 → c ≠ 54 → c ≠ 55 → c ≠ 56 → c ≠ 57 → c ≠ 58 → c ≠ 59 → ¬ (c = 1 ∧ k = 1) → m' c k = m c k
theorem lLs_16 {T : Nat → Int} {L : Nat} : ∀ {j p : Nat} {K : hCode} {CL : List hCl}, lLs T L j p K CL → j ≤ 16
  | 0, _, _, _, _ => Nat.zero_le _
  | j + 1, _, _, _, h => by
    obtain ⟨p0, K0, CL0, ps, c, -, -, h3, -⟩ := h
    omega
theorem c22 {N : Nat} (hN : 1 ≤ N ∧ N ≤ 240) (ht : (N : Int) ≤ m 1 1) (h1 : ∀ K CL m', lOk (m 2) N K CL → cLw K CL m' → m' 1 1 = 0 → (∀ c k, c ≠ 45 → c ≠ 46 → c ≠ 47 → c ≠ 48 → c ≠ 49 → c ≠ 50 → ¬ (c = 44 ∧ k = 7) → c ≠ 3 → c ≠ 4 → c ≠ 53 → c ≠ 54 → c ≠ 55 → c ≠ 56 → c ≠ 57 → c ≠ 58 → c ≠ 59 → ¬ (c = 1 ∧ k = 1) → m' c k = m c k) → Q (some (.inl (CL.length : Int))) m') (h0 : ∀ f m', lWr (m 2) N f → m' 1 1 = 0 → cFl m m' → Q (some (.inl f)) m') : hxn xs n yp_m22 0 [(0, .inr (.inl 0)), (1, .inl (N : Int))] [] m Q := by
  refine hx_dn (hr22_0 (hx_dn (hr23_0 (fun c => absurd c (by omega)) (fun _ c => absurd c (by omega)) (fun _ _ c => absurd c (by omega)) (fun _ _ _ => ?_))))
  refine hx_dn (hr22_11 (s0 := 1) (fun _ => ?_) (fun c => absurd c (by decide)))
  refine cs24 hN (fun m1 t1 z1 f1 => ?_)
  refine hx_dn (hr22_28 ?_)
  refine c26 t1 hN.2 (fun K CL m2 ok s2 c2 f2 => ?_) (fun f m2 wr h4 f2 => ?_)
  · refine hx_dn (hr22_39 (s0 := 1) (fun _ => ?_) (fun c => absurd c (by decide)))
    refine hx_dn (hr47_0 ?_)
    obtain ⟨M, hM⟩ : ∃ M, M = gx_u (hcopy (hcopy (hcopy (hcopy (hcopy (hcopy m2 54 0 45 0 240) 55 0 46 0 240) 56 0 47 0 16) 57 0 48 0 16) 58 0 49 0 16) 59 0 50 0 16) 44 7 ((hcopy (hcopy (hcopy (hcopy (hcopy (hcopy m2 54 0 45 0 240) 55 0 46 0 240) 56 0 47 0 16) 57 0 48 0 16) 58 0 49 0 16) 59 0 50 0 16) 53 7) := ⟨_, rfl⟩
    rw [← hM]
    have hkl := cs_kl s2
    obtain ⟨j, hj⟩ := ok
    have hcl := lLs_len hj
    have h16 := lLs_16 hj
    have e7 : M 44 7 = (CL.length : Int) := by
      rw [hM, gx_u_self, hcopy_ne (by decide), hcopy_ne (by decide), hcopy_ne (by decide), hcopy_ne (by decide), hcopy_ne (by decide), hcopy_ne (by decide)]
      exact c2.1
    refine hx_dn (hr22_64 ?_)
    rw [e7]
    refine h1 K CL M ⟨j, hj⟩ ⟨e7, fun i c hc => ?_, fun i c hc => ?_⟩ ?_ (fun c k a1 a2 a3 a4 a5 a6 a7 b1 b2 b3 b4 b5 b6 b7 b8 b9 b10 => ?_)
    · have hlt := lk_lt hc
      refine ⟨?_, ?_⟩
      · rw [hM, gx_u_ne (by omega), hcopy_ne (by decide), hcopy_ne (by decide), hcopy_ne (by decide), hcopy_ne (by decide), hcopy_ne (by decide), hcopy_at (by omega)]
        exact (s2.2.1.2 i c hc).1
      · rw [hM, gx_u_ne (by omega), hcopy_ne (by decide), hcopy_ne (by decide), hcopy_ne (by decide), hcopy_ne (by decide), hcopy_at (by omega), hcopy_ne (by decide)]
        exact (s2.2.1.2 i c hc).2
    · have hlt := lg_lt hc
      obtain ⟨q1, q2, q3, q4⟩ := c2.2 i c hc
      refine ⟨?_, ?_, ?_, ?_⟩
      · rw [hM, gx_u_ne (by omega), hcopy_ne (by decide), hcopy_ne (by decide), hcopy_ne (by decide), hcopy_at (by omega), hcopy_ne (by decide), hcopy_ne (by decide)]
        exact q1
      · rw [hM, gx_u_ne (by omega), hcopy_ne (by decide), hcopy_ne (by decide), hcopy_at (by omega), hcopy_ne (by decide), hcopy_ne (by decide), hcopy_ne (by decide)]
        exact q2
      · rw [hM, gx_u_ne (by omega), hcopy_ne (by decide), hcopy_at (by omega), hcopy_ne (by decide), hcopy_ne (by decide), hcopy_ne (by decide), hcopy_ne (by decide)]
        exact q3
      · rw [hM, gx_u_ne (by omega), hcopy_at (by omega), hcopy_ne (by decide), hcopy_ne (by decide), hcopy_ne (by decide), hcopy_ne (by decide), hcopy_ne (by decide)]
        exact q4
    · rw [hM, gx_u_ne (by omega), hcopy_ne (by decide), hcopy_ne (by decide), hcopy_ne (by decide), hcopy_ne (by decide), hcopy_ne (by decide), hcopy_ne (by decide), f2 1 (by decide) (by decide) (by decide) (by decide) (by decide) (by decide) (by decide) (by decide)]
      exact z1
    · rw [hM, gx_u_ne a7, hcopy_ne a6, hcopy_ne a5, hcopy_ne a4, hcopy_ne a3, hcopy_ne a2, hcopy_ne a1, f2 c b1 b3 b4 b5 b6 b7 b8 b9]
      exact f1 c k b1 b2 b10
  · refine hx_dn (hr22_39 (s0 := 0) (fun c => absurd rfl c) (fun _ => ?_))
    rw [h4]
    refine h0 f m2 wr ?_ (fun c k b1 b2 b3 b4 b5 b6 b7 b8 b9 b10 => ?_)
    · rw [f2 1 (by decide) (by decide) (by decide) (by decide) (by decide) (by decide) (by decide) (by decide)]
      exact z1
    · rw [f2 c b1 b3 b4 b5 b6 b7 b8 b9]
      exact f1 c k b1 b2 b10
theorem c22n {N : Int} (hN : ¬ (1 ≤ N ∧ N ≤ 240 ∧ N ≤ m 1 1)) (h : Q (some (.inl (-1))) m) : hxn xs n yp_m22 0 [(0, .inr (.inl 0)), (1, .inl N)] [] m Q := by
  have fin : hxn xs n yp_m22 11 [(0, .inr (.inl 0)), (1, .inl N)] [.inl 0] m Q := hx_dn (hr22_11 (s0 := 0) (fun c => absurd rfl c) (fun _ => h))
  exact hx_dn (hr22_0 (hx_dn (hr23_0 (fun _ => fin) (fun _ _ => fin) (fun _ _ _ => fin) (fun a b c => absurd ⟨a, b, c⟩ hN))))
end CC
end
