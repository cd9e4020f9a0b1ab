/-! what is wrong with a text, the first from the left -/
def lRulE (T : Nat → Int) (L : Nat) (P : Nat → Nat → Nat → hCode → Int → Prop) : Prop :=
  (∀ o p K, ¬ isDg (tx T L p) → tx T L p ≠ 91 → ¬ isLt (tx T L p) → P 0 o p K (lfl 1 p)) ∧
  (∀ o p K, (∀ i, i < 6 → isDg (tx T L (p + i))) → P 0 o p K (lfl 2 (p + 5))) ∧
  (∀ o p K, tx T L p = 91 → 6 ≤ o → P 0 o p K (lfl 5 p)) ∧
  (∀ o p K f, tx T L p = 91 → o < 6 → P 2 (o + 1) (p + 1) K f → P 0 o p K f) ∧
  (∀ o p K p1 K1, tx T L p = 91 → o < 6 → lD T L 2 (o + 1) (p + 1) K p1 K1 → ¬ isSm (tx T L p1) → tx T L p1 ≠ 93 → P 0 o p K (lfl 1 p1)) ∧
  (∀ o p K f, P 0 o p K f → P 1 o p K f) ∧
  (∀ o p K p1 K1 f, lD T L 1 o p K p1 K1 → isPr (tx T L p1) → P 0 o (p1 + 1) K1 f → P 1 o p K f) ∧
  (∀ o p K f, P 1 o p K f → P 2 o p K f) ∧
  (∀ o p K p1 K1 f, lD T L 2 o p K p1 K1 → isSm (tx T L p1) → P 1 o (p1 + 1) K1 f → P 2 o p K f) ∧
  (∀ o p K, tx T L p = 33 ∨ tx T L p = 40 → 6 ≤ o → P 3 o p K (lfl 5 p)) ∧
  (∀ o p K f, tx T L p = 40 → o < 6 → P 5 (o + 1) (p + 1) K f → P 3 o p K f) ∧
  (∀ o p K p1 K1, tx T L p = 40 → o < 6 → lD T L 5 (o + 1) (p + 1) K p1 K1 → tx T L p1 ≠ 124 → tx T L p1 ≠ 41 → P 3 o p K (lfl 1 p1)) ∧
  (∀ o p K f, tx T L p = 33 → o < 6 → P 3 (o + 1) (p + 1) K f → P 3 o p K f) ∧
  (∀ o p K f, tx T L p ≠ 33 → tx T L p ≠ 40 → P 2 o p K f → P 3 o p K f) ∧
  (∀ o p K p1 K1, tx T L p ≠ 33 → tx T L p ≠ 40 → lD T L 2 o p K p1 K1 → ¬ isSm (tx T L p1) → ¬ isCm (tx T L p1) → P 3 o p K (lfl 1 p1)) ∧
  (∀ o p K p1 K1 f, tx T L p ≠ 33 → tx T L p ≠ 40 → lD T L 2 o p K p1 K1 → isCm (tx T L p1) → P 2 o (p1 + 1) K1 f → P 3 o p K f) ∧
  (∀ o p K f, P 3 o p K f → P 4 o p K f) ∧
  (∀ o p K p1 K1 f, lD T L 4 o p K p1 K1 → tx T L p1 = 38 → P 3 o (p1 + 1) (K1 ++ [(38, 0)]) f → P 4 o p K f) ∧
  (∀ o p K f, P 4 o p K f → P 5 o p K f) ∧
  (∀ o p K p1 K1 f, lD T L 5 o p K p1 K1 → tx T L p1 = 124 → P 4 o (p1 + 1) (K1 ++ [(124, 0)]) f → P 5 o p K f)
def lE (T : Nat → Int) (L k o p : Nat) (K : hCode) (f : Int) : Prop := ∀ P, lRulE T L P → P k o p K f
theorem lE_rul (T : Nat → Int) (L : Nat) : lRulE T L (lE T L) := by
  refine ⟨?_, ?_, ?_, ?_, ?_, ?_, ?_, ?_, ?_, ?_, ?_, ?_, ?_, ?_, ?_, ?_, ?_, ?_, ?_, ?_⟩
  · exact fun o p K a b c P h => h.1 o p K a b c
  · exact fun o p K a P h => h.2.1 o p K a
  · exact fun o p K a b P h => h.2.2.1 o p K a b
  · exact fun o p K f a b c P h => h.2.2.2.1 o p K f a b (c P h)
  · exact fun o p K p1 K1 a b c d e P h => h.2.2.2.2.1 o p K p1 K1 a b c d e
  · exact fun o p K f a P h => h.2.2.2.2.2.1 o p K f (a P h)
  · exact fun o p K p1 K1 f a b c P h => h.2.2.2.2.2.2.1 o p K p1 K1 f a b (c P h)
  · exact fun o p K f a P h => h.2.2.2.2.2.2.2.1 o p K f (a P h)
  · exact fun o p K p1 K1 f a b c P h => h.2.2.2.2.2.2.2.2.1 o p K p1 K1 f a b (c P h)
  · exact fun o p K a b P h => h.2.2.2.2.2.2.2.2.2.1 o p K a b
  · exact fun o p K f a b c P h => h.2.2.2.2.2.2.2.2.2.2.1 o p K f a b (c P h)
  · exact fun o p K p1 K1 a b c d e P h => h.2.2.2.2.2.2.2.2.2.2.2.1 o p K p1 K1 a b c d e
  · exact fun o p K f a b c P h => h.2.2.2.2.2.2.2.2.2.2.2.2.1 o p K f a b (c P h)
  · exact fun o p K f a b c P h => h.2.2.2.2.2.2.2.2.2.2.2.2.2.1 o p K f a b (c P h)
  · exact fun o p K p1 K1 a b c d e P h => h.2.2.2.2.2.2.2.2.2.2.2.2.2.2.1 o p K p1 K1 a b c d e
  · exact fun o p K p1 K1 f a b c d e P h => h.2.2.2.2.2.2.2.2.2.2.2.2.2.2.2.1 o p K p1 K1 f a b c d (e P h)
  · exact fun o p K f a P h => h.2.2.2.2.2.2.2.2.2.2.2.2.2.2.2.2.1 o p K f (a P h)
  · exact fun o p K p1 K1 f a b c P h => h.2.2.2.2.2.2.2.2.2.2.2.2.2.2.2.2.2.1 o p K p1 K1 f a b (c P h)
  · exact fun o p K f a P h => h.2.2.2.2.2.2.2.2.2.2.2.2.2.2.2.2.2.2.1 o p K f (a P h)
  · exact fun o p K p1 K1 f a b c P h => h.2.2.2.2.2.2.2.2.2.2.2.2.2.2.2.2.2.2.2 o p K p1 K1 f a b (c P h)
