/-! sets in a number's bits; rings -/
theorem gx_bv1 (y : BitVec 32) : (y &&& 1#32).toInt = 1 ↔ y.getLsbD 0 = true := by
  have h1 : (y &&& 1#32).toNat = y.toNat % 2 := by
    rw [BitVec.toNat_and]
    exact Nat.and_one_is_mod _
  have h2 : (y &&& 1#32).toInt = ((y.toNat % 2 : Nat) : Int) := by
    rw [BitVec.toInt_eq_toNat_cond, h1, if_pos (by omega)]
  rw [h2]
  unfold BitVec.getLsbD
  rw [Nat.testBit_zero, decide_eq_true_eq]
  omega
theorem gx_shk : ∀ k : Nat, k < 8 → ((Int32.ofInt (k : Int) &&& 31).toBitVec.smod 32).toNat = k := by decide +kernel
theorem gx_has_iff {s : Int} {k : Nat} (hk : k < 8) : gx_has s (k : Int) ↔ (Int32.ofInt s).toBitVec.getLsbD k = true := by
  unfold gx_has gx_and gx_shr
  rw [Int32.ofInt_toInt]
  show ((Int32.ofInt s >>> (Int32.ofInt (k : Int) &&& 31)).toBitVec &&& 1#32).toInt = 1 ↔ _
  rw [gx_bv1]
  show ((Int32.ofInt s).toBitVec.sshiftRight' ((Int32.ofInt (k : Int) &&& 31).toBitVec.smod 32)).getLsbD 0 = true ↔ _
  unfold BitVec.sshiftRight'
  rw [gx_shk k hk, BitVec.getLsbD_sshiftRight]
  simp only [Nat.add_zero]
  rw [if_pos (by omega)]
  simp
theorem gx_has_not {l g : Int} {k : Nat} (hk : k < 8) : gx_has (gx_and l (gx_xor g (-1))) (k : Int) ↔ gx_has l (k : Int) ∧ ¬ gx_has g (k : Int) := by
  rw [gx_has_iff hk, gx_has_iff hk, gx_has_iff hk]
  unfold gx_and gx_xor
  rw [Int32.ofInt_toInt, Int32.ofInt_toInt]
  show ((Int32.ofInt l).toBitVec &&& ((Int32.ofInt g).toBitVec ^^^ (Int32.ofInt (-1)).toBitVec)).getLsbD k = true ↔ _
  have e : (Int32.ofInt (-1)).toBitVec = BitVec.allOnes 32 := by decide
  rw [e, BitVec.getLsbD_and, BitVec.getLsbD_xor, BitVec.getLsbD_allOnes]
  have : decide (k < 32) = true := by rw [decide_eq_true_eq]; omega
  rw [this]
  cases (Int32.ofInt l).toBitVec.getLsbD k <;> cases (Int32.ofInt g).toBitVec.getLsbD k <;> simp
theorem gx_one_at : ∀ j : Nat, j < 8 → ∀ k : Nat, k < 8 → ((Int32.ofInt (gx_shl 1 (j : Int))).toBitVec.getLsbD k = decide (k = j)) := by decide +kernel
theorem gx_has_or {g : Int} {j k : Nat} (hj : j < 8) (hk : k < 8) : gx_has (gx_or g (gx_shl 1 (j : Int))) (k : Int) ↔ gx_has g (k : Int) ∨ k = j := by
  rw [gx_has_iff hk, gx_has_iff hk]
  unfold gx_or
  rw [Int32.ofInt_toInt]
  show ((Int32.ofInt g).toBitVec ||| (Int32.ofInt (gx_shl 1 (j : Int))).toBitVec).getLsbD k = true ↔ _
  rw [BitVec.getLsbD_or, gx_one_at j hj k hk, Bool.or_eq_true, decide_eq_true_eq]
theorem gx_has_all : ∀ n : Nat, n < 9 → (0 ≤ gx_w (gx_shl 1 (n : Int) - 1) ∧ gx_w (gx_shl 1 (n : Int) - 1) ≤ 255) ∧ ∀ k : Nat, k < 8 → (gx_and (gx_shr (gx_w (gx_shl 1 (n : Int) - 1)) (k : Int)) 1 = 1 → k < n) := by decide +kernel
theorem gx_has_some : ∀ l : Nat, l < 256 → l ≠ 0 → ∃ k : Nat, k < 8 ∧ gx_and (gx_shr (l : Int) (k : Int)) 1 = 1 := by
  have h : ∀ l : Nat, l < 256 → (l ≠ 0 → ((List.range 8).any (fun (k : Nat) => decide (gx_and (gx_shr (l : Int) (k : Int)) 1 = 1))) = true) := by decide +kernel
  intro l hl hn
  obtain ⟨k, hk, hd⟩ := List.any_eq_true.mp (h l hl hn)
  exact ⟨k, List.mem_range.mp hk, of_decide_eq_true hd⟩
theorem gx_has_zero : ∀ k : Nat, k < 8 → ¬ gx_and (gx_shr 0 (k : Int)) 1 = 1 := by decide +kernel
theorem gx_and_le {l y : Int} (h1 : 0 ≤ l) (h2 : l ≤ 2147483647) : 0 ≤ gx_and l y ∧ gx_and l y ≤ l := by
  have := bx_and_bd (Int32.ofInt l) (Int32.ofInt y) (by rw [gx_oi (by omega) h2]; exact h1)
  rw [gx_oi (by omega) h2] at this
  exact this
noncomputable def lr_1 (p : Prop) : Nat := (Classical.propDecidable p).casesOn (fun _ => 0) (fun _ => 1)
theorem lr_1t {p : Prop} (h : p) : lr_1 p = 1 := by
  unfold lr_1
  cases Classical.propDecidable p with
  | isTrue _ => rfl
  | isFalse h' => exact absurd h h'
theorem lr_1f {p : Prop} (h : ¬ p) : lr_1 p = 0 := by
  unfold lr_1
  cases Classical.propDecidable p with
  | isTrue h' => exact absurd h' h
  | isFalse _ => rfl
theorem lr_1le {p q : Prop} (h : q → p) : lr_1 q ≤ lr_1 p := by
  by_cases hq : q
  · rw [lr_1t hq, lr_1t (h hq)]; exact Nat.le_refl _
  · rw [lr_1f hq]; exact Nat.zero_le _
/-- how many of eight -/
noncomputable def lr_c (p : Nat → Prop) : Nat := lr_1 (p 0) + lr_1 (p 1) + lr_1 (p 2) + lr_1 (p 3) + lr_1 (p 4) + lr_1 (p 5) + lr_1 (p 6) + lr_1 (p 7)
theorem lr_c_lt {p q : Nat → Prop} (h : ∀ k, k < 8 → q k → p k) {x : Nat} (hx : x < 8) (h1 : p x) (h2 : ¬ q x) : lr_c q < lr_c p := by
  have g0 := lr_1le (h 0 (by omega)); have g1 := lr_1le (h 1 (by omega)); have g2 := lr_1le (h 2 (by omega)); have g3 := lr_1le (h 3 (by omega))
  have g4 := lr_1le (h 4 (by omega)); have g5 := lr_1le (h 5 (by omega)); have g6 := lr_1le (h 6 (by omega)); have g7 := lr_1le (h 7 (by omega))
  have e1 := lr_1t h1
  have e2 := lr_1f h2
  unfold lr_c
  have : x = 0 ∨ x = 1 ∨ x = 2 ∨ x = 3 ∨ x = 4 ∨ x = 5 ∨ x = 6 ∨ x = 7 := by omega
  rcases this with rfl | rfl | rfl | rfl | rfl | rfl | rfl | rfl <;> omega
/-- two of one more than there are places lie in one place -/
theorem lr_ph : ∀ (n : Nat) (g : Nat → Nat), (∀ i, i ≤ n → g i < n) → ∃ i j, i < j ∧ j ≤ n ∧ g i = g j
  | 0, g, h => absurd (h 0 (Nat.le_refl _)) (Nat.not_lt_zero _)
  | n + 1, g, h => by
    by_cases hex : ∃ i, i ≤ n ∧ g i = g (n + 1)
    · obtain ⟨i, h1, h2⟩ := hex
      exact ⟨i, n + 1, by omega, Nat.le_refl _, h2⟩
    · have hno : ∀ i, i ≤ n → g i ≠ g (n + 1) := fun i hi e => hex ⟨i, hi, e⟩
      obtain ⟨i, j, h1, h2, h3⟩ := lr_ph n (fun i => if g i = n then g (n + 1) else g i) (fun i hi => by
        have := h i (by omega)
        have h' := h (n + 1) (Nat.le_refl _)
        have := hno i hi
        split <;> omega)
      have hi := hno i (by omega)
      have hj := hno j h2
      refine ⟨i, j, h1, by omega, ?_⟩
      split at h3 <;> split at h3 <;> omega
def lr_it (f : Nat → Nat) : Nat → Nat → Nat
  | 0, x => x
  | n + 1, x => f (lr_it f n x)
theorem lr_it_add (f : Nat → Nat) (b x : Nat) : ∀ a : Nat, lr_it f (a + b) x = lr_it f a (lr_it f b x)
  | 0 => by rw [Nat.zero_add]; rfl
  | a + 1 => by
    rw [show a + 1 + b = (a + b) + 1 by omega]
    show f (lr_it f (a + b) x) = f (lr_it f a (lr_it f b x))
    rw [lr_it_add f b x a]
theorem lr_ring {f : Nat → Nat} {S : Nat → Prop} {n x : Nat} (hf : ∀ k, S k → S (f k)) (hS : ∀ k, S k → k < n) (hx : S x) : ∃ y, S y ∧ ∃ i, 1 ≤ i ∧ i ≤ n ∧ lr_it f i y = y := by
  have hit : ∀ i, S (lr_it f i x) := by
    intro i
    induction i with
    | zero => exact hx
    | succ i ih => exact hf _ ih
  obtain ⟨i, j, h1, h2, h3⟩ := lr_ph n (fun i => lr_it f i x) (fun i _ => hS _ (hit i))
  refine ⟨lr_it f i x, hit i, j - i, by omega, by omega, ?_⟩
  rw [← lr_it_add, show j - i + i = j by omega]
  exact h3.symm
