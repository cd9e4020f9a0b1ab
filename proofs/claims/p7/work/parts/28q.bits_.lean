section
/-! sets in a number's bits; rings -/
theorem gx_bv1 (y : BitVec 32) : (y &&& 1#32).toInt = 1 ↔ y.getLsbD 0 = true := by
  have h1 : (y &&& 1#32).toNat = y.toNat % 2 := by
    rw [BitVec.toNat_and]
    exact Nat.and_one_is_mod _
  have h2 : (y &&& 1#32).toInt = ((y.toNat % 2 : Nat) : Int) := by
    rw [BitVec.toInt_eq_toNat_cond, h1, if_pos (by omega)]
  rw [h2]
  unfold BitVec.getLsbD
  rw [Nat.testBit_zero, decide_eq_true_eq]
  omega
theorem gx_shk : ∀ k : Nat, k < 8 → ((Int32.ofInt (k : Int) &&& 31).toBitVec.smod 32).toNat = k := by decide +kernel
theorem gx_has_iff {s : Int} {k : Nat} (hk : k < 8) : gx_has s (k : Int) ↔ (Int32.ofInt s).toBitVec.getLsbD k = true := by
  unfold gx_has gx_and gx_shr
  rw [Int32.ofInt_toInt]
  show ((Int32.ofInt s >>> (Int32.ofInt (k : Int) &&& 31)).toBitVec &&& 1#32).toInt = 1 ↔ _
  rw [gx_bv1]
  show ((Int32.ofInt s).toBitVec.sshiftRight' ((Int32.ofInt (k : Int) &&& 31).toBitVec.smod 32)).getLsbD 0 = true ↔ _
  unfold BitVec.sshiftRight'
  rw [gx_shk k hk, BitVec.getLsbD_sshiftRight]
  simp only [Nat.add_zero]
  rw [if_pos (by omega)]
  simp
theorem gx_has_not {l g : Int} {k : Nat} (hk : k < 8) : gx_has (gx_and l (gx_xor g (-1))) (k : Int) ↔ gx_has l (k : Int) ∧ ¬ gx_has g (k : Int) := by
  rw [gx_has_iff hk, gx_has_iff hk, gx_has_iff hk]
  unfold gx_and gx_xor
  rw [Int32.ofInt_toInt, Int32.ofInt_toInt]
  show ((Int32.ofInt l).toBitVec &&& ((Int32.ofInt g).toBitVec ^^^ (Int32.ofInt (-1)).toBitVec)).getLsbD k = true ↔ _
  have e : (Int32.ofInt (-1)).toBitVec = BitVec.allOnes 32 := by decide
  rw [e, BitVec.getLsbD_and, BitVec.getLsbD_xor, BitVec.getLsbD_allOnes]
  have : decide (k < 32) = true := by rw [decide_eq_true_eq]; omega
  rw [this]
  cases (Int32.ofInt l).toBitVec.getLsbD k <;> cases (Int32.ofInt g).toBitVec.getLsbD k <;> simp
theorem gx_one_at : ∀ j : Nat, j < 8 → ∀ k : Nat, k < 8 → ((Int32.ofInt (gx_shl 1 (j : Int))).toBitVec.getLsbD k = decide (k = j)) := by decide +kernel
theorem gx_has_or {g : Int} {j k : Nat} (hj : j < 8) (hk : k < 8) : gx_has (gx_or g (gx_shl 1 (j : Int))) (k : Int) ↔ gx_has g (k : Int) ∨ k = j := by
  rw [gx_has_iff hk, gx_has_iff hk]
  unfold gx_or
  rw [Int32.ofInt_toInt]
  show ((Int32.ofInt g).toBitVec ||| (Int32.ofInt (gx_shl 1 (j : Int))).toBitVec).getLsbD k = true ↔ _
  rw [BitVec.getLsbD_or, gx_one_at j hj k hk, Bool.or_eq_true, decide_eq_true_eq]
theorem gx_has_all : ∀ n : Nat, n < 9 → (0 ≤ gx_w (gx_shl 1 (n : Int) - 1) ∧ gx_w (gx_shl 1 (n : Int) - 1) ≤ 255) ∧ ∀ k : Nat, k < 8 → (gx_and (gx_shr (gx_w (gx_shl 1 (n : Int) - 1)) (k : Int)) 1 = 1 → k < n) := by decide +kernel
theorem gx_has_some : ∀ l : Nat, l < 256 → l ≠ 0 → ∃ k : Nat, k < 8 ∧ gx_and (gx_shr (l : Int) (k : Int)) 1 = 1 := by
  have h : ∀ l : Nat, l < 256 → (l ≠ 0 → ((List.range 8).any (fun (k : Nat) => decide (gx_and (gx_shr (l : Int) (k : Int)) 1 = 1))) = true) := by decide +kernel
  intro l hl hn
  obtain ⟨k, hk, hd⟩ := List.any_eq_true.mp (h l hl hn)
  exact ⟨k, List.mem_range.mp hk, of_decide_eq_true hd⟩
theorem gx_has_zero : ∀ k : Nat, k < 8 → ¬ gx_and (gx_shr 0 (k : Int)) 1 = 1 := by decide +kernel
theorem gx_and_le {l y : Int} (h1 : 0 ≤ l) (h2 : l ≤ 2147483647) : 0 ≤ gx_and l y ∧ gx_and l y ≤ l := by
  have := bx_and_bd (Int32.ofInt l) (Int32.ofInt y) (by rw [gx_oi (by omega) h2]; exact h1)
  rw [gx_oi (by omega) h2] at this
  exact this
noncomputable def lr_1 (p : Prop) : Nat := (Classical.propDecidable p).casesOn (fun _ => 0) (fun _ => 1)
theorem lr_1t {p : Prop} (h : p) : lr_1 p = 1 := by
  unfold lr_1
  cases Classical.propDecidable p with
  | isTrue _ => rfl
  | isFalse h' => exact absurd h h'
theorem lr_1f {p : Prop} (h : ¬ p) : lr_1 p = 0 := by
  unfold lr_1
  cases Classical.propDecidable p with
  | isTrue h' => exact absurd h' h
  | isFalse _ => rfl
theorem lr_1le {p q : Prop} (h : q → p) : lr_1 q ≤ lr_1 p := by
  by_cases hq : q
  · rw [lr_1t hq, lr_1t (h hq)]; exact Nat.le_refl _
  · rw [lr_1f hq]; exact Nat.zero_le _
/-- how many of eight -/
noncomputable def lr_c (p : Nat → Prop) : Nat := lr_1 (p 0) + lr_1 (p 1) + lr_1 (p 2) + lr_1 (p 3) + lr_1 (p 4) + lr_1 (p 5) + lr_1 (p 6) + lr_1 (p 7)
theorem lr_c_lt {p q : Nat → Prop} (h : ∀ k, k < 8 → q k → p k) {x : Nat} (hx : x < 8) (h1 : p x) (h2 : ¬ q x) : lr_c q < lr_c p := by
  have g0 := lr_1le (h 0 (by omega)); have g1 := lr_1le (h 1 (by omega)); have g2 := lr_1le (h 2 (by omega)); have g3 := lr_1le (h 3 (by omega))
  have g4 := lr_1le (h 4 (by omega)); have g5 := lr_1le (h 5 (by omega)); have g6 := lr_1le (h 6 (by omega)); have g7 := lr_1le (h 7 (by omega))
  have e1 := lr_1t h1
  have e2 := lr_1f h2
  unfold lr_c
  have : x = 0 ∨ x = 1 ∨ x = 2 ∨ x = 3 ∨ x = 4 ∨ x = 5 ∨ x = 6 ∨ x = 7 := by omega
  rcases this with rfl | rfl | rfl | rfl | rfl | rfl | rfl | rfl <;> omega
/-- two of one more than there are places lie in one place -/
theorem lr_ph : ∀ (n : Nat) (g : Nat → Nat), (∀ i, i ≤ n → g i < n) → ∃ i j, i < j ∧ j ≤ n ∧ g i = g j
  | 0, g, h => absurd (h 0 (Nat.le_refl _)) (Nat.not_lt_zero _)
  | n + 1, g, h => by
    by_cases hex : ∃ i, i ≤ n ∧ g i = g (n + 1)
    · obtain ⟨i, h1, h2⟩ := hex
      exact ⟨i, n + 1, by omega, Nat.le_refl _, h2⟩
    · have hno : ∀ i, i ≤ n → g i ≠ g (n + 1) := fun i hi e => hex ⟨i, hi, e⟩
      obtain ⟨i, j, h1, h2, h3⟩ := lr_ph n (fun i => if g i = n then g (n + 1) else g i) (fun i hi => by
        have := h i (by omega)
        have h' := h (n + 1) (Nat.le_refl _)
        have := hno i hi
        split <;> omega)
      have hi := hno i (by omega)
      have hj := hno j h2
      refine ⟨i, j, h1, by omega, ?_⟩
      split at h3 <;> split at h3 <;> omega
def lr_it (f : Nat → Nat) : Nat → Nat → Nat
  | 0, x => x
  | n + 1, x => f (lr_it f n x)
theorem lr_it_add (f : Nat → Nat) (b x : Nat) : ∀ a : Nat, lr_it f (a + b) x = lr_it f a (lr_it f b x)
  | 0 => by rw [Nat.zero_add]; rfl
  | a + 1 => by
    rw [show a + 1 + b = (a + b) + 1 by omega]
    show f (lr_it f (a + b) x) = f (lr_it f a (lr_it f b x))
    rw [lr_it_add f b x a]
theorem lr_ring {f : Nat → Nat} {S : Nat → Prop} {n x : Nat} (hf : ∀ k, S k → S (f k)) (hS : ∀ k, S k → k < n) (hx : S x) : ∃ y, S y ∧ ∃ i, 1 ≤ i ∧ i ≤ n ∧ lr_it f i y = y := by
  have hit : ∀ i, S (lr_it f i x) := by
    intro i
    induction i with
    | zero => exact hx
    | succ i ih => exact hf _ ih
  obtain ⟨i, j, h1, h2, h3⟩ := lr_ph n (fun i => lr_it f i x) (fun i _ => hS _ (hit i))
  refine ⟨lr_it f i x, hit i, j - i, by omega, by omega, ?_⟩
  rw [← lr_it_add, show j - i + i = j by omega]
  exact h3.symm
end
section
/-! roads of methods read by hand, from cut points to the next ones (printed by wip/gen/gxall.py) -/
/-- wants from 0 on -/
theorem gt250_0 {xs : List Int32} {w0 : sx_W} {d : Nat} {Q : gx_Q} {m : gx_M} {x1 x2 : Int}
    (h1 : gx_to xs w0 d yp_m250 8 [(0, .inr 86), (1, .inl x1), (2, .inl x2), (3, .inl (-1)), (4, .inl 0), (5, .inl 0)] [] m Q) : gx_to xs w0 d yp_m250 0 [(0, .inr 86), (1, .inl x1), (2, .inl x2)] [] m Q := by
  refine gx_blk (C := True) (npc := 8) (L' := [(0, .inr 86), (1, .inl x1), (2, .inl x2), (3, .inl (-1)), (4, .inl 0), (5, .inl 0)]) (st' := []) (m' := m) [((0, .iconst (-1), 1, 0, 0, 0, 0), (0, 0, 0)), ((1, .istore_n 3, 1, 0, 0, 0, 0), (0, 0, 0)), ((2, .iconst 0, 1, 0, 0, 0, 0), (0, 0, 0)), ((3, .istore 4, 2, 0, 0, 0, 0), (0, 0, 0)), ((5, .iconst 0, 1, 0, 0, 0, 0), (0, 0, 0)), ((6, .istore 5, 2, 0, 0, 0, 0), (0, 0, 0))] (by decide +kernel) rfl trivial ?_
  exact gx_to_pick [0, 1, 2, 3, 4, 5] h1

/-- wants from 8 on -/
theorem gt250_8 {xs : List Int32} {w0 : sx_W} {d : Nat} {Q : gx_Q} {m : gx_M} {x1 x2 x3 x4 x5 : Int} (hI : gx_I m) (r_x5 : 0 ≤ x5 ∧ x5 ≤ 8)
    (h1 : ((m 86 37) ≤ x5) → Q (some x3) m)
    (h2 : (x5 < (m 86 37)) → gx_to xs w0 d yp_m165 0 [(0, .inl x2), (1, .inl x5)] [] m (fun r m' => gx_to xs w0 (d + 1) yp_m250 23 [(0, .inr 86), (1, .inl x1), (2, .inl x2), (3, .inl x3), (4, .inl x4), (5, .inl x5)] (gx_rs r ++ []) m' Q)) : gx_to xs w0 (d + 1) yp_m250 8 [(0, .inr 86), (1, .inl x1), (2, .inl x2), (3, .inl x3), (4, .inl x4), (5, .inl x5)] [] m Q := by
  have f1 := gx_I_n hI 86 37 0 8 (by decide +kernel)
  refine gx_blk (C := True) (npc := 14) (L' := [(0, .inr 86), (1, .inl x1), (2, .inl x2), (3, .inl x3), (4, .inl x4), (5, .inl x5)]) (st' := [.inl (m 86 37), .inl x5]) (m' := m) [((8, .iload 5, 2, 0, 0, 0, 0), (0, 0, 0)), ((10, .aload_n 0, 1, 0, 0, 0, 0), (0, 0, 0)), ((11, .getfield 346, 3, 10, 37, 5150, 0), (0, 86, 0))] (by decide +kernel) rfl trivial ?_
  refine gx_cmp .ge 85 (by decide +kernel) (fun c1 => ?_) (fun c1 => ?_)
  · have c1 : (m 86 37) ≤ x5 := c1
    refine gx_blk (C := True) (npc := 86) (L' := [(0, .inr 86), (1, .inl x1), (2, .inl x2), (3, .inl x3), (4, .inl x4), (5, .inl x5)]) (st' := [.inl x3]) (m' := m) [((85, .iload_n 3, 1, 0, 0, 0, 0), (0, 0, 0))] (by decide +kernel) rfl trivial ?_
    exact gx_reti (by decide +kernel) (h1 c1)
  · have c1 : x5 < (m 86 37) := by have h : ¬ ((m 86 37) ≤ x5) := c1; omega
    refine gx_blk (C := True) (npc := 20) (L' := [(0, .inr 86), (1, .inl x1), (2, .inl x2), (3, .inl x3), (4, .inl x4), (5, .inl x5)]) (st' := [.inl x5, .inl x2]) (m' := m) [((17, .iload_n 2, 1, 0, 0, 0, 0), (0, 0, 0)), ((18, .iload 5, 2, 0, 0, 0, 0), (0, 0, 0))] (by decide +kernel) rfl trivial ?_
    exact gx_calls (E := (20, .invokestatic 104, 3, 165, 0, 6035, 0)) (M' := yp_m165) [.inl x2, .inl x5] [] rfl (by decide +kernel) rfl ⟨rfl, rfl⟩ rfl rfl (Nat.le_of_ble_eq_true rfl) (Nat.le_of_ble_eq_true rfl) rfl (gx_to_mono (h2 c1) (fun r m' h' => gx_to_pick [0, 1, 2, 3, 4, 5] h'))

/-- wants from 23 on -/
theorem gt250_23 {xs : List Int32} {w0 : sx_W} {d : Nat} {Q : gx_Q} {m : gx_M} {x1 x2 x3 x4 x5 s0 : Int} (hI : gx_I m) (r_x1 : 0 ≤ x1 ∧ x1 ≤ 7) (r_x5 : 0 ≤ x5 ∧ x5 ≤ 7)
    (h1 : (s0 ≠ 0) → gx_to xs w0 d yp_m224 0 [(0, .inr 86), (1, .inl (m 112 (x5).toNat)), (2, .inl (m 87 (240 + (m 112 (x1).toNat)).toNat))] [] m (fun r m' => gx_to xs w0 (d + 1) yp_m250 55 [(0, .inr 86), (1, .inl x1), (2, .inl x2), (3, .inl x3), (4, .inl x4), (5, .inl x5)] (gx_rs r ++ []) m' Q))
    (h2 : (s0 = 0) → gx_to xs w0 (d + 1) yp_m250 8 [(0, .inr 86), (1, .inl x1), (2, .inl x2), (3, .inl x3), (4, .inl x4), (5, .inl (x5 + 1))] [] m Q) : gx_to xs w0 (d + 1) yp_m250 23 [(0, .inr 86), (1, .inl x1), (2, .inl x2), (3, .inl x3), (4, .inl x4), (5, .inl x5)] [.inl s0] m Q := by
  refine gx_if .ne 29 (by decide +kernel) (fun c1 => ?_) (fun c1 => ?_)
  · have c1 : s0 ≠ 0 := c1
    have f1 := gx_I_at hI 112 (z := x5) 0 7 0 39 (by decide +kernel) (by omega) (by omega)
    have f2 := gx_I_at hI 112 (z := x1) 0 7 0 39 (by decide +kernel) (by omega) (by omega)
    have e3 : gx_w (240 + (m 112 (x1).toNat)) = 240 + (m 112 (x1).toNat) := gx_w_id (by omega) (by omega)
    have f4 := gx_I_at hI 87 (z := 240 + (m 112 (x1).toNat)) 240 279 (-2) 7 (by decide +kernel) (by omega) (by omega)
    refine gx_blk (C := (((((True ∧ (0 ≤ x5 ∧ x5 < 8))) ∧ (0 ≤ x1 ∧ x1 < 8))) ∧ (0 ≤ (gx_w (240 + (m 112 (x1).toNat))) ∧ (gx_w (240 + (m 112 (x1).toNat))) < 1131))) (npc := 52) (L' := [(0, .inr 86), (1, .inl x1), (2, .inl x2), (3, .inl x3), (4, .inl x4), (5, .inl x5)]) (st' := [.inl (m 87 (gx_w (240 + (m 112 (x1).toNat))).toNat), .inl (m 112 (x5).toNat), .inr 86]) (m' := m) [((29, .aload_n 0, 1, 0, 0, 0, 0), (0, 0, 0)), ((30, .aload_n 0, 1, 0, 0, 0, 0), (0, 0, 0)), ((31, .getfield 86, 3, 10, 39, 5152, 0), (1, 86, 112)), ((34, .iload 5, 2, 0, 0, 0, 0), (0, 0, 0)), ((36, .iaload, 1, 0, 0, 0, 0), (0, 112, 8)), ((37, .aload_n 0, 1, 0, 0, 0, 0), (0, 0, 0)), ((38, .getfield 7, 3, 10, 0, 5113, 0), (1, 86, 87)), ((41, .sipush 240, 3, 0, 0, 0, 0), (0, 0, 0)), ((44, .aload_n 0, 1, 0, 0, 0, 0), (0, 0, 0)), ((45, .getfield 86, 3, 10, 39, 5152, 0), (1, 86, 112)), ((48, .iload_n 1, 1, 0, 0, 0, 0), (0, 0, 0)), ((49, .iaload, 1, 0, 0, 0, 0), (0, 112, 8)), ((50, .iadd, 1, 0, 0, 0, 0), (0, 0, 0)), ((51, .iaload, 1, 0, 0, 0, 0), (0, 87, 1131))] (by decide +kernel) rfl ⟨⟨⟨trivial, (by omega)⟩, (by omega)⟩, (by rw [e3]; omega)⟩ ?_
    rw [e3]
    exact gx_callv (E := (52, .invokevirtual 312, 3, 224, 0, 7024, 0)) (M' := yp_m224) (c := 86) [.inl (m 112 (x5).toNat), .inl (m 87 (240 + (m 112 (x1).toNat)).toNat)] [] rfl (by decide +kernel) rfl ⟨rfl, rfl⟩ rfl rfl (Nat.le_of_ble_eq_true rfl) (Nat.le_of_ble_eq_true rfl) (by decide +kernel) (gx_to_mono (h1 c1) (fun r m' h' => gx_to_pick [0, 1, 2, 3, 4, 5] h'))
  · have c1 : s0 = 0 := by have h : ¬ (s0 ≠ 0) := c1; omega
    have e5 : gx_w (x5 + 1) = x5 + 1 := gx_w_id (by omega) (by omega)
    refine gx_blk (C := True) (npc := 8) (L' := [(0, .inr 86), (1, .inl x1), (2, .inl x2), (3, .inl x3), (4, .inl x4), (5, .inl (gx_w (x5 + 1)))]) (st' := []) (m' := m) [((26, .goto 53, 3, 0, 0, 0, 0), (0, 0, 0)), ((79, .iinc 5 1, 3, 0, 0, 0, 0), (0, 0, 0)), ((82, .goto (-74), 3, 0, 0, 0, 0), (0, 0, 0))] (by decide +kernel) rfl trivial ?_
    rw [e5]
    exact gx_to_pick [0, 1, 2, 3, 4, 5] (h2 c1)

/-- wants from 55 on -/
theorem gt250_55 {xs : List Int32} {w0 : sx_W} {d : Nat} {Q : gx_Q} {m : gx_M} {x1 x2 x3 x4 x5 s0 : Int} (r_x1 : 0 ≤ x1 ∧ x1 ≤ 7) (r_x5 : 0 ≤ x5 ∧ x5 ≤ 7)
    (h1 : (x3 = (-1)) → gx_to xs w0 d yp_m250 8 [(0, .inr 86), (1, .inl x1), (2, .inl x2), (3, .inl x5), (4, .inl s0), (5, .inl (x5 + 1))] [] m Q)
    (h2 : (x3 ≠ (-1)) → (x4 < s0) → gx_to xs w0 d yp_m250 8 [(0, .inr 86), (1, .inl x1), (2, .inl x2), (3, .inl x5), (4, .inl s0), (5, .inl (x5 + 1))] [] m Q)
    (h3 : (x3 ≠ (-1)) → (s0 ≤ x4) → gx_to xs w0 d yp_m250 8 [(0, .inr 86), (1, .inl x1), (2, .inl x2), (3, .inl x3), (4, .inl x4), (5, .inl (x5 + 1))] [] m Q) : gx_to xs w0 d yp_m250 55 [(0, .inr 86), (1, .inl x1), (2, .inl x2), (3, .inl x3), (4, .inl x4), (5, .inl x5)] [.inl s0] m Q := by
  refine gx_blk (C := True) (npc := 59) (L' := [(0, .inr 86), (1, .inl x1), (2, .inl x2), (3, .inl x3), (4, .inl x4), (5, .inl x5), (6, .inl s0)]) (st' := [.inl (-1), .inl x3]) (m' := m) [((55, .istore 6, 2, 0, 0, 0, 0), (0, 0, 0)), ((57, .iload_n 3, 1, 0, 0, 0, 0), (0, 0, 0)), ((58, .iconst (-1), 1, 0, 0, 0, 0), (0, 0, 0))] (by decide +kernel) rfl trivial ?_
  refine gx_cmp .eq 72 (by decide +kernel) (fun c1 => ?_) (fun c1 => ?_)
  · have c1 : x3 = (-1) := c1
    have e1 : gx_w (x5 + 1) = x5 + 1 := gx_w_id (by omega) (by omega)
    refine gx_blk (C := True) (npc := 8) (L' := [(0, .inr 86), (1, .inl x1), (2, .inl x2), (3, .inl x5), (4, .inl s0), (5, .inl (gx_w (x5 + 1))), (6, .inl s0)]) (st' := []) (m' := m) [((72, .iload 5, 2, 0, 0, 0, 0), (0, 0, 0)), ((74, .istore_n 3, 1, 0, 0, 0, 0), (0, 0, 0)), ((75, .iload 6, 2, 0, 0, 0, 0), (0, 0, 0)), ((77, .istore 4, 2, 0, 0, 0, 0), (0, 0, 0)), ((79, .iinc 5 1, 3, 0, 0, 0, 0), (0, 0, 0)), ((82, .goto (-74), 3, 0, 0, 0, 0), (0, 0, 0))] (by decide +kernel) rfl trivial ?_
    rw [e1]
    exact gx_to_pick [0, 1, 2, 3, 4, 5] (h1 c1)
  · have c1 : x3 ≠ (-1) := c1
    refine gx_blk (C := True) (npc := 66) (L' := [(0, .inr 86), (1, .inl x1), (2, .inl x2), (3, .inl x3), (4, .inl x4), (5, .inl x5), (6, .inl s0)]) (st' := [.inl x4, .inl s0]) (m' := m) [((62, .iload 6, 2, 0, 0, 0, 0), (0, 0, 0)), ((64, .iload 4, 2, 0, 0, 0, 0), (0, 0, 0))] (by decide +kernel) rfl trivial ?_
    refine gx_cmp .gt 72 (by decide +kernel) (fun c2 => ?_) (fun c2 => ?_)
    · have c2 : x4 < s0 := c2
      have e2 : gx_w (x5 + 1) = x5 + 1 := gx_w_id (by omega) (by omega)
      refine gx_blk (C := True) (npc := 8) (L' := [(0, .inr 86), (1, .inl x1), (2, .inl x2), (3, .inl x5), (4, .inl s0), (5, .inl (gx_w (x5 + 1))), (6, .inl s0)]) (st' := []) (m' := m) [((72, .iload 5, 2, 0, 0, 0, 0), (0, 0, 0)), ((74, .istore_n 3, 1, 0, 0, 0, 0), (0, 0, 0)), ((75, .iload 6, 2, 0, 0, 0, 0), (0, 0, 0)), ((77, .istore 4, 2, 0, 0, 0, 0), (0, 0, 0)), ((79, .iinc 5 1, 3, 0, 0, 0, 0), (0, 0, 0)), ((82, .goto (-74), 3, 0, 0, 0, 0), (0, 0, 0))] (by decide +kernel) rfl trivial ?_
      rw [e2]
      exact gx_to_pick [0, 1, 2, 3, 4, 5] (h2 c1 c2)
    · have c2 : s0 ≤ x4 := by have h : ¬ (x4 < s0) := c2; omega
      have e3 : gx_w (x5 + 1) = x5 + 1 := gx_w_id (by omega) (by omega)
      refine gx_blk (C := True) (npc := 8) (L' := [(0, .inr 86), (1, .inl x1), (2, .inl x2), (3, .inl x3), (4, .inl x4), (5, .inl (gx_w (x5 + 1))), (6, .inl s0)]) (st' := []) (m' := m) [((69, .goto 10, 3, 0, 0, 0, 0), (0, 0, 0)), ((79, .iinc 5 1, 3, 0, 0, 0, 0), (0, 0, 0)), ((82, .goto (-74), 3, 0, 0, 0, 0), (0, 0, 0))] (by decide +kernel) rfl trivial ?_
      rw [e3]
      exact gx_to_pick [0, 1, 2, 3, 4, 5] (h3 c1 c2)

/-- isInRing from 0 on -/
theorem gt251_0 {xs : List Int32} {w0 : sx_W} {d : Nat} {Q : gx_Q} {m : gx_M} {x1 : Int} (hI : gx_I m) (r_x1 : 0 ≤ x1 ∧ x1 ≤ 7)
    (h1 : gx_to xs w0 d yp_m251 9 [(0, .inr 86), (1, .inl x1), (2, .inl (m 115 (x1).toNat)), (3, .inl 0)] [] m Q) : gx_to xs w0 d yp_m251 0 [(0, .inr 86), (1, .inl x1)] [] m Q := by
  have f1 := gx_I_at hI 115 (z := x1) 0 7 0 7 (by decide +kernel) (by omega) (by omega)
  refine gx_blk (C := (True ∧ (0 ≤ x1 ∧ x1 < 8))) (npc := 9) (L' := [(0, .inr 86), (1, .inl x1), (2, .inl (m 115 (x1).toNat)), (3, .inl 0)]) (st' := []) (m' := m) [((0, .aload_n 0, 1, 0, 0, 0, 0), (0, 0, 0)), ((1, .getfield 95, 3, 10, 42, 5155, 0), (1, 86, 115)), ((4, .iload_n 1, 1, 0, 0, 0, 0), (0, 0, 0)), ((5, .iaload, 1, 0, 0, 0, 0), (0, 115, 8)), ((6, .istore_n 2, 1, 0, 0, 0, 0), (0, 0, 0)), ((7, .iconst 0, 1, 0, 0, 0, 0), (0, 0, 0)), ((8, .istore_n 3, 1, 0, 0, 0, 0), (0, 0, 0))] (by decide +kernel) rfl ⟨trivial, (by omega)⟩ ?_
  exact gx_to_pick [0, 1, 2, 3] h1

/-- isInRing from 9 on -/
theorem gt251_9 {xs : List Int32} {w0 : sx_W} {d : Nat} {Q : gx_Q} {m : gx_M} {x1 x2 x3 : Int} (hI : gx_I m) (r_x1 : 0 ≤ x1 ∧ x1 ≤ 7) (r_x2 : 0 ≤ x2 ∧ x2 ≤ 7) (r_x3 : 0 ≤ x3 ∧ x3 ≤ 8)
    (h1 : ((m 86 37) ≤ x3) → (x2 ≠ x1) → Q (some 0) m)
    (h2 : ((m 86 37) ≤ x3) → (x2 = x1) → Q (some 1) m)
    (h3 : (x3 < (m 86 37)) → (x2 = x1) → (x2 ≠ x1) → Q (some 0) m)
    (h4 : (x3 < (m 86 37)) → (x2 = x1) → (x2 = x1) → Q (some 1) m)
    (h5 : (x3 < (m 86 37)) → (x2 ≠ x1) → gx_to xs w0 d yp_m251 9 [(0, .inr 86), (1, .inl x1), (2, .inl (m 115 (x2).toNat)), (3, .inl (x3 + 1))] [] m Q) : gx_to xs w0 d yp_m251 9 [(0, .inr 86), (1, .inl x1), (2, .inl x2), (3, .inl x3)] [] m Q := by
  have f1 := gx_I_n hI 86 37 0 8 (by decide +kernel)
  refine gx_blk (C := True) (npc := 14) (L' := [(0, .inr 86), (1, .inl x1), (2, .inl x2), (3, .inl x3)]) (st' := [.inl (m 86 37), .inl x3]) (m' := m) [((9, .iload_n 3, 1, 0, 0, 0, 0), (0, 0, 0)), ((10, .aload_n 0, 1, 0, 0, 0, 0), (0, 0, 0)), ((11, .getfield 346, 3, 10, 37, 5150, 0), (0, 86, 0))] (by decide +kernel) rfl trivial ?_
  refine gx_cmp .ge 35 (by decide +kernel) (fun c1 => ?_) (fun c1 => ?_)
  · have c1 : (m 86 37) ≤ x3 := c1
    refine gx_blk (C := True) (npc := 37) (L' := [(0, .inr 86), (1, .inl x1), (2, .inl x2), (3, .inl x3)]) (st' := [.inl x1, .inl x2]) (m' := m) [((35, .iload_n 2, 1, 0, 0, 0, 0), (0, 0, 0)), ((36, .iload_n 1, 1, 0, 0, 0, 0), (0, 0, 0))] (by decide +kernel) rfl trivial ?_
    refine gx_cmp .ne 44 (by decide +kernel) (fun c2 => ?_) (fun c2 => ?_)
    · have c2 : x2 ≠ x1 := c2
      refine gx_blk (C := True) (npc := 45) (L' := [(0, .inr 86), (1, .inl x1), (2, .inl x2), (3, .inl x3)]) (st' := [.inl 0]) (m' := m) [((44, .iconst 0, 1, 0, 0, 0, 0), (0, 0, 0))] (by decide +kernel) rfl trivial ?_
      exact gx_retb (by decide +kernel) (by omega) (h1 c1 c2)
    · have c2 : x2 = x1 := by have h : ¬ (x2 ≠ x1) := c2; omega
      refine gx_blk (C := True) (npc := 45) (L' := [(0, .inr 86), (1, .inl x1), (2, .inl x2), (3, .inl x3)]) (st' := [.inl 1]) (m' := m) [((40, .iconst 1, 1, 0, 0, 0, 0), (0, 0, 0)), ((41, .goto 4, 3, 0, 0, 0, 0), (0, 0, 0))] (by decide +kernel) rfl trivial ?_
      exact gx_retb (by decide +kernel) (by omega) (h2 c1 c2)
  · have c1 : x3 < (m 86 37) := by have h : ¬ ((m 86 37) ≤ x3) := c1; omega
    refine gx_blk (C := True) (npc := 19) (L' := [(0, .inr 86), (1, .inl x1), (2, .inl x2), (3, .inl x3)]) (st' := [.inl x1, .inl x2]) (m' := m) [((17, .iload_n 2, 1, 0, 0, 0, 0), (0, 0, 0)), ((18, .iload_n 1, 1, 0, 0, 0, 0), (0, 0, 0))] (by decide +kernel) rfl trivial ?_
    refine gx_cmp .eq 35 (by decide +kernel) (fun c2 => ?_) (fun c2 => ?_)
    · have c2 : x2 = x1 := c2
      refine gx_blk (C := True) (npc := 37) (L' := [(0, .inr 86), (1, .inl x1), (2, .inl x2), (3, .inl x3)]) (st' := [.inl x1, .inl x2]) (m' := m) [((35, .iload_n 2, 1, 0, 0, 0, 0), (0, 0, 0)), ((36, .iload_n 1, 1, 0, 0, 0, 0), (0, 0, 0))] (by decide +kernel) rfl trivial ?_
      refine gx_cmp .ne 44 (by decide +kernel) (fun c3 => ?_) (fun c3 => ?_)
      · have c3 : x2 ≠ x1 := c3
        refine gx_blk (C := True) (npc := 45) (L' := [(0, .inr 86), (1, .inl x1), (2, .inl x2), (3, .inl x3)]) (st' := [.inl 0]) (m' := m) [((44, .iconst 0, 1, 0, 0, 0, 0), (0, 0, 0))] (by decide +kernel) rfl trivial ?_
        exact gx_retb (by decide +kernel) (by omega) (h3 c1 c2 c3)
      · have c3 : x2 = x1 := by have h : ¬ (x2 ≠ x1) := c3; omega
        refine gx_blk (C := True) (npc := 45) (L' := [(0, .inr 86), (1, .inl x1), (2, .inl x2), (3, .inl x3)]) (st' := [.inl 1]) (m' := m) [((40, .iconst 1, 1, 0, 0, 0, 0), (0, 0, 0)), ((41, .goto 4, 3, 0, 0, 0, 0), (0, 0, 0))] (by decide +kernel) rfl trivial ?_
        exact gx_retb (by decide +kernel) (by omega) (h4 c1 c2 c3)
    · have c2 : x2 ≠ x1 := c2
      have f2 := gx_I_at hI 115 (z := x2) 0 7 0 7 (by decide +kernel) (by omega) (by omega)
      have e3 : gx_w (x3 + 1) = x3 + 1 := gx_w_id (by omega) (by omega)
      refine gx_blk (C := (True ∧ (0 ≤ x2 ∧ x2 < 8))) (npc := 9) (L' := [(0, .inr 86), (1, .inl x1), (2, .inl (m 115 (x2).toNat)), (3, .inl (gx_w (x3 + 1)))]) (st' := []) (m' := m) [((22, .aload_n 0, 1, 0, 0, 0, 0), (0, 0, 0)), ((23, .getfield 95, 3, 10, 42, 5155, 0), (1, 86, 115)), ((26, .iload_n 2, 1, 0, 0, 0, 0), (0, 0, 0)), ((27, .iaload, 1, 0, 0, 0, 0), (0, 115, 8)), ((28, .istore_n 2, 1, 0, 0, 0, 0), (0, 0, 0)), ((29, .iinc 3 1, 3, 0, 0, 0, 0), (0, 0, 0)), ((32, .goto (-23), 3, 0, 0, 0, 0), (0, 0, 0))] (by decide +kernel) rfl ⟨trivial, (by omega)⟩ ?_
      rw [e3]
      exact gx_to_pick [0, 1, 2, 3] (h5 c1 c2)

/-- laysRing from 0 on -/
theorem gt249_0 {xs : List Int32} {w0 : sx_W} {d : Nat} {Q : gx_Q} {m : gx_M} (hI : gx_I m)
    (h1 : gx_to xs w0 d yp_m249 9 [(0, .inr 86), (1, .inl (gx_w ((gx_shl 1 (m 86 37)) - 1)))] [] m Q) : gx_to xs w0 d yp_m249 0 [(0, .inr 86)] [] m Q := by
  have f1 := gx_I_n hI 86 37 0 8 (by decide +kernel)
  refine gx_blk (C := True) (npc := 9) (L' := [(0, .inr 86), (1, .inl (gx_w ((gx_shl 1 (m 86 37)) - 1)))]) (st' := []) (m' := m) [((0, .iconst 1, 1, 0, 0, 0, 0), (0, 0, 0)), ((1, .aload_n 0, 1, 0, 0, 0, 0), (0, 0, 0)), ((2, .getfield 346, 3, 10, 37, 5150, 0), (0, 86, 0)), ((5, .ishl, 1, 0, 0, 0, 0), (0, 0, 0)), ((6, .iconst 1, 1, 0, 0, 0, 0), (0, 0, 0)), ((7, .isub, 1, 0, 0, 0, 0), (0, 0, 0)), ((8, .istore_n 1, 1, 0, 0, 0, 0), (0, 0, 0))] (by decide +kernel) rfl trivial ?_
  exact gx_to_pick [0, 1] h1

/-- laysRing from 9 on -/
theorem gt249_9 {xs : List Int32} {w0 : sx_W} {d : Nat} {Q : gx_Q} {m : gx_M} {x1 : Int}
    (h1 : (x1 = 0) → Q none m)
    (h2 : (x1 ≠ 0) → gx_to xs w0 d yp_m249 15 [(0, .inr 86), (1, .inl x1), (2, .inl 0)] [] m Q) : gx_to xs w0 d yp_m249 9 [(0, .inr 86), (1, .inl x1)] [] m Q := by
  refine gx_blk (C := True) (npc := 10) (L' := [(0, .inr 86), (1, .inl x1)]) (st' := [.inl x1]) (m' := m) [((9, .iload_n 1, 1, 0, 0, 0, 0), (0, 0, 0))] (by decide +kernel) rfl trivial ?_
  refine gx_if .eq 113 (by decide +kernel) (fun c1 => ?_) (fun c1 => ?_)
  · have c1 : x1 = 0 := c1
    exact gx_ret0 (by decide +kernel) (h1 c1)
  · have c1 : x1 ≠ 0 := c1
    refine gx_blk (C := True) (npc := 15) (L' := [(0, .inr 86), (1, .inl x1), (2, .inl 0)]) (st' := []) (m' := m) [((13, .iconst 0, 1, 0, 0, 0, 0), (0, 0, 0)), ((14, .istore_n 2, 1, 0, 0, 0, 0), (0, 0, 0))] (by decide +kernel) rfl trivial ?_
    exact gx_to_pick [0, 1, 2] (h2 c1)

/-- laysRing from 15 on -/
theorem gt249_15 {xs : List Int32} {w0 : sx_W} {d : Nat} {Q : gx_Q} {m : gx_M} {x1 x2 : Int} (hI : gx_I m) (r_x2 : 0 ≤ x2 ∧ x2 ≤ 8)
    (h1 : ((m 86 37) ≤ x2) → gx_to xs w0 (d + 1) yp_m249 53 [(0, .inr 86), (1, .inl x1), (2, .inl 0), (3, .inl 0)] [] m Q)
    (h2 : (x2 < (m 86 37)) → gx_to xs w0 d yp_m165 0 [(0, .inl x1), (1, .inl x2)] [] m (fun r m' => gx_to xs w0 (d + 1) yp_m249 28 [(0, .inr 86), (1, .inl x1), (2, .inl x2)] (gx_rs r ++ []) m' Q)) : gx_to xs w0 (d + 1) yp_m249 15 [(0, .inr 86), (1, .inl x1), (2, .inl x2)] [] m Q := by
  have f1 := gx_I_n hI 86 37 0 8 (by decide +kernel)
  refine gx_blk (C := True) (npc := 20) (L' := [(0, .inr 86), (1, .inl x1), (2, .inl x2)]) (st' := [.inl (m 86 37), .inl x2]) (m' := m) [((15, .iload_n 2, 1, 0, 0, 0, 0), (0, 0, 0)), ((16, .aload_n 0, 1, 0, 0, 0, 0), (0, 0, 0)), ((17, .getfield 346, 3, 10, 37, 5150, 0), (0, 86, 0))] (by decide +kernel) rfl trivial ?_
  refine gx_cmp .ge 49 (by decide +kernel) (fun c1 => ?_) (fun c1 => ?_)
  · have c1 : (m 86 37) ≤ x2 := c1
    refine gx_blk (C := True) (npc := 53) (L' := [(0, .inr 86), (1, .inl x1), (2, .inl 0), (3, .inl 0)]) (st' := []) (m' := m) [((49, .iconst 0, 1, 0, 0, 0, 0), (0, 0, 0)), ((50, .istore_n 2, 1, 0, 0, 0, 0), (0, 0, 0)), ((51, .iconst 0, 1, 0, 0, 0, 0), (0, 0, 0)), ((52, .istore_n 3, 1, 0, 0, 0, 0), (0, 0, 0))] (by decide +kernel) rfl trivial ?_
    exact gx_to_pick [0, 1, 2, 3] (h1 c1)
  · have c1 : x2 < (m 86 37) := by have h : ¬ ((m 86 37) ≤ x2) := c1; omega
    refine gx_blk (C := True) (npc := 25) (L' := [(0, .inr 86), (1, .inl x1), (2, .inl x2)]) (st' := [.inl x2, .inl x1]) (m' := m) [((23, .iload_n 1, 1, 0, 0, 0, 0), (0, 0, 0)), ((24, .iload_n 2, 1, 0, 0, 0, 0), (0, 0, 0))] (by decide +kernel) rfl trivial ?_
    exact gx_calls (E := (25, .invokestatic 104, 3, 165, 0, 6035, 0)) (M' := yp_m165) [.inl x1, .inl x2] [] rfl (by decide +kernel) rfl ⟨rfl, rfl⟩ rfl rfl (Nat.le_of_ble_eq_true rfl) (Nat.le_of_ble_eq_true rfl) rfl (gx_to_mono (h2 c1) (fun r m' h' => gx_to_pick [0, 1, 2] h'))

/-- laysRing from 28 on -/
theorem gt249_28 {xs : List Int32} {w0 : sx_W} {d : Nat} {Q : gx_Q} {m : gx_M} {x1 x2 s0 : Int} (r_x2 : 0 ≤ x2 ∧ x2 ≤ 7)
    (h1 : (s0 = 0) → gx_to xs w0 (d + 1) yp_m249 15 [(0, .inr 86), (1, .inl x1), (2, .inl (x2 + 1))] [] m Q)
    (h2 : (s0 ≠ 0) → gx_to xs w0 d yp_m250 0 [(0, .inr 86), (1, .inl x2), (2, .inl x1)] [] m (fun r m' => gx_to xs w0 (d + 1) yp_m249 42 [(0, .inr 86), (1, .inl x1), (2, .inl x2)] (gx_rs r ++ [.inl x2, .inr 115]) m' Q)) : gx_to xs w0 (d + 1) yp_m249 28 [(0, .inr 86), (1, .inl x1), (2, .inl x2)] [.inl s0] m Q := by
  refine gx_if .eq 43 (by decide +kernel) (fun c1 => ?_) (fun c1 => ?_)
  · have c1 : s0 = 0 := c1
    have e1 : gx_w (x2 + 1) = x2 + 1 := gx_w_id (by omega) (by omega)
    refine gx_blk (C := True) (npc := 15) (L' := [(0, .inr 86), (1, .inl x1), (2, .inl (gx_w (x2 + 1)))]) (st' := []) (m' := m) [((43, .iinc 2 1, 3, 0, 0, 0, 0), (0, 0, 0)), ((46, .goto (-31), 3, 0, 0, 0, 0), (0, 0, 0))] (by decide +kernel) rfl trivial ?_
    rw [e1]
    exact gx_to_pick [0, 1, 2] (h1 c1)
  · have c1 : s0 ≠ 0 := c1
    refine gx_blk (C := True) (npc := 39) (L' := [(0, .inr 86), (1, .inl x1), (2, .inl x2)]) (st' := [.inl x1, .inl x2, .inr 86, .inl x2, .inr 115]) (m' := m) [((31, .aload_n 0, 1, 0, 0, 0, 0), (0, 0, 0)), ((32, .getfield 95, 3, 10, 42, 5155, 0), (1, 86, 115)), ((35, .iload_n 2, 1, 0, 0, 0, 0), (0, 0, 0)), ((36, .aload_n 0, 1, 0, 0, 0, 0), (0, 0, 0)), ((37, .iload_n 2, 1, 0, 0, 0, 0), (0, 0, 0)), ((38, .iload_n 1, 1, 0, 0, 0, 0), (0, 0, 0))] (by decide +kernel) rfl trivial ?_
    exact gx_callv (E := (39, .invokevirtual 367, 3, 250, 0, 7127, 0)) (M' := yp_m250) (c := 86) [.inl x2, .inl x1] [.inl x2, .inr 115] rfl (by decide +kernel) rfl ⟨rfl, rfl⟩ rfl rfl (Nat.le_of_ble_eq_true rfl) (Nat.le_of_ble_eq_true rfl) (by decide +kernel) (gx_to_mono (h2 c1) (fun r m' h' => gx_to_pick [0, 1, 2] h'))

/-- laysRing from 42 on -/
theorem gt249_42 {xs : List Int32} {w0 : sx_W} {d : Nat} {Q : gx_Q} {m : gx_M} {x1 x2 s1 s2 : Int} (r_x2 : 0 ≤ x2 ∧ x2 ≤ 7) (r_s1 : 0 ≤ s1 ∧ s1 ≤ 7)
    (h1 : gx_to xs w0 d yp_m249 15 [(0, .inr 86), (1, .inl x1), (2, .inl (x2 + 1))] [] (gx_u m 115 (s1).toNat s2) Q) : gx_to xs w0 d yp_m249 42 [(0, .inr 86), (1, .inl x1), (2, .inl x2)] [.inl s2, .inl s1, .inr 115] m Q := by
  have e1 : gx_w (x2 + 1) = x2 + 1 := gx_w_id (by omega) (by omega)
  refine gx_blk (C := (True ∧ (0 ≤ s1 ∧ s1 < 8))) (npc := 15) (L' := [(0, .inr 86), (1, .inl x1), (2, .inl (gx_w (x2 + 1)))]) (st' := []) (m' := (gx_u m 115 (s1).toNat s2)) [((42, .iastore, 1, 0, 0, 0, 0), (0, 115, 8)), ((43, .iinc 2 1, 3, 0, 0, 0, 0), (0, 0, 0)), ((46, .goto (-31), 3, 0, 0, 0, 0), (0, 0, 0))] (by decide +kernel) rfl ⟨trivial, (by omega)⟩ ?_
  rw [e1]
  exact gx_to_pick [0, 1, 2] h1

/-- laysRing from 53 on -/
theorem gt249_53 {xs : List Int32} {w0 : sx_W} {d : Nat} {Q : gx_Q} {m : gx_M} {x1 x2 x3 : Int} (hI : gx_I m) (r_x3 : 0 ≤ x3 ∧ x3 ≤ 8)
    (h1 : ((m 86 37) ≤ x3) → gx_to xs w0 (d + 1) yp_m249 9 [(0, .inr 86), (1, .inl (gx_and x1 (gx_xor x2 (-1))))] [] m Q)
    (h2 : (x3 < (m 86 37)) → gx_to xs w0 d yp_m165 0 [(0, .inl x1), (1, .inl x3)] [] m (fun r m' => gx_to xs w0 (d + 1) yp_m249 66 [(0, .inr 86), (1, .inl x1), (2, .inl x2), (3, .inl x3)] (gx_rs r ++ []) m' Q)) : gx_to xs w0 (d + 1) yp_m249 53 [(0, .inr 86), (1, .inl x1), (2, .inl x2), (3, .inl x3)] [] m Q := by
  have f1 := gx_I_n hI 86 37 0 8 (by decide +kernel)
  refine gx_blk (C := True) (npc := 58) (L' := [(0, .inr 86), (1, .inl x1), (2, .inl x2), (3, .inl x3)]) (st' := [.inl (m 86 37), .inl x3]) (m' := m) [((53, .iload_n 3, 1, 0, 0, 0, 0), (0, 0, 0)), ((54, .aload_n 0, 1, 0, 0, 0, 0), (0, 0, 0)), ((55, .getfield 346, 3, 10, 37, 5150, 0), (0, 86, 0))] (by decide +kernel) rfl trivial ?_
  refine gx_cmp .ge 104 (by decide +kernel) (fun c1 => ?_) (fun c1 => ?_)
  · have c1 : (m 86 37) ≤ x3 := c1
    refine gx_blk (C := True) (npc := 9) (L' := [(0, .inr 86), (1, .inl (gx_and x1 (gx_xor x2 (-1)))), (2, .inl x2), (3, .inl x3)]) (st' := []) (m' := m) [((104, .iload_n 1, 1, 0, 0, 0, 0), (0, 0, 0)), ((105, .iload_n 2, 1, 0, 0, 0, 0), (0, 0, 0)), ((106, .iconst (-1), 1, 0, 0, 0, 0), (0, 0, 0)), ((107, .ixor, 1, 0, 0, 0, 0), (0, 0, 0)), ((108, .iand, 1, 0, 0, 0, 0), (0, 0, 0)), ((109, .istore_n 1, 1, 0, 0, 0, 0), (0, 0, 0)), ((110, .goto (-101), 3, 0, 0, 0, 0), (0, 0, 0))] (by decide +kernel) rfl trivial ?_
    exact gx_to_pick [0, 1] (h1 c1)
  · have c1 : x3 < (m 86 37) := by have h : ¬ ((m 86 37) ≤ x3) := c1; omega
    refine gx_blk (C := True) (npc := 63) (L' := [(0, .inr 86), (1, .inl x1), (2, .inl x2), (3, .inl x3)]) (st' := [.inl x3, .inl x1]) (m' := m) [((61, .iload_n 1, 1, 0, 0, 0, 0), (0, 0, 0)), ((62, .iload_n 3, 1, 0, 0, 0, 0), (0, 0, 0))] (by decide +kernel) rfl trivial ?_
    exact gx_calls (E := (63, .invokestatic 104, 3, 165, 0, 6035, 0)) (M' := yp_m165) [.inl x1, .inl x3] [] rfl (by decide +kernel) rfl ⟨rfl, rfl⟩ rfl rfl (Nat.le_of_ble_eq_true rfl) (Nat.le_of_ble_eq_true rfl) rfl (gx_to_mono (h2 c1) (fun r m' h' => gx_to_pick [0, 1, 2, 3] h'))

/-- laysRing from 66 on -/
theorem gt249_66 {xs : List Int32} {w0 : sx_W} {d : Nat} {Q : gx_Q} {m : gx_M} {x1 x2 x3 s0 : Int} (r_x3 : 0 ≤ x3 ∧ x3 ≤ 7)
    (h1 : (s0 = 0) → gx_to xs w0 (d + 1) yp_m249 53 [(0, .inr 86), (1, .inl x1), (2, .inl x2), (3, .inl (x3 + 1))] [] m Q)
    (h2 : (s0 ≠ 0) → gx_to xs w0 d yp_m251 0 [(0, .inr 86), (1, .inl x3)] [] m (fun r m' => gx_to xs w0 (d + 1) yp_m249 74 [(0, .inr 86), (1, .inl x1), (2, .inl x2), (3, .inl x3)] (gx_rs r ++ []) m' Q)) : gx_to xs w0 (d + 1) yp_m249 66 [(0, .inr 86), (1, .inl x1), (2, .inl x2), (3, .inl x3)] [.inl s0] m Q := by
  refine gx_if .eq 98 (by decide +kernel) (fun c1 => ?_) (fun c1 => ?_)
  · have c1 : s0 = 0 := c1
    have e1 : gx_w (x3 + 1) = x3 + 1 := gx_w_id (by omega) (by omega)
    refine gx_blk (C := True) (npc := 53) (L' := [(0, .inr 86), (1, .inl x1), (2, .inl x2), (3, .inl (gx_w (x3 + 1)))]) (st' := []) (m' := m) [((98, .iinc 3 1, 3, 0, 0, 0, 0), (0, 0, 0)), ((101, .goto (-48), 3, 0, 0, 0, 0), (0, 0, 0))] (by decide +kernel) rfl trivial ?_
    rw [e1]
    exact gx_to_pick [0, 1, 2, 3] (h1 c1)
  · have c1 : s0 ≠ 0 := c1
    refine gx_blk (C := True) (npc := 71) (L' := [(0, .inr 86), (1, .inl x1), (2, .inl x2), (3, .inl x3)]) (st' := [.inl x3, .inr 86]) (m' := m) [((69, .aload_n 0, 1, 0, 0, 0, 0), (0, 0, 0)), ((70, .iload_n 3, 1, 0, 0, 0, 0), (0, 0, 0))] (by decide +kernel) rfl trivial ?_
    exact gx_callv (E := (71, .invokevirtual 370, 3, 251, 0, 7131, 0)) (M' := yp_m251) (c := 86) [.inl x3] [] rfl (by decide +kernel) rfl ⟨rfl, rfl⟩ rfl rfl (Nat.le_of_ble_eq_true rfl) (Nat.le_of_ble_eq_true rfl) (by decide +kernel) (gx_to_mono (h2 c1) (fun r m' h' => gx_to_pick [0, 1, 2, 3] h'))

/-- laysRing from 74 on -/
theorem gt249_74 {xs : List Int32} {w0 : sx_W} {d : Nat} {Q : gx_Q} {m : gx_M} {x1 x2 x3 s0 : Int} (hI : gx_I m) (r_x3 : 0 ≤ x3 ∧ x3 ≤ 7)
    (h1 : (s0 ≠ 0) → gx_to xs w0 d yp_m249 53 [(0, .inr 86), (1, .inl x1), (2, .inl (gx_or x2 (gx_shl 1 x3))), (3, .inl (x3 + 1))] [] (gx_u m 116 (x3).toNat (m 115 (x3).toNat)) Q)
    (h2 : (s0 = 0) → gx_to xs w0 d yp_m249 53 [(0, .inr 86), (1, .inl x1), (2, .inl x2), (3, .inl (x3 + 1))] [] m Q) : gx_to xs w0 d yp_m249 74 [(0, .inr 86), (1, .inl x1), (2, .inl x2), (3, .inl x3)] [.inl s0] m Q := by
  refine gx_if .ne 80 (by decide +kernel) (fun c1 => ?_) (fun c1 => ?_)
  · have c1 : s0 ≠ 0 := c1
    have f1 := gx_I_at hI 115 (z := x3) 0 7 0 7 (by decide +kernel) (by omega) (by omega)
    have e2 : gx_w (x3 + 1) = x3 + 1 := gx_w_id (by omega) (by omega)
    refine gx_blk (C := (((True ∧ (0 ≤ x3 ∧ x3 < 8))) ∧ (0 ≤ x3 ∧ x3 < 8))) (npc := 53) (L' := [(0, .inr 86), (1, .inl x1), (2, .inl (gx_or x2 (gx_shl 1 x3))), (3, .inl (gx_w (x3 + 1)))]) (st' := []) (m' := (gx_u m 116 (x3).toNat (m 115 (x3).toNat))) [((80, .aload_n 0, 1, 0, 0, 0, 0), (0, 0, 0)), ((81, .getfield 98, 3, 10, 43, 5156, 0), (1, 86, 116)), ((84, .iload_n 3, 1, 0, 0, 0, 0), (0, 0, 0)), ((85, .aload_n 0, 1, 0, 0, 0, 0), (0, 0, 0)), ((86, .getfield 95, 3, 10, 42, 5155, 0), (1, 86, 115)), ((89, .iload_n 3, 1, 0, 0, 0, 0), (0, 0, 0)), ((90, .iaload, 1, 0, 0, 0, 0), (0, 115, 8)), ((91, .iastore, 1, 0, 0, 0, 0), (0, 116, 8)), ((92, .iload_n 2, 1, 0, 0, 0, 0), (0, 0, 0)), ((93, .iconst 1, 1, 0, 0, 0, 0), (0, 0, 0)), ((94, .iload_n 3, 1, 0, 0, 0, 0), (0, 0, 0)), ((95, .ishl, 1, 0, 0, 0, 0), (0, 0, 0)), ((96, .ior, 1, 0, 0, 0, 0), (0, 0, 0)), ((97, .istore_n 2, 1, 0, 0, 0, 0), (0, 0, 0)), ((98, .iinc 3 1, 3, 0, 0, 0, 0), (0, 0, 0)), ((101, .goto (-48), 3, 0, 0, 0, 0), (0, 0, 0))] (by decide +kernel) rfl ⟨⟨trivial, (by omega)⟩, (by omega)⟩ ?_
    rw [e2]
    exact gx_to_pick [0, 1, 2, 3] (h1 c1)
  · have c1 : s0 = 0 := by have h : ¬ (s0 ≠ 0) := c1; omega
    have e3 : gx_w (x3 + 1) = x3 + 1 := gx_w_id (by omega) (by omega)
    refine gx_blk (C := True) (npc := 53) (L' := [(0, .inr 86), (1, .inl x1), (2, .inl x2), (3, .inl (gx_w (x3 + 1)))]) (st' := []) (m' := m) [((77, .goto 21, 3, 0, 0, 0, 0), (0, 0, 0)), ((98, .iinc 3 1, 3, 0, 0, 0, 0), (0, 0, 0)), ((101, .goto (-48), 3, 0, 0, 0, 0), (0, 0, 0))] (by decide +kernel) rfl trivial ?_
    rw [e3]
    exact gx_to_pick [0, 1, 2, 3] (h2 c1)
end
section
/-! laysRing -/
section GRG
variable {xs : List Int32} {w0 : sx_W} {d : Nat} {Q : gx_Q} {m : gx_M}
theorem gx_feel_row {m m' : gx_M} (h : gx_fw gx_feel m m') {c : Nat} (h1 : c ≠ 102) (h2 : c ≠ 103) : m' c = m c := h.row (fun q hq e => by
  rw [gx_feel, List.mem_cons, List.mem_singleton] at hq
  rcases hq with rfl | rfl
  · exact h1 e.symm
  · exact h2 e.symm)
theorem gl_wants (h : bw_H1 xs (gx_XW gx_X)) {m0 : gx_M} {x1 l : Int} (hx : 0 ≤ x1 ∧ x1 ≤ 7) (hQ : ∀ v m', ((∃ i : Nat, (i : Int) < m0 86 37 ∧ gx_has l (i : Int)) → 0 ≤ v ∧ v < m0 86 37 ∧ gx_has l v) → gx_I m' → gx_X m' → gx_fw gx_feel m0 m' → Q (some v) m') : ∀ (j k : Nat) (b w : Int) (m : gx_M), 8 - k = j → k ≤ 8 → gx_I m → gx_X m → gx_fw gx_feel m0 m → ((b = -1 ∧ ∀ i : Nat, i < k → ¬ gx_has l (i : Int)) ∨ (0 ≤ b ∧ b < m0 86 37 ∧ gx_has l b)) → gx_to xs w0 (d + 5) yp_m250 8 [(0, .inr 86), (1, .inl x1), (2, .inl l), (3, .inl b), (4, .inl w), (5, .inl (k : Int))] [] m Q := by
  intro j
  induction j with
  | zero =>
    intro k b w m hj hk hI hX hf hinv
    have hb := gx_I_n hI 86 37 0 8 (by decide +kernel)
    have e86 := congrFun (gx_feel_row hf (by decide : (86 : Nat) ≠ 102) (by decide)) 37
    refine gt250_8 hI (by omega) (fun _ => hQ b m (fun ⟨i, h1, h2⟩ => ?_) hI hX hf) (fun c => by omega)
    rcases hinv with ⟨-, hn⟩ | hp
    · exact absurd h2 (hn i (by omega))
    · exact hp
  | succ j ih =>
    intro k b w m hj hk hI hX hf hinv
    have e86 := congrFun (gx_feel_row hf (by decide : (86 : Nat) ≠ 102) (by decide)) 37
    have hrec : ∀ (b w : Int) (m' : gx_M), gx_I m' → gx_X m' → gx_fw gx_feel m0 m' → ((b = -1 ∧ ∀ i : Nat, i < k + 1 → ¬ gx_has l (i : Int)) ∨ (0 ≤ b ∧ b < m0 86 37 ∧ gx_has l b)) → gx_to xs w0 (d + 5) yp_m250 8 [(0, .inr 86), (1, .inl x1), (2, .inl l), (3, .inl b), (4, .inl w), (5, .inl ((k : Int) + 1))] [] m' Q := fun b w m' h1 h2 h3 h4 => by
      have := ih (k + 1) b w m' (by omega) (by omega) h1 h2 h3 h4
      rw [show ((k + 1 : Nat) : Int) = (k : Int) + 1 by omega] at this
      exact this
    refine gt250_8 hI (by omega) (fun c => hQ b m (fun ⟨i, h1, h2⟩ => ?_) hI hX hf) (fun c => gc_has
      (fun hh => gt250_23 hI hx (by omega) (fun _ => gc_worthOf h hI hX ?_ ?_ (fun v m' _ _ hI' hX' hf' => ?_)) (fun e => by omega))
      (fun hh => gt250_23 hI hx (by omega) (fun e => absurd rfl e) (fun _ => hrec b w m hI hX hf ?_)))
    · rcases hinv with ⟨-, hn⟩ | hp
      · exact absurd h2 (hn i (by omega))
      · exact hp
    · exact gx_I_at hI 112 (z := (k : Int)) 0 7 0 39 (by decide +kernel) (by omega) (by omega)
    · have h1 := gx_I_at hI 112 (z := x1) 0 7 0 39 (by decide +kernel) (by omega) (by omega)
      exact gx_I_at hI 87 (z := 240 + m 112 x1.toNat) 240 279 (-2) 7 (by decide +kernel) (by omega) (by omega)
    · have hk' : (0 ≤ (k : Int) ∧ (k : Int) < m0 86 37 ∧ gx_has l (k : Int)) := ⟨by omega, by omega, hh⟩
      refine gt250_55 hx (by omega) (fun _ => hrec _ _ m' hI' hX' (hf.tr hf') (.inr hk')) (fun _ _ => hrec _ _ m' hI' hX' (hf.tr hf') (.inr hk')) (fun c1 _ => hrec _ _ m' hI' hX' (hf.tr hf') ?_)
      rcases hinv with ⟨e, -⟩ | hp
      · exact absurd e c1
      · exact .inr hp
    · rcases hinv with ⟨e, hn⟩ | hp
      · refine .inl ⟨e, fun i hi => ?_⟩
        by_cases e2 : i = k
        · rw [e2]; exact hh
        · exact hn i (by omega)
      · exact .inr hp
theorem gc_wants (h : bw_H1 xs (gx_XW gx_X)) {x1 l : Int} (hx : 0 ≤ x1 ∧ x1 ≤ 7) (hI : gx_I m) (hX : gx_X m) (hQ : ∀ v m', ((∃ i : Nat, (i : Int) < m 86 37 ∧ gx_has l (i : Int)) → 0 ≤ v ∧ v < m 86 37 ∧ gx_has l v) → gx_I m' → gx_X m' → gx_fw gx_feel m m' → Q (some v) m') : gx_to xs w0 (d + 5) yp_m250 0 [(0, .inr 86), (1, .inl x1), (2, .inl l)] [] m Q :=
  gt250_0 (gl_wants h hx hQ 8 0 (-1) 0 m rfl (by omega) hI hX gx_fw.rf (.inl ⟨rfl, fun i hi => absurd hi (Nat.not_lt_zero _)⟩))
def gr_f (m : gx_M) : Nat → Nat := fun k => (m 115 k).toNat
def gr_cy (m : gx_M) (p : Nat) : Prop := ∃ i : Nat, 1 ≤ i ∧ (i : Int) ≤ m 86 37 ∧ lr_it (gr_f m) i p = p
theorem gl_inr {p : Nat} (hp : p < 8) (hI : gx_I m) (hQ1 : Q (some 1) m) (hQ0 : ¬ gr_cy m p → Q (some 0) m) : ∀ (j k a : Nat), 8 - k = j → k ≤ 8 → a < 8 → a = lr_it (gr_f m) (k + 1) p → (∀ i, 1 ≤ i → i ≤ k → lr_it (gr_f m) i p ≠ p) → gx_to xs w0 d yp_m251 9 [(0, .inr 86), (1, .inl (p : Int)), (2, .inl (a : Int)), (3, .inl (k : Int))] [] m Q := by
  have hb := gx_I_n hI 86 37 0 8 (by decide +kernel)
  intro j
  induction j with
  | zero =>
    intro k a hj hk ha he hn
    exact gt251_9 hI (by omega) (by omega) (by omega) (fun c _ => hQ0 (fun ⟨i, h1, h2, h3⟩ => hn i h1 (by omega) h3)) (fun _ _ => hQ1) (fun _ e e' => absurd e e') (fun _ _ _ => hQ1) (fun c => by omega)
  | succ j ih =>
    intro k a hj hk ha he hn
    refine gt251_9 hI (by omega) (by omega) (by omega) (fun c _ => hQ0 (fun ⟨i, h1, h2, h3⟩ => hn i h1 (by omega) h3)) (fun _ _ => hQ1) (fun _ e e' => absurd e e') (fun _ _ _ => hQ1) (fun c c' => ?_)
    have hr := gx_I_at hI 115 (z := (a : Int)) 0 7 0 7 (by decide +kernel) (by omega) (by omega)
    rw [Int.toNat_natCast] at hr ⊢
    have := ih (k + 1) (gr_f m a) (by omega) (by omega) (by unfold gr_f; omega) (by rw [he]; rfl) (fun i h1 h2 => by
      by_cases e : i = k + 1
      · rw [e, ← he]; omega
      · exact hn i h1 (by omega))
    rw [show ((k + 1 : Nat) : Int) = (k : Int) + 1 by omega, show ((gr_f m a : Nat) : Int) = m 115 a by unfold gr_f; omega] at this
    exact this
theorem gc_inr {p : Nat} (hp : p < 8) (hI : gx_I m) (hQ1 : Q (some 1) m) (hQ0 : ¬ gr_cy m p → Q (some 0) m) : gx_to xs w0 d yp_m251 0 [(0, .inr 86), (1, .inl (p : Int))] [] m Q := by
  refine gt251_0 hI (by omega) ?_
  have hr := gx_I_at hI 115 (z := (p : Int)) 0 7 0 7 (by decide +kernel) (by omega) (by omega)
  rw [Int.toNat_natCast] at hr ⊢
  have := gl_inr (xs := xs) (w0 := w0) (d := d) hp hI hQ1 hQ0 8 0 (gr_f m p) rfl (by omega) (by unfold gr_f; omega) rfl (fun i h1 h2 => by omega)
  rw [show ((gr_f m p : Nat) : Int) = m 115 p by unfold gr_f; omega] at this
  exact this
def gx_rg : bx_M := [(102, 0, 260), (103, 0, 14), (115, 0, 8), (116, 0, 8)]
theorem gx_feel_rg {m m' : gx_M} (h : gx_fw gx_feel m m') : gx_fw gx_rg m m' := h.sub (fun q hq => ⟨q, by
  rw [gx_feel, List.mem_cons, List.mem_singleton] at hq
  rcases hq with rfl | rfl
  · exact List.mem_cons_self
  · exact List.mem_cons_of_mem _ List.mem_cons_self, rfl, Nat.le_refl _, Nat.le_refl _⟩)
theorem gx_rg86 {m m' : gx_M} (h : gx_fw gx_rg m m') : m' 86 = m 86 := h.row (fun q hq e => by
  simp only [gx_rg, List.mem_cons, List.not_mem_nil, or_false] at hq
  rcases hq with rfl | rfl | rfl | rfl <;> cases e)
theorem gl_ring15 (h : bw_H1 xs (gx_XW gx_X)) {m0 : gx_M} {l : Int} {n : Nat} (hn : m0 86 37 = n) (h8 : n ≤ 8) (hl : ∀ k : Nat, k < 8 → gx_has l (k : Int) → k < n)
    (hQ : ∀ m, gx_I m → gx_X m → gx_fw gx_rg m0 m → (∀ i : Nat, i < 8 → gx_has l (i : Int) → 0 ≤ m 115 i ∧ m 115 i < n ∧ gx_has l (m 115 i)) → gx_to xs w0 (d + 6) yp_m249 53 [(0, .inr 86), (1, .inl l), (2, .inl 0), (3, .inl 0)] [] m Q) : ∀ (j k : Nat) (m : gx_M), n - k = j → k ≤ n → gx_I m → gx_X m → gx_fw gx_rg m0 m → (∀ i : Nat, i < k → gx_has l (i : Int) → 0 ≤ m 115 i ∧ m 115 i < n ∧ gx_has l (m 115 i)) → gx_to xs w0 (d + 6) yp_m249 15 [(0, .inr 86), (1, .inl l), (2, .inl (k : Int))] [] m Q := by
  intro j
  induction j with
  | zero =>
    intro k m hj hk hI hX hf hinv
    have e86 := congrFun (gx_rg86 hf) 37
    exact gt249_15 hI (by omega) (fun _ => hQ m hI hX hf (fun i h1 h2 => hinv i (by have := hl i h1 h2; omega) h2)) (fun c => by omega)
  | succ j ih =>
    intro k m hj hk hI hX hf hinv
    have e86 := congrFun (gx_rg86 hf) 37
    have hrec : ∀ m', gx_I m' → gx_X m' → gx_fw gx_rg m0 m' → (∀ i : Nat, i < k + 1 → gx_has l (i : Int) → 0 ≤ m' 115 i ∧ m' 115 i < n ∧ gx_has l (m' 115 i)) → gx_to xs w0 (d + 6) yp_m249 15 [(0, .inr 86), (1, .inl l), (2, .inl ((k : Int) + 1))] [] m' Q := fun m' h1 h2 h3 h4 => by
      have := ih (k + 1) m' (by omega) (by omega) h1 h2 h3 h4
      rw [show ((k + 1 : Nat) : Int) = (k : Int) + 1 by omega] at this
      exact this
    refine gt249_15 hI (by omega) (fun c => by omega) (fun c => gc_has
      (fun hh => gt249_28 (by omega) (fun e => by omega) (fun _ => gc_wants h (by omega) hI hX (fun v m' hv hI' hX' hf' => ?_)))
      (fun hh => gt249_28 (by omega) (fun _ => hrec m hI hX hf (fun i h1 h2 => ?_)) (fun e => absurd rfl e)))
    · obtain ⟨v1, v2, v3⟩ := hv ⟨k, c, hh⟩
      have e115 := gx_feel_row hf' (by decide : (115 : Nat) ≠ 102) (by decide)
      refine gt249_42 (by omega) (by omega) (hrec _ (gx_I_w hI' 115 (z := (k : Int)) 0 7 0 7 (by decide +kernel) (by omega) (by omega) v1 (by omega)) ?_ ?_ (fun i h1 h2 => ?_))
      · exact gx_X_c.fw (mods := [(115, 0, 8)]) (gx_fw.rf.w ⟨_, List.mem_singleton.mpr rfl, rfl, Nat.zero_le _, by show ((k : Int)).toNat < 8; omega⟩) (by decide) hX'
      · exact (hf.tr (gx_feel_rg hf')).w ⟨(115, 0, 8), by simp [gx_rg], rfl, Nat.zero_le _, by show ((k : Int)).toNat < 8; omega⟩
      · rw [gx_u_row, Int.toNat_natCast]
        unfold lf_up
        by_cases e : i = k
        · rw [if_pos e]
          exact ⟨v1, by omega, v3⟩
        · rw [if_neg e, e115]
          exact hinv i (by omega) h2
    · by_cases e : i = k
      · rw [e] at h2; exact absurd h2 hh
      · exact hinv i (by omega) h2
theorem gl_ring53 {m0 : gx_M} {l : Int} {n : Nat} (hn : m0 86 37 = n) (h8 : n ≤ 8) {f : Nat → Int} (hQ : ∀ g m, gx_I m → gx_X m → gx_fw gx_rg m0 m → (∀ i : Nat, i < n → gx_has l (i : Int) → (∃ t : Nat, 1 ≤ t ∧ t ≤ n ∧ lr_it (fun k => (f k).toNat) t i = i) → gx_has g (i : Int)) → gx_to xs w0 (d + 1) yp_m249 9 [(0, .inr 86), (1, .inl (gx_and l (gx_xor g (-1))))] [] m Q) : ∀ (j k : Nat) (g : Int) (m : gx_M), n - k = j → k ≤ n → gx_I m → gx_X m → gx_fw gx_rg m0 m → m 115 = f → (∀ i : Nat, i < k → gx_has l (i : Int) → (∃ t : Nat, 1 ≤ t ∧ t ≤ n ∧ lr_it (fun k => (f k).toNat) t i = i) → gx_has g (i : Int)) → gx_to xs w0 (d + 1) yp_m249 53 [(0, .inr 86), (1, .inl l), (2, .inl g), (3, .inl (k : Int))] [] m Q := by
  intro j
  induction j with
  | zero =>
    intro k g m hj hk hI hX hf h115 hinv
    have e86 := congrFun (gx_rg86 hf) 37
    exact gt249_53 hI (by omega) (fun _ => hQ g m hI hX hf (fun i h1 h2 h3 => hinv i (by omega) h2 h3)) (fun c => by omega)
  | succ j ih =>
    intro k g m hj hk hI hX hf h115 hinv
    have e86 := congrFun (gx_rg86 hf) 37
    have hrec : ∀ g m', gx_I m' → gx_X m' → gx_fw gx_rg m0 m' → m' 115 = f → (∀ i : Nat, i < k + 1 → gx_has l (i : Int) → (∃ t : Nat, 1 ≤ t ∧ t ≤ n ∧ lr_it (fun k => (f k).toNat) t i = i) → gx_has g (i : Int)) → gx_to xs w0 (d + 1) yp_m249 53 [(0, .inr 86), (1, .inl l), (2, .inl g), (3, .inl ((k : Int) + 1))] [] m' Q := fun g m' h1 h2 h3 h4 h5 => by
      have := ih (k + 1) g m' (by omega) (by omega) h1 h2 h3 h4 h5
      rw [show ((k + 1 : Nat) : Int) = (k : Int) + 1 by omega] at this
      exact this
    refine gt249_53 hI (by omega) (fun c => by omega) (fun c => gc_has
      (fun hh => gt249_66 (by omega) (fun e => by omega) (fun _ => gc_inr (by omega) hI
        (gt249_74 hI (by omega) (fun _ => ?_) (fun e => by omega))
        (fun hno => gt249_74 hI (by omega) (fun e => absurd rfl e) (fun _ => hrec g m hI hX hf h115 (fun i h1 h2 h3 => ?_)))))
      (fun hh => gt249_66 (by omega) (fun _ => hrec g m hI hX hf h115 (fun i h1 h2 h3 => ?_)) (fun e => absurd rfl e)))
    · have hv := gx_I_at hI 115 (z := (k : Int)) 0 7 0 7 (by decide +kernel) (by omega) (by omega)
      refine hrec _ _ (gx_I_w hI 116 (z := (k : Int)) 0 7 0 7 (by decide +kernel) (by omega) (by omega) hv.1 hv.2) ?_ ?_ ?_ (fun i h1 h2 h3 => ?_)
      · exact gx_X_c.fw (mods := [(116, 0, 8)]) (gx_fw.rf.w ⟨_, List.mem_singleton.mpr rfl, rfl, Nat.zero_le _, by show ((k : Int)).toNat < 8; omega⟩) (by decide) hX
      · exact hf.w ⟨(116, 0, 8), by simp [gx_rg], rfl, Nat.zero_le _, by show ((k : Int)).toNat < 8; omega⟩
      · rw [gx_u_off (by decide : (115 : Nat) ≠ 116)]
        exact h115
      · rw [gx_has_or (by omega) (by omega)]
        by_cases e : i = k
        · exact .inr e
        · exact .inl (hinv i (by omega) h2 h3)
    · by_cases e : i = k
      · obtain ⟨t, t1, t2, t3⟩ := h3
        refine absurd ⟨t, t1, by omega, ?_⟩ hno
        unfold gr_f
        rw [h115, ← e]
        exact t3
      · exact hinv i (by omega) h2 h3
    · by_cases e : i = k
      · rw [e] at h2; exact absurd h2 hh
      · exact hinv i (by omega) h2 h3
theorem gl_ring9 (h : bw_H1 xs (gx_XW gx_X)) {m0 : gx_M} {n : Nat} (hn : m0 86 37 = n) (h8 : n ≤ 8) (hQ : ∀ m, gx_I m → gx_X m → gx_fw gx_rg m0 m → Q none m) : ∀ (c : Nat) (l : Int) (m : gx_M), lr_c (fun k => gx_has l (k : Int)) ≤ c → 0 ≤ l → l ≤ 255 → (∀ k : Nat, k < 8 → gx_has l (k : Int) → k < n) → gx_I m → gx_X m → gx_fw gx_rg m0 m → gx_to xs w0 (d + 6) yp_m249 9 [(0, .inr 86), (1, .inl l)] [] m Q := by
  intro c
  induction c using Nat.strongRecOn with
  | _ c ih =>
    intro l m hc h0 h255 hl hI hX hf
    refine gt249_9 (fun _ => hQ m hI hX hf) (fun hne => gl_ring15 h hn h8 hl (fun m1 hI1 hX1 hf1 hin => ?_) n 0 m (by omega) (by omega) hI hX hf (fun i hi => absurd hi (Nat.not_lt_zero _)))
    refine gl_ring53 hn h8 (f := m1 115) (fun g m2 hI2 hX2 hf2 hg => ?_) n 0 0 m1 (by omega) (by omega) hI1 hX1 hf1 rfl (fun i hi => absurd hi (Nat.not_lt_zero _))
    obtain ⟨x, hx8, hx⟩ := gx_has_some l.toNat (by omega) (by omega)
    rw [show ((l.toNat : Nat) : Int) = l by omega] at hx
    obtain ⟨y, hy, t, t1, t2, t3⟩ := lr_ring (f := fun k => (m1 115 k).toNat) (S := fun k => k < 8 ∧ gx_has l (k : Int)) (n := n) (x := x) (fun k hk => by
      obtain ⟨g1, g2, g3⟩ := hin k hk.1 hk.2
      refine ⟨by omega, ?_⟩
      rw [show (((m1 115 k).toNat : Nat) : Int) = m1 115 k by omega]
      exact g3) (fun k hk => hl k hk.1 hk.2) ⟨hx8, hx⟩
    have hgy := hg y (hl y hy.1 hy.2) hy.2 ⟨t, t1, t2, t3⟩
    have hle := gx_and_le (l := l) (y := gx_xor g (-1)) h0 (by omega)
    have hlt := lr_c_lt (p := fun k => gx_has l (k : Int)) (q := fun k => gx_has (gx_and l (gx_xor g (-1))) (k : Int)) (fun k hk hq => ((gx_has_not hk).mp hq).1) hy.1 hy.2 (fun hq => ((gx_has_not hy.1).mp hq).2 hgy)
    exact ih _ (Nat.lt_of_lt_of_le hlt hc) _ m2 (Nat.le_refl _) hle.1 (by omega) (fun k hk hq => hl k hk ((gx_has_not hk).mp hq).1) hI2 hX2 hf2
theorem gc_ring (h : bw_H1 xs (gx_XW gx_X)) (hI : gx_I m) (hX : gx_X m) (hQ : ∀ m', gx_I m' → gx_X m' → gx_fw gx_rg m m' → Q none m') : gx_to xs w0 (d + 6) yp_m249 0 [(0, .inr 86)] [] m Q := by
  have hb := gx_I_n hI 86 37 0 8 (by decide +kernel)
  obtain ⟨n, hn⟩ : ∃ n : Nat, m 86 37 = n := ⟨(m 86 37).toNat, by omega⟩
  obtain ⟨⟨g1, g2⟩, g3⟩ := gx_has_all n (by omega)
  refine gt249_0 hI ?_
  rw [hn]
  exact gl_ring9 h hn (by omega) hQ _ _ m (Nat.le_refl _) g1 g2 (fun k hk hh => g3 k hk hh) hI hX gx_fw.rf
theorem gk_ring (h : bw_H1 xs (gx_XW gx_X)) : bx_Kok yp_P xs bw_INV (gx_XW gx_X) bk_260 := by
  refine gx_K_of (by decide) rfl (fun M w0 v m hM hv hI hX _ => ?_)
  cases (Option.some.inj (hM.symm.trans rfl) : M = yp_m249)
  exact gc_ring (d := 2) h hI hX (fun m' hI' hX' hf _ => ⟨trivial, hI', hX', hf⟩)
end GRG
end
