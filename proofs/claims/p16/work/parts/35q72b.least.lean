/-! taught: the least that others ask, in two ways -/
def orL : List (Nat × Nat) → Nat
  | [] => 0
  | o :: l => o.1 ||| orL l
def suP : List (Nat × Nat) → Nat
  | [] => 0
  | o :: l => o.2 + suP l
def aCh (O : List (Nat × Nat)) (A P c : Nat) : Prop := ∃ l : List (Nat × Nat), (∀ o ∈ l, o ∈ O) ∧ orL l = A ∧ suP l = P ∧ l.length = c
def mC (N H : Nat) : Nat := hcnt (fun j => N.testBit j && !(H.testBit j)) 12
theorem orL_bit {j : Nat} : ∀ l : List (Nat × Nat), (orL l).testBit j = true ↔ ∃ o ∈ l, o.1.testBit j = true
  | [] => ⟨fun h => absurd h (by show ¬ (Nat.testBit 0 j = true); rw [Nat.zero_testBit]; decide), fun ⟨o, h, _⟩ => absurd h List.not_mem_nil⟩
  | o :: l => by
    show (o.1 ||| orL l).testBit j = true ↔ _
    rw [Nat.testBit_or, Bool.or_eq_true, orL_bit l]
    constructor
    · rintro (h | ⟨o', h1, h2⟩)
      · exact ⟨o, List.mem_cons_self, h⟩
      · exact ⟨o', List.mem_cons_of_mem _ h1, h2⟩
    · rintro ⟨o', h1, h2⟩
      rcases List.mem_cons.mp h1 with rfl | h1
      · exact .inl h2
      · exact .inr ⟨o', h1, h2⟩
theorem suP_app : ∀ s t : List (Nat × Nat), suP (s ++ t) = suP s + suP t
  | [], t => by
    show suP t = 0 + suP t
    omega
  | o :: s, t => by
    show o.2 + suP (s ++ t) = (o.2 + suP s) + suP t
    rw [suP_app s t]
    omega
theorem suP_le {O : List (Nat × Nat)} (hO : ∀ o ∈ O, o.2 ≤ 999) : ∀ l : List (Nat × Nat), (∀ o ∈ l, o ∈ O) → suP l ≤ 999 * l.length
  | [], _ => Nat.le_refl _
  | o :: l, h => by
    have ih := suP_le hO l (fun q hq => h q (List.mem_cons_of_mem _ hq))
    have := hO o (h o List.mem_cons_self)
    show o.2 + suP l ≤ 999 * (l.length + 1)
    omega
theorem orL_lt {O : List (Nat × Nat)} (hO : ∀ o ∈ O, o.1 < 4096) : ∀ l : List (Nat × Nat), (∀ o ∈ l, o ∈ O) → orL l < 4096
  | [], _ => by show 0 < 4096; decide
  | o :: l, h => by
    have ih := orL_lt hO l (fun q hq => h q (List.mem_cons_of_mem _ hq))
    exact Nat.or_lt_two_pow (n := 12) (hO o (h o List.mem_cons_self)) ih
theorem bit_12 {X j : Nat} (hX : X < 4096) (h : X.testBit j = true) : j < 12 := by
  rcases Nat.lt_or_ge j 12 with q | q
  · exact q
  · rw [Nat.testBit_lt_two_pow (Nat.lt_of_lt_of_le hX (show 2 ^ 12 ≤ 2 ^ j from Nat.pow_le_pow_right (by decide) q))] at h
    cases h
theorem sub_le {H N : Nat} (h : ∀ j, H.testBit j = true → N.testBit j = true) : H ≤ N := by
  have e : H &&& N = H := by
    apply Nat.eq_of_testBit_eq
    intro j
    rw [Nat.testBit_and]
    by_cases b : H.testBit j = true
    · rw [b, h j b]
      rfl
    · rw [Bool.eq_false_iff.mpr b, Bool.false_and]
  rw [← e]
  exact Nat.and_le_right
theorem eq_of_sub {H N : Nat} (h1 : ∀ j, H.testBit j = true → N.testBit j = true) (h2 : ∀ j, N.testBit j = true → H.testBit j = true) : H = N := Nat.le_antisymm (sub_le h1) (sub_le h2)
/-- the lowest skill that is missing -/
def lobn (M : Nat) : Nat → Nat
  | 0 => 0
  | d + 1 => if M.testBit (11 - d) = true then 11 - d else lobn M d
def lob (M : Nat) : Nat := lobn M 12
def lobOk (M : Nat) : Bool := M.testBit (lob M) && (decide (lob M < 12) && decide (gx_and (M : Int) (gx_w (-(M : Int))) = ((2 ^ lob M : Nat) : Int)))
theorem lob_sl : ∀ q, q < 16 → ∀ k, k < 256 → 256 * q + k = 0 ∨ lobOk (256 * q + k) = true := by decide +kernel
theorem lob_all (M : Nat) (h : M < 4096) : M = 0 ∨ lobOk M = true := by
  have := lob_sl (M / 256) (by omega) (M % 256) (by omega)
  have e : 256 * (M / 256) + M % 256 = M := by omega
  rw [e] at this
  exact this
theorem lob_ok {M : Nat} (hM : M < 4096) (h0 : M ≠ 0) : M.testBit (lob M) = true ∧ lob M < 12 ∧ gx_and (M : Int) (gx_w (-(M : Int))) = ((2 ^ lob M : Nat) : Int) := by
  rcases lob_all M hM with e | e
  · exact absurd e h0
  · unfold lobOk at e
    rw [Bool.and_eq_true, Bool.and_eq_true, decide_eq_true_eq, decide_eq_true_eq] at e
    exact e
def mis (N H : Nat) : Nat := N &&& (2 ^ 32 - (H + 1))
theorem mis_bit {N H i : Nat} (hH : H < 4096) (hi : i < 31) : (mis N H).testBit i = (N.testBit i && !(H.testBit i)) := hnot_bit (by omega) hi
theorem mis_lt {N H : Nat} (hN : N < 4096) : mis N H < 4096 := Nat.lt_of_le_of_lt Nat.and_le_left hN
theorem and_pow {X b : Nat} : X &&& 2 ^ b ≠ 0 ↔ X.testBit b = true := by
  constructor
  · intro h
    rcases Bool.eq_false_or_eq_true (X.testBit b) with e | e
    · exact e
    · exfalso
      refine h (Nat.eq_of_testBit_eq (fun j => ?_))
      rw [Nat.zero_testBit, Nat.testBit_and, Nat.testBit_two_pow]
      by_cases q : b = j
      · rw [← q, e]
        rfl
      · rw [decide_eq_false q, Bool.and_false]
  · intro h z
    have t : (X &&& 2 ^ b).testBit b = true := by
      rw [Nat.testBit_and, h, Nat.testBit_two_pow, decide_eq_true rfl]
      rfl
    rw [z, Nat.zero_testBit] at t
    cases t
def tOk (O : List (Nat × Nat)) (N : Nat) : Prop := N < 4096 ∧ ∀ o ∈ O, (∀ j, o.1.testBit j = true → N.testBit j = true) ∧ o.2 ≤ 999
theorem tOk_lt {O : List (Nat × Nat)} {N : Nat} (h : tOk O N) {o : Nat × Nat} (ho : o ∈ O) : o.1 < 4096 := Nat.lt_of_le_of_lt (sub_le (h.2 o ho).1) h.1
/-- what the class's table says -/
def cSd (O : List (Nat × Nat)) (L : Nat → Int) : Prop := ∀ A, A < 4096 → L A = 1000000 ∨ ∃ P c, aCh O A P c ∧ L A = 16 * (P : Int) + (c : Int) ∧ c ≤ mC A 0
def cClo (O : List (Nat × Nat)) (N : Nat) (L : Nat → Int) (H : Nat) : Prop := L H ≠ 1000000 → ∀ o ∈ O, o.1.testBit (lob (mis N H)) = true → L (H ||| o.1) ≤ L H + (16 * (o.2 : Int) + 1)
def cTb (O : List (Nat × Nat)) (N : Nat) (L : Nat → Int) : Prop := L 0 = 0 ∧ cSd O L ∧ ∀ H, H < N → cClo O N L H
theorem mC_12 {N H : Nat} : mC N H ≤ 12 := hcnt_le _ 12
theorem cSd_bd {O : List (Nat × Nat)} {N : Nat} {L : Nat → Int} (hO : tOk O N) (h : cSd O L) {A : Nat} (hA : A < 4096) (hn : L A ≠ 1000000) : 0 ≤ L A ∧ L A ≤ 191820 := by
  rcases h A hA with e | ⟨P, c, ⟨l, h1, h2, h3, h4⟩, e, hc⟩
  · exact absurd e hn
  · have := suP_le (fun o ho => (hO.2 o ho).2) l h1
    have := mC_12 (N := A) (H := 0)
    omega
theorem cTb_chain {O : List (Nat × Nat)} {N : Nat} {L : Nat → Int} (hO : tOk O N) (hT : cTb O N L) : ∀ (n : Nat) (l : List (Nat × Nat)) (H : Nat), l.length = n → (∀ o ∈ l, o ∈ O) → (∀ j, H.testBit j = true → N.testBit j = true) → L H ≠ 1000000 → (∀ j, N.testBit j = true → H.testBit j = true ∨ (orL l).testBit j = true) → L N ≠ 1000000 ∧ L N ≤ L H + 16 * (suP l : Int) + (n : Int) ∧ L N ≤ L H + 16 * (suP l : Int) + (mC N H : Int) := by
  intro n
  induction n with
  | zero =>
    intro l H hl h1 h2 h3 h4
    have e : l = [] := List.eq_nil_of_length_eq_zero hl
    subst e
    have e : H = N := eq_of_sub h2 (fun j hj => (h4 j hj).elim id (fun q => by
      have q : Nat.testBit 0 j = true := q
      rw [Nat.zero_testBit] at q
      cases q))
    subst e
    exact ⟨h3, by omega, by omega⟩
  | succ n ih =>
    intro l H hl h1 h2 h3 h4
    by_cases e : H = N
    · subst e
      exact ⟨h3, by omega, by omega⟩
    · have hH : H < 4096 := Nat.lt_of_le_of_lt (sub_le h2) hO.1
      have hlt : H < N := Nat.lt_of_le_of_ne (sub_le h2) e
      have m0 : mis N H ≠ 0 := fun z => e (eq_of_sub h2 (fun j hj => by
        have hj12 := bit_12 hO.1 hj
        have t := mis_bit (N := N) (H := H) (i := j) hH (by omega)
        rw [z, Nat.zero_testBit, hj, Bool.true_and] at t
        have t := t.symm
        rw [Bool.not_eq_false'] at t
        exact t))
      obtain ⟨b1, b2, -⟩ := lob_ok (mis_lt (N := N) (H := H) hO.1) m0
      rw [mis_bit hH (by omega), Bool.and_eq_true, Bool.not_eq_true'] at b1
      have ob : (orL l).testBit (lob (mis N H)) = true := (h4 _ b1.1).elim (fun q => by rw [b1.2] at q; cases q) id
      obtain ⟨o, ho, hb⟩ := (orL_bit l).mp ob
      obtain ⟨s, t, rfl⟩ := List.append_of_mem ho
      have oO := h1 o ho
      have st := hT.2.2 H hlt h3 o oO hb
      have bd := cSd_bd hO hT.2.1 hH h3
      have o9 := (hO.2 o oO).2
      have H' : ∀ j, (H ||| o.1).testBit j = true → N.testBit j = true := fun j hj => by
        rw [Nat.testBit_or, Bool.or_eq_true] at hj
        exact hj.elim (h2 j) ((hO.2 o oO).1 j)
      have l' : (s ++ t).length = n := by
        rw [List.length_append, List.length_cons] at hl
        rw [List.length_append]
        omega
      have sp : suP (s ++ o :: t) = o.2 + suP (s ++ t) := by
        rw [suP_app, suP_app]
        show suP s + (o.2 + suP t) = _
        omega
      have mono := hcnt_less (f := fun j => N.testBit j && !((H ||| o.1).testBit j)) (g := fun j => N.testBit j && !(H.testBit j)) (p := lob (mis N H)) 12 (fun q _ hq => by
        rw [Bool.and_eq_true, Bool.not_eq_true', Nat.testBit_or, Bool.or_eq_false_iff] at hq
        rw [hq.1, hq.2.1]
        rfl) b2 (by
        show (N.testBit _ && !(H.testBit _)) = true
        rw [b1.1, b1.2]
        rfl) (by
        show (N.testBit _ && !((H ||| o.1).testBit _)) = false
        rw [Nat.testBit_or, hb, Bool.or_true, Bool.not_true, Bool.and_false])
      have mono : mC N (H ||| o.1) + 1 ≤ mC N H := mono
      obtain ⟨g1, g2, g3⟩ := ih (s ++ t) (H ||| o.1) l' (fun q hq => h1 q (by
        rcases List.mem_append.mp hq with hq | hq
        · exact List.mem_append.mpr (.inl hq)
        · exact List.mem_append.mpr (.inr (List.mem_cons_of_mem _ hq)))) H' (by omega) (fun j hj => by
        rcases h4 j hj with q | q
        · exact .inl (by rw [Nat.testBit_or, q, Bool.true_or])
        · obtain ⟨o', ho', hb'⟩ := (orL_bit _).mp q
          rcases List.mem_append.mp ho' with hq | hq
          · exact .inr ((orL_bit _).mpr ⟨o', List.mem_append.mpr (.inl hq), hb'⟩)
          · rcases List.mem_cons.mp hq with rfl | hq
            · exact .inl (by rw [Nat.testBit_or, hb', Bool.or_true])
            · exact .inr ((orL_bit _).mpr ⟨o', List.mem_append.mpr (.inr hq), hb'⟩))
      rw [sp]
      exact ⟨g1, by omega, by omega⟩
/-- a set that is found once more -/
theorem cSd_put {O : List (Nat × Nat)} {N : Nat} {L L' : Nat → Int} (hO : tOk O N) (h : cSd O L) {H : Nat} (hH : H < 4096) (hn : L H ≠ 1000000) {o : Nat × Nat} (ho : o ∈ O) {b : Nat} (bl12 : b < 12) (h0 : H.testBit b = false) (h1 : o.1.testBit b = true) (e : ∀ A, A ≠ H ||| o.1 → L' A = L A) (e2 : L' (H ||| o.1) = L (H ||| o.1) ∨ L' (H ||| o.1) = L H + (16 * (o.2 : Int) + 1)) : cSd O L' := by
  intro A hA
  by_cases q : A = H ||| o.1
  · subst q
    rcases e2 with e2 | e2
    · rw [e2]
      exact h _ hA
    · right
      rcases h H hH with z | ⟨P, c, ⟨l, l1, l2, l3, l4⟩, hL, hc⟩
      · exact absurd z hn
      · refine ⟨o.2 + P, c + 1, ⟨o :: l, fun q hq => ?_, ?_, ?_, ?_⟩, ?_, ?_⟩
        · rcases List.mem_cons.mp hq with rfl | hq
          · exact ho
          · exact l1 q hq
        · show o.1 ||| orL l = H ||| o.1
          rw [l2, Nat.or_comm]
        · show o.2 + suP l = o.2 + P
          rw [l3]
        · rw [List.length_cons, l4]
        · rw [e2, hL]
          omega
        · have := hcnt_less (f := fun j => H.testBit j && !(Nat.testBit 0 j)) (g := fun j => (H ||| o.1).testBit j && !(Nat.testBit 0 j)) (p := b) 12 (fun q _ hq => by
            rw [Bool.and_eq_true] at hq
            rw [Nat.testBit_or, hq.1, hq.2]
            rfl) bl12 (by
            show ((H ||| o.1).testBit b && !(Nat.testBit 0 b)) = true
            rw [Nat.testBit_or, h1, Bool.or_true, Nat.zero_testBit]
            rfl) (by
            show (H.testBit b && !(Nat.testBit 0 b)) = false
            rw [h0, Bool.false_and])
          have this : mC H 0 + 1 ≤ mC (H ||| o.1) 0 := this
          omega
  · rw [e A q]
    exact h A hA
/-- what the reference's table says -/
def rSd (O : List (Nat × Nat)) (R : Nat → Int) (b : Int) : Prop := ∀ A, A < 4096 → R A = 1000000000 ∨ (R A ≤ b ∧ ∃ P c, aCh O A P c ∧ R A = 64 * (P : Int) + (c : Int))
def rTb (O : List (Nat × Nat)) (R : Nat → Int) (b : Int) : Prop := R 0 = 0 ∧ rSd O R b ∧ ∀ A, A < 4096 → R A ≠ 1000000000 → ∀ o ∈ O, R (A ||| o.1) ≤ R A + (64 * (o.2 : Int) + 1)
theorem rTb_chain {O : List (Nat × Nat)} {N : Nat} {R : Nat → Int} {b : Int} (hO : tOk O N) (hb : b ≤ 3000000) (hT : rTb O R b) : ∀ (l : List (Nat × Nat)) (H : Nat), (∀ o ∈ l, o ∈ O) → H < 4096 → R H ≠ 1000000000 → R (H ||| orL l) ≠ 1000000000 ∧ R (H ||| orL l) ≤ R H + 64 * (suP l : Int) + (l.length : Int)
  | [], H, _, _, h3 => by
    show R (H ||| 0) ≠ 1000000000 ∧ R (H ||| 0) ≤ R H + 64 * ((0 : Nat) : Int) + ((0 : Nat) : Int)
    rw [Nat.or_zero]
    exact ⟨h3, by omega⟩
  | o :: l, H, h1, h2, h3 => by
    have oO := h1 o List.mem_cons_self
    have st := hT.2.2 H h2 h3 o oO
    have o9 := (hO.2 o oO).2
    have lt : H ||| o.1 < 4096 := Nat.or_lt_two_pow (n := 12) h2 (tOk_lt hO oO)
    have bd : R H ≤ b := (hT.2.1 H h2).elim (fun q => absurd q h3) (fun q => q.1)
    obtain ⟨g1, g2⟩ := rTb_chain hO hb hT l (H ||| o.1) (fun q hq => h1 q (List.mem_cons_of_mem _ hq)) lt (by omega)
    have e : H ||| orL (o :: l) = H ||| o.1 ||| orL l := (Nat.or_assoc H o.1 (orL l)).symm
    rw [e]
    have sp : suP (o :: l) = o.2 + suP l := rfl
    rw [sp, List.length_cons]
    exact ⟨g1, by omega⟩
/-- both come to the same -/
theorem least_eq {O : List (Nat × Nat)} {N : Nat} {L R : Nat → Int} {b : Int} (hO : tOk O N) (hb : b ≤ 3000000) (hL : cTb O N L) (hR : rTb O R b) : (L N = 1000000 ∧ R N = 1000000000) ∨ ∃ P c : Nat, c ≤ 12 ∧ P ≤ 11988 ∧ L N = 16 * (P : Int) + (c : Int) ∧ R N = 64 * (P : Int) + (c : Int) := by
  have A : R N ≠ 1000000000 → L N ≠ 1000000 ∧ ∃ P c : Nat, R N = 64 * (P : Int) + (c : Int) ∧ L N ≤ 16 * (P : Int) + (c : Int) ∧ L N ≤ 16 * (P : Int) + 12 := fun h => by
    rcases hR.2.1 N hO.1 with q | ⟨-, P, c, ⟨l, l1, l2, l3, l4⟩, e⟩
    · exact absurd q h
    · obtain ⟨g1, g2, g3⟩ := cTb_chain hO hL l.length l 0 rfl l1 (fun j hj => by rw [Nat.zero_testBit] at hj; cases hj) (by rw [hL.1]; decide) (fun j hj => .inr (by rw [l2]; exact hj))
      have m12 := mC_12 (N := N) (H := 0)
      have z := hL.1
      exact ⟨g1, P, c, e, by omega, by omega⟩
  have B : L N ≠ 1000000 → R N ≠ 1000000000 ∧ ∃ P c : Nat, c ≤ 12 ∧ P ≤ 11988 ∧ L N = 16 * (P : Int) + (c : Int) ∧ R N ≤ 64 * (P : Int) + (c : Int) := fun h => by
    rcases hL.2.1 N hO.1 with q | ⟨P, c, ⟨l, l1, l2, l3, l4⟩, e, hc⟩
    · exact absurd q h
    · obtain ⟨g1, g2⟩ := rTb_chain hO hb hR l 0 l1 (by decide) (by rw [hR.1]; decide)
      rw [Nat.zero_or, l2] at g1 g2
      have m12 := mC_12 (N := N) (H := 0)
      have z := hR.1
      have sl := suP_le (fun o ho => (hO.2 o ho).2) l l1
      exact ⟨g1, P, c, by omega, by omega, e, by omega⟩
  rcases Classical.em (L N = 1000000) with h | h
  · refine .inl ⟨h, ?_⟩
    rcases Classical.em (R N = 1000000000) with q | q
    · exact q
    · exact absurd h (A q).1
  · obtain ⟨q, P, c, c12, p12, e1, e2⟩ := B h
    obtain ⟨-, P', c', f1, f2, f3⟩ := A q
    refine .inr ⟨P, c, c12, p12, e1, ?_⟩
    omega
/-- one more that teaches: the reference's table behind it -/
theorem rTb_put {O : List (Nat × Nat)} {N : Nat} {R R' : Nat → Int} {b : Int} {o : Nat × Nat} (hO : tOk (O ++ [o]) N) (hb : b ≤ 2600000) (hT : rTb O R b) (h0 : R' 0 = R 0) (h1 : ∀ A, A < 4096 → R' A ≤ R A) (h2 : ∀ S, S < 4096 → R S ≠ 1000000000 → S ||| o.1 ≠ S → R' (S ||| o.1) ≤ R S + (64 * (o.2 : Int) + 1)) (h3 : ∀ A, A < 4096 → R' A = R A ∨ ∃ S, S < 4096 ∧ R S ≠ 1000000000 ∧ S ||| o.1 = A ∧ R' A = R S + (64 * (o.2 : Int) + 1)) : rTb (O ++ [o]) R' (b + 63937) := by
  have oO : o ∈ O ++ [o] := List.mem_append.mpr (.inr List.mem_cons_self)
  have inc : ∀ q ∈ O, q ∈ O ++ [o] := fun q hq => List.mem_append.mpr (.inl hq)
  have up : ∀ A P c, aCh O A P c → aCh (O ++ [o]) A P c := fun A P c ⟨l, l1, l2⟩ => ⟨l, fun q hq => inc q (l1 q hq), l2⟩
  have o9 := (hO.2 o oO).2
  refine ⟨by rw [h0]; exact hT.1, fun A hA => ?_, fun A hA hn q hq => ?_⟩
  · rcases h3 A hA with e | ⟨S, s1, s2, s3, e⟩
    · rw [e]
      rcases hT.2.1 A hA with z | ⟨z1, P, c, z2, z3⟩
      · exact .inl z
      · exact .inr ⟨by omega, P, c, up _ _ _ z2, z3⟩
    · rcases hT.2.1 S s1 with z | ⟨z1, P, c, ⟨l, l1, l2, l3, l4⟩, z3⟩
      · exact absurd z s2
      · refine .inr ⟨by omega, o.2 + P, c + 1, ⟨o :: l, fun q hq => ?_, ?_, ?_, ?_⟩, by omega⟩
        · rcases List.mem_cons.mp hq with rfl | hq
          · exact oO
          · exact inc q (l1 q hq)
        · show o.1 ||| orL l = A
          rw [l2, Nat.or_comm]
          exact s3
        · show o.2 + suP l = o.2 + P
          rw [l3]
        · rw [List.length_cons, l4]
  · have lt : ∀ {X : Nat} {q : Nat × Nat}, X < 4096 → q ∈ O ++ [o] → X ||| q.1 < 4096 := fun hX hq => Nat.or_lt_two_pow (n := 12) hX (tOk_lt hO hq)
    rcases List.mem_append.mp hq with hq' | hq'
    · have q9 := (hO.2 q hq).2
      rcases h3 A hA with e | ⟨S, s1, s2, s3, e⟩
      · have n1 : R A ≠ 1000000000 := by rw [← e]; exact hn
        have := hT.2.2 A hA n1 q hq'
        have := h1 (A ||| q.1) (lt hA hq)
        omega
      · have t1 := hT.2.2 S s1 s2 q hq'
        have bd : R S ≤ b := (hT.2.1 S s1).elim (fun z => absurd z s2) (fun z => z.1)
        have eA : A ||| q.1 = S ||| q.1 ||| o.1 := by
          rw [← s3, Nat.or_assoc, Nat.or_assoc, Nat.or_comm o.1 q.1]
        have lS := lt s1 hq
        by_cases z : S ||| q.1 ||| o.1 = S ||| q.1
        · have := h1 (S ||| q.1) lS
          rw [eA, z]
          omega
        · have := h2 (S ||| q.1) lS (by omega) z
          rw [eA]
          omega
    · have e := List.mem_singleton.mp hq'
      subst e
      rcases h3 A hA with e | ⟨S, s1, s2, s3, e⟩
      · have n1 : R A ≠ 1000000000 := by rw [← e]; exact hn
        by_cases z : A ||| q.1 = A
        · rw [z]
          omega
        · have := h2 A hA n1 z
          omega
      · have z : A ||| q.1 = A := by
          rw [← s3, Nat.or_assoc, Nat.or_self]
        rw [z]
        omega
