/-! how far each one is: rows of numbers alone -/
def lf_up (f : Nat → Int) (a : Nat) (v : Int) : Nat → Int := fun k => if k = a then v else f k
theorem gx_u_row {m : gx_M} {c k : Nat} {v : Int} : gx_u m c k v c = lf_up (m c) k v := by
  funext k'
  unfold gx_u lf_up
  by_cases h : k' = k
  · rw [if_pos ⟨rfl, h⟩, if_pos h]
  · rw [if_neg (fun e => h e.2), if_neg h]
theorem gx_u_off {m : gx_M} {c k : Nat} {v : Int} {c' : Nat} (h : c' ≠ c) : gx_u m c k v c' = m c' := by
  funext k'
  exact gx_u_ne (fun e => h e.1)
def lf_W (E : Nat → Nat → Prop) (q : Nat) : Nat → Nat → Prop
  | 0, p => p = q
  | n + 1, p => ∃ b, b < 8 ∧ E p b ∧ lf_W E q n b
def lf_1 (f : Nat → Int) (k : Nat) : Int := if f k < 1000000000 then 1 else 0
def lf_c (f : Nat → Int) : Int := lf_1 f 0 + lf_1 f 1 + lf_1 f 2 + lf_1 f 3 + lf_1 f 4 + lf_1 f 5 + lf_1 f 6 + lf_1 f 7
theorem lf_1_bd (f : Nat → Int) (k : Nat) : 0 ≤ lf_1 f k ∧ lf_1 f k ≤ 1 := by unfold lf_1; split <;> omega
theorem lf_c_bd (f : Nat → Int) : 0 ≤ lf_c f ∧ lf_c f ≤ 8 := by
  have h0 := lf_1_bd f 0; have h1 := lf_1_bd f 1; have h2 := lf_1_bd f 2; have h3 := lf_1_bd f 3
  have h4 := lf_1_bd f 4; have h5 := lf_1_bd f 5; have h6 := lf_1_bd f 6; have h7 := lf_1_bd f 7
  unfold lf_c; omega
theorem lf_1_up (f : Nat → Int) (a : Nat) (v : Int) (k : Nat) : lf_1 (lf_up f a v) k = if k = a then (if v < 1000000000 then 1 else 0) else lf_1 f k := by
  unfold lf_1 lf_up
  by_cases h : k = a
  · rw [if_pos h, if_pos h]
  · rw [if_neg h, if_neg h]
theorem lf_c_up (f : Nat → Int) {a : Nat} (ha : a < 8) (v : Int) : lf_c (lf_up f a v) = lf_c f - lf_1 f a + (if v < 1000000000 then 1 else 0) := by
  unfold lf_c
  simp only [lf_1_up]
  have : a = 0 ∨ a = 1 ∨ a = 2 ∨ a = 3 ∨ a = 4 ∨ a = 5 ∨ a = 6 ∨ a = 7 := by omega
  rcases this with rfl | rfl | rfl | rfl | rfl | rfl | rfl | rfl <;> simp <;> omega
def lf_ok (E : Nat → Nat → Prop) (q : Nat) (f : Nat → Int) : Prop := (∀ p, p < 8 → 0 ≤ f p ∧ f p ≤ 1000000000) ∧ f q = 0 ∧ ∀ p, p < 8 → f p < 1000000000 → lf_W E q (f p).toNat p ∧ f p + 1 ≤ lf_c f
def lf_lo (E : Nat → Nat → Prop) (q n : Nat) (f : Nat → Int) : Prop := ∀ a, a < 8 → ∀ k : Nat, k ≤ n → lf_W E q k a → f a ≤ (k : Int)
def lf_mid (E : Nat → Nat → Prop) (q n a0 b0 : Nat) (f : Nat → Int) : Prop := lf_lo E q n f ∧ (∀ a, a < a0 → a < 8 → ∀ k : Nat, k ≤ n + 1 → lf_W E q k a → f a ≤ (k : Int)) ∧ ∀ b, b < b0 → b < 8 → E a0 b → ∀ k : Nat, k ≤ n → lf_W E q k b → f a0 ≤ (k : Int) + 1
def lf_min (x y : Int) : Int := if x < y then x else y
section LFS
variable {E : Nat → Nat → Prop} {q : Nat} {f : Nat → Int}
theorem lf_st_ok (h : lf_ok E q f) {a b : Nat} (ha : a < 8) (hb : b < 8) (hE : E a b) (hf : f b < 1000000000) : lf_ok E q (lf_up f a (lf_min (f a) (f b + 1))) := by
  obtain ⟨h1, h2, h3⟩ := h
  obtain ⟨w1, w2⟩ := h3 b hb hf
  have hc := lf_c_bd f
  have hb0 := h1 b hb
  have ha0 := h1 a ha
  have h1a := lf_1_bd f a
  by_cases hlt : f a < f b + 1
  · have e : lf_up f a (lf_min (f a) (f b + 1)) = f := by
      funext k
      unfold lf_up lf_min
      rw [if_pos hlt]
      split
      · rename_i e; rw [e]
      · rfl
    rw [e]
    exact ⟨h1, h2, h3⟩
  · have hv : lf_min (f a) (f b + 1) = f b + 1 := if_neg hlt
    rw [hv]
    have hcu := lf_c_up f ha (f b + 1)
    rw [if_pos (by omega)] at hcu
    have hcc : lf_c (lf_up f a (f b + 1)) = lf_c f - lf_1 f a + 1 := hcu
    have hfa : f a < 1000000000 → lf_1 f a = 1 := fun e => if_pos e
    have hfa' : ¬ f a < 1000000000 → lf_1 f a = 0 := fun e => if_neg e
    refine ⟨fun p hp => ?_, ?_, fun p hp hlt' => ?_⟩
    · unfold lf_up
      split
      · omega
      · exact h1 p hp
    · unfold lf_up
      split
      · rename_i e
        rw [e] at h2
        omega
      · exact h2
    · unfold lf_up at hlt' ⊢
      by_cases hpa : p = a
      · subst hpa
        rw [if_pos rfl]
        refine ⟨?_, ?_⟩
        · rw [show (f b + 1).toNat = (f b).toNat + 1 by omega]
          exact ⟨b, hb, hE, w1⟩
        · show f b + 1 + 1 ≤ lf_c (lf_up f p (f b + 1))
          rw [hcc]
          by_cases hq : f p < 1000000000
          · have := (h3 p hp hq).2
            rw [hfa hq]
            omega
          · rw [hfa' hq]
            omega
      · rw [if_neg hpa] at hlt' ⊢
        obtain ⟨g1, g2⟩ := h3 p hp hlt'
        refine ⟨g1, ?_⟩
        show f p + 1 ≤ lf_c (lf_up f a (f b + 1))
        omega
theorem lf_st_le {a : Nat} {y : Int} (k : Nat) : lf_up f a (lf_min (f a) y) k ≤ f k := by
  unfold lf_up lf_min
  split
  · rename_i e
    subst e
    split <;> omega
  · exact Int.le_refl _
theorem lf_st_mid {n a b : Nat} (hn : n ≤ 8) (hb : b < 8) (h : lf_mid E q n a b f) : lf_mid E q n a (b + 1) (lf_up f a (lf_min (f a) (f b + 1))) := by
  obtain ⟨h1, h2, h3⟩ := h
  refine ⟨fun a' ha' k hk hw => Int.le_trans (lf_st_le a') (h1 a' ha' k hk hw), fun a' h4 h5 k hk hw => Int.le_trans (lf_st_le a') (h2 a' h4 h5 k hk hw), fun b' h4 h5 hE k hk hw => ?_⟩
  by_cases hbb : b' < b
  · exact Int.le_trans (lf_st_le a) (h3 b' hbb h5 hE k hk hw)
  · have e : b' = b := by omega
    subst e
    have := h1 b' h5 k hk hw
    unfold lf_up lf_min
    rw [if_pos rfl]
    split <;> omega
theorem lf_no_mid {n a b : Nat} (hn : n ≤ 8) (hb : b < 8) (hno : E a b → 1000000000 ≤ f b) (h : lf_mid E q n a b f) : lf_mid E q n a (b + 1) f := by
  obtain ⟨h1, h2, h3⟩ := h
  refine ⟨h1, h2, fun b' h4 h5 hE k hk hw => ?_⟩
  by_cases hbb : b' < b
  · exact h3 b' hbb h5 hE k hk hw
  · have e : b' = b := by omega
    subst e
    have h6 := h1 b' h5 k hk hw
    have h7 := hno hE
    omega
theorem lf_nx_mid {n a : Nat} (hok : lf_ok E q f) (h : lf_mid E q n a 8 f) : lf_mid E q n (a + 1) 0 f := by
  obtain ⟨h1, h2, h3⟩ := h
  refine ⟨h1, fun a' h4 h5 k hk hw => ?_, fun b h4 => absurd h4 (Nat.not_lt_zero _)⟩
  by_cases haa : a' < a
  · exact h2 a' haa h5 k hk hw
  · have e : a' = a := by omega
    subst e
    cases k with
    | zero =>
      have e : a' = q := hw
      rw [e, hok.2.1]
      exact Int.le_refl _
    | succ k =>
      obtain ⟨b, hb, hE, hw⟩ := hw
      have := h3 b hb hb hE k (by omega) hw
      omega
theorem lf_nx_lo {n : Nat} (h : lf_mid E q n 8 0 f) : lf_lo E q (n + 1) f := fun a ha k hk hw => h.2.1 a ha ha k hk hw
theorem lf_mid0 {n : Nat} (h : lf_lo E q n f) : lf_mid E q n 0 0 f := ⟨h, fun a h4 => absurd h4 (Nat.not_lt_zero _), fun b h4 => absurd h4 (Nat.not_lt_zero _)⟩
/-- at the end: a neighbour that is one nearer -/
theorem lf_near (hok : lf_ok E q f) (hlo : lf_lo E q 8 f) {p : Nat} (hp : p < 8) (h1 : f p < 1000000000) (h2 : 0 < f p) : ∃ b, b < 8 ∧ E p b ∧ f b = f p - 1 := by
  obtain ⟨w1, w2⟩ := hok.2.2 p hp h1
  have hc := lf_c_bd f
  obtain ⟨n, hn⟩ : ∃ n : Nat, (f p).toNat = n + 1 := ⟨(f p).toNat - 1, by omega⟩
  rw [hn] at w1
  obtain ⟨b, hb, hE, hw⟩ := w1
  have h3 := hlo b hb n (by omega) hw
  have h4 := hok.1 b hb
  refine ⟨b, hb, hE, ?_⟩
  by_cases he : f b = f p - 1
  · exact he
  · exfalso
    have hbF : f b < 1000000000 := by omega
    obtain ⟨w3, -⟩ := hok.2.2 b hb hbF
    have h5 := hlo p hp ((f b).toNat + 1) (by omega) ⟨b, hb, hE, w3⟩
    omega
end LFS
