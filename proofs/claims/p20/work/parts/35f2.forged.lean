/-! forged: counted by years, or by marks -/
/-! counted by years, or by marks -/
def fmd (s : Nat → Int) (d : Int) : Nat := hcnt (fD s d) 40
theorem fsK_s (s : Nat → Int) (d : Int) (K : Nat) : ∀ n : Nat, fsK s d (K + 1) n = fsK s d K n + (if fD s d K = true ∧ 0 ≤ s (200 + K) ∧ s (200 + K) < (n : Int) then 1 else 0)
  | 0 => by
    rw [if_neg (fun h => by omega)]
    rfl
  | n + 1 => by
    have ih := fsK_s s d K n
    have e : fY s d (n : Int) K = (fD s d K && decide (s (200 + K) = (n : Int))) := by
      unfold fY fD
      rw [Bool.and_assoc]
    show fsK s d (K + 1) n + (hcnt (fY s d n) K + if fY s d n K = true then 1 else 0) = fsK s d K n + hcnt (fY s d n) K + _
    rw [ih, e]
    cases c1 : fD s d K with
    | false =>
      have f1 : ∀ p : Prop, ¬ (false = true ∧ p) := fun p h => by cases h.1
      rw [Bool.false_and, if_neg (f1 _), if_neg (by decide), if_neg (f1 _)]
      omega
    | true =>
      by_cases c2 : s (200 + K) = (n : Int)
      · rw [decide_eq_true c2, Bool.true_and, if_neg (fun h => by omega), if_pos rfl, if_pos ⟨rfl, by omega, by omega⟩]
        omega
      · rw [decide_eq_false c2, Bool.and_false]
        by_cases c3 : 0 ≤ s (200 + K) ∧ s (200 + K) < (n : Int)
        · rw [if_pos ⟨rfl, c3⟩, if_neg (by decide), if_pos ⟨rfl, c3.1, by omega⟩]
          omega
        · rw [if_neg (fun h => c3 h.2), if_neg (by decide), if_neg (fun h => c3 ⟨h.2.1, by omega⟩)]
          omega
theorem fsm_md {s : Nat → Int} (hr : ∀ y, y < 40 → 0 ≤ s (200 + y) ∧ s (200 + y) ≤ 9) (d : Int) : fsm s d 10 = fmd s d := by
  have h : ∀ K : Nat, K ≤ 40 → fsK s d K 10 = hcnt (fD s d) K := by
    intro K
    induction K with
    | zero => exact fun _ => rfl
    | succ K ih =>
      intro hK
      have := hr K (by omega)
      rw [fsK_s, ih (by omega)]
      show _ = hcnt (fD s d) K + if fD s d K = true then 1 else 0
      by_cases c : fD s d K = true
      · rw [if_pos c, if_pos ⟨c, by omega, by omega⟩]
      · rw [if_neg c, if_neg (fun h => c h.1)]
  exact h 40 (by omega)
theorem fmx_bd (s : Nat → Int) (d : Int) : ∀ k : Nat, 0 ≤ fmx s d k ∧ fmx s d k ≤ 40
  | 0 => by
    show (0 : Int) ≤ 0 ∧ (0 : Int) ≤ 40
    omega
  | k + 1 => by
    have h1 := fmx_bd s d k
    have h2 := fmk_bd s d (k : Int)
    unfold fmx
    split <;> omega
theorem fmx_0 {s : Nat → Int} {d : Int} : ∀ k : Nat, fsm s d k = 0 → fmx s d k = 0
  | 0, _ => rfl
  | k + 1, h => by
    have h : fsm s d k + fmk s d (k : Int) = 0 := h
    have ih := fmx_0 k (show fsm s d k = 0 by omega)
    have e : fmk s d (k : Int) = 0 := by omega
    unfold fmx
    rw [ih, e]
    rfl
def ffw (s : Nat → Int) : Nat → Int
  | 0 => 0
  | k + 1 => ffw s k + (((fmd s (k : Int) : Nat) : Int) - fmx s (k : Int) 10)
def fwy (s : Nat → Int) : Nat → Int
  | 0 => 1
  | k + 1 => if 0 < ((fmd s (k : Int) : Nat) : Int) then hlw (fwy s k * ((fsh s (k : Int) 10 : Nat) : Int)) else fwy s k
theorem ffw_bd (s : Nat → Int) : ∀ k : Nat, -(40 * (k : Int)) ≤ ffw s k ∧ ffw s k ≤ 40 * (k : Int)
  | 0 => by
    show -(40 * ((0 : Nat) : Int)) ≤ 0 ∧ (0 : Int) ≤ 40 * ((0 : Nat) : Int)
    omega
  | k + 1 => by
    have h1 := ffw_bd s k
    have h2 := fmx_bd s (k : Int) 10
    have h3 : fmd s (k : Int) ≤ 40 := hcnt_le _ 40
    show _ ≤ ffw s k + (((fmd s (k : Int) : Nat) : Int) - fmx s (k : Int) 10) ∧ ffw s k + (((fmd s (k : Int) : Nat) : Int) - fmx s (k : Int) 10) ≤ _
    omega
theorem ffw_w (s : Nat → Int) {k : Nat} (hk : k < 100) {x : Int} (hx : -100 ≤ x ∧ x ≤ 100) : hlw (ffw s k + x) = ffw s k + x := by
  have := ffw_bd s k
  exact hlw_id (by omega) (by omega)
theorem hl252 {xs : List Int32} {n : Nat} {Q : hQ} {m : gx_M} {w : Int} (hr : ∀ y, y < 40 → 0 ≤ m 87 (200 + y) ∧ m 87 (200 + y) ≤ 9) (h : Q (some (.inr (.inr (if w = 0 then ffw (m 87) 100 else fwy (m 87) 100)))) m) : ∀ d k : Nat, k + d = 100 → hxn xs n yp_m252 98 [(0, .inr (.inl 86)), (2, .inl w), (3, .inr (.inr (ffw (m 87) k))), (5, .inr (.inr (fwy (m 87) k))), (7, .inl (k : Int))] [] m Q := by
  intro d
  induction d with
  | zero =>
    intro k hk
    have e : k = 100 := by omega
    subst e
    refine hx_dn (hr252_98 (by omega) (fun _ c => ?_) (fun _ c => ?_) (fun c => absurd c (by omega)) (fun c => absurd c (by omega)))
    · rw [if_neg c] at h
      exact h
    · rw [if_pos c] at h
      exact h
  | succ d ih =>
    intro k hk
    have e1 := fsm_md hr (k : Int)
    have b1 := fmx_bd (m 87) (k : Int) 10
    have b2 : fmd (m 87) (k : Int) ≤ 40 := hcnt_le _ 40
    refine hx_dn (hr252_98 (by omega) (fun c => absurd c (by omega)) (fun c => absurd c (by omega)) (fun _ c => ?_) (fun _ c => ?_))
    · rw [e1] at c ⊢
      rw [ffw_w (m 87) (by omega) (by omega)]
      have e3 : hlw (ffw (m 87) k + ((fmd (m 87) (k : Int) : Nat) : Int) - fmx (m 87) (k : Int) 10) = ffw (m 87) (k + 1) := by
        have := ffw_bd (m 87) k
        rw [hlw_id (by omega) (by omega)]
        show _ = ffw (m 87) k + (((fmd (m 87) (k : Int) : Nat) : Int) - fmx (m 87) (k : Int) 10)
        omega
      have e4 : hlw (fwy (m 87) k * ((fsh (m 87) (k : Int) 10 : Nat) : Int)) = fwy (m 87) (k + 1) := (if_pos (show 0 < ((fmd (m 87) (k : Int) : Nat) : Int) by omega)).symm
      rw [e3, e4]
      exact ih (k + 1) (by omega)
    · have z0 : fsm (m 87) (k : Int) 10 = 0 := by omega
      have z1 := fmx_0 10 z0
      have z2 : fmd (m 87) (k : Int) = 0 := by omega
      have e3 : ffw (m 87) (k + 1) = ffw (m 87) k := by
        show ffw (m 87) k + (((fmd (m 87) (k : Int) : Nat) : Int) - fmx (m 87) (k : Int) 10) = _
        omega
      have e4 : fwy (m 87) (k + 1) = fwy (m 87) k := if_neg (by omega)
      have := ih (k + 1) (by omega)
      rw [e3, e4] at this
      exact this
/-- what is answered -/
def fV (s : Nat → Int) (y w : Int) : Int := if w = 0 then ffw s 100 else if w = 1 then fwy s 100 else if w = 2 ∧ (0 ≤ y ∧ y < 40 ∧ s (440 + y).toNat = 1) then (if 1 < ((fsh s (s y.toNat) 10 : Nat) : Int) ∨ ((fmk s (s y.toNat) (s (200 + y).toNat) : Nat) : Int) < fmx s (s y.toNat) 10 then 1 else 0) else -1
theorem hs252 {xs : List Int32} {n : Nat} {Q : hQ} {m : gx_M} {y w : Int} (hr : ∀ y, y < 40 → 0 ≤ m 87 (200 + y) ∧ m 87 (200 + y) ≤ 9) (h : Q (some (.inr (.inr (fV (m 87) y w)))) m) : hxn xs n yp_m252 0 [(0, .inr (.inl 86)), (1, .inl y), (2, .inl w)] [] m Q := by
  have g : ∀ v, v = fV (m 87) y w → Q (some (.inr (.inr v))) m := fun v e => by rw [e]; exact h
  have hy : aYear (m 87) y → (gx_w (0 + y)).toNat = y.toNat ∧ gx_w (200 + y) = 200 + y := fun hy => by
    obtain ⟨h1, h2, -⟩ := hy
    rw [gx_w_id (by omega) (by omega), gx_w_id (by omega) (by omega), Int.zero_add]
    exact ⟨rfl, rfl⟩
  have f2 : w = 2 → aYear (m 87) y → fV (m 87) y w = if 1 < ((fsh (m 87) (m 87 y.toNat) 10 : Nat) : Int) ∨ ((fmk (m 87) (m 87 y.toNat) (m 87 (200 + y).toNat) : Nat) : Int) < fmx (m 87) (m 87 y.toNat) 10 then 1 else 0 := fun h1 h2 => by
    unfold fV
    rw [if_neg (by omega), if_neg (by omega), if_pos ⟨h1, h2⟩]
  refine hx_dn (hr252_0 (fun a b _ => ?_) (fun _ a b => absurd b a) (fun _ a b => absurd b a) (fun _ a b => absurd b a) (fun _ a b _ c => g _ ?_) (fun _ a b _ c1 c2 => g _ ?_) (fun _ a b _ _ c => g _ ?_) (fun _ a b => g _ ?_) (fun a => g _ ?_))
  · have e : fV (m 87) y w = if w = 0 then ffw (m 87) 100 else fwy (m 87) 100 := by
      unfold fV
      by_cases c : w = 0
      · rw [if_pos c, if_pos c]
      · rw [if_neg c, if_neg c, if_pos (by omega)]
    rw [e] at h
    exact hl252 hr h 100 0 rfl
  · rw [(hy b).1] at c
    rw [f2 a b, if_pos (.inl c)]
  · rw [(hy b).1] at c1 c2
    rw [(hy b).2] at c2
    rw [f2 a b, if_neg (fun h => by omega)]
  · rw [(hy b).1, (hy b).2] at c
    rw [f2 a b, if_pos (.inr c)]
  · unfold fV
    rw [if_neg (by omega), if_neg (by omega), if_neg (fun h => b h.2)]
  · unfold fV
    rw [if_neg (by omega), if_neg (by omega), if_neg (fun h => by omega)]
