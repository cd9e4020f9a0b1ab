/-! forged: the class -/
def fOff (m m' : gx_M) : Prop := ∀ c, c ≠ 70 → c ≠ 73 → m' c = m c
theorem fOff_r (m : gx_M) : fOff m m := fun _ _ _ => rfl
theorem fOff_t {m m1 m2 : gx_M} (h : fOff m m1) (h' : fOff m1 m2) : fOff m m2 := fun c a b => (h' c a b).trans (h c a b)
theorem fOff_u {m m' : gx_M} (h : fOff m m') {c k : Nat} {v : Int} (hc : c = 70 ∨ c = 73) : fOff m (gx_u m' c k v) := fun c' h1 h2 => by
  funext j
  rw [gx_u_ne (by omega)]
  exact congrFun (h c' h1 h2) j
theorem fyr {m m' : gx_M} (hS : hSt 5 87 m) (ho : fOff m m') {k : Nat} (hk : k < 40) : cYear 5 m' (k : Int) ↔ m 87 (440 + k) = 1 := by
  have e : m' 5 1 = ((hmask (fun y => decide (m 87 (440 + y) = 1)) 40 : Nat) : Int) := by
    rw [ho 5 (by decide) (by decide)]
    exact hS.2.1
  unfold cYear
  rw [e, hmask_test hk]
  by_cases c : m 87 (440 + k) = 1
  · rw [if_pos (decide_eq_true c)]
    exact ⟨fun _ => c, fun _ => ⟨by omega, by omega, by decide⟩⟩
  · rw [if_neg (by rw [decide_eq_false c]; decide)]
    exact ⟨fun h => absurd rfl h.2.2, fun h => absurd h c⟩
theorem fda {m m' : gx_M} (hS : hSt 5 87 m) (ho : fOff m m') {k : Nat} (hk : k < 40) : m' 7 k = m 87 k := by
  have e : m 7 k = m 87 (0 + k) := hS.2.2.2.1 2 k (by decide) (by decide) hk
  rw [Nat.zero_add] at e
  rw [ho 7 (by decide) (by decide), e]
theorem fma {m m' : gx_M} (hS : hSt 5 87 m) (ho : fOff m m') {k : Nat} (hk : k < 40) : m' 11 k = m 87 (200 + k) := by
  have e : m 11 k = m 87 (200 + k) := hS.2.2.2.1 6 k (by decide) (by decide) hk
  rw [ho 11 (by decide) (by decide), e]
/-- the counts of a date -/
def fPo (m : gx_M) (d : Int) (m' : gx_M) : Prop := fOff m m' ∧ (∀ j : Nat, j < 10 → m' 73 j = ((fmk (m 87) d (j : Int) : Nat) : Int)) ∧ m' 70 4 = ((fmd (m 87) d : Nat) : Int)
theorem hl129_145 {xs : List Int32} {n : Nat} {Q : hQ} {m : gx_M} {d : Int} (h : ∀ m', fPo m d m' → m' 70 5 = fmx (m 87) d 10 → m' 70 6 = ((fsh (m 87) d 10 : Nat) : Int) → Q none m') : ∀ e k : Nat, k + e = 10 → ∀ m', fPo m d m' → m' 70 5 = fmx (m 87) d 10 → m' 70 6 = ((fsh (m 87) d k : Nat) : Int) → hxn xs n yp_m129 145 [(0, .inr (.inl 70)), (3, .inl (k : Int))] [] m' Q := by
  intro e
  induction e with
  | zero =>
    intro k hk m' hp h5 h6
    have e : k = 10 := by omega
    subst e
    have : fsh (m 87) d 10 ≤ 10 := hcnt_le _ 10
    exact hx_dn (hr129_145 (by omega) (by omega) (fun _ => h m' hp h5 h6) (fun c => absurd c (by omega)) (fun c => absurd c (by omega)))
  | succ e ih =>
    intro k hk m' hp h5 h6
    have : fsh (m 87) d k ≤ k := hcnt_le _ k
    have e1 : m' 73 (k : Int).toNat = ((fmk (m 87) d (k : Int) : Nat) : Int) := by rw [Int.toNat_natCast]; exact hp.2.1 k (by omega)
    refine hx_dn (hr129_145 (by omega) (by omega) (fun c => absurd c (by omega)) (fun _ c => ?_) (fun _ c => ?_))
    · rw [e1, h5] at c
      exact ih (k + 1) (by omega) m' hp h5 (by rw [h6]; exact (hcnt_f0 (decide_eq_false c)).symm)
    · rw [e1, h5] at c
      refine ih (k + 1) (by omega) _ ⟨fOff_u hp.1 (.inl rfl), fun j hj => ?_, ?_⟩ ?_ ?_
      · rw [gx_u_ne (by omega)]
        exact hp.2.1 j hj
      · rw [gx_u_ne (by omega)]
        exact hp.2.2
      · rw [gx_u_ne (by omega)]
        exact h5
      · rw [gx_u_self, h6]
        exact (hcnt_t (decide_eq_true c)).symm
theorem hl129_109 {xs : List Int32} {n : Nat} {Q : hQ} {m : gx_M} {d : Int} (h : ∀ m', fPo m d m' → m' 70 5 = fmx (m 87) d 10 → m' 70 6 = ((fsh (m 87) d 10 : Nat) : Int) → Q none m') : ∀ e k : Nat, k + e = 10 → ∀ m', fPo m d m' → m' 70 5 = fmx (m 87) d k → hxn xs n yp_m129 109 [(0, .inr (.inl 70)), (3, .inl (k : Int))] [] m' Q := by
  intro e
  induction e with
  | zero =>
    intro k hk m' hp h5
    have e : k = 10 := by omega
    subst e
    refine hx_dn (hr129_109 (by omega) (fun _ => ?_) (fun c => absurd c (by omega)))
    refine hl129_145 h 10 0 rfl _ ⟨fOff_u hp.1 (.inl rfl), fun j hj => ?_, ?_⟩ ?_ ?_
    · rw [gx_u_ne (by omega)]
      exact hp.2.1 j hj
    · rw [gx_u_ne (by omega)]
      exact hp.2.2
    · rw [gx_u_ne (by omega)]
      exact h5
    · rw [gx_u_self]
      rfl
  | succ e ih =>
    intro k hk m' hp h5
    have e1 : m' 73 (k : Int).toNat = ((fmk (m 87) d (k : Int) : Nat) : Int) := by rw [Int.toNat_natCast]; exact hp.2.1 k (by omega)
    refine hx_dn (hr129_109 (by omega) (fun c => absurd c (by omega)) (fun _ => ?_))
    refine ih (k + 1) (by omega) _ ⟨fOff_u hp.1 (.inl rfl), fun j hj => ?_, ?_⟩ ?_
    · rw [gx_u_ne (by omega)]
      exact hp.2.1 j hj
    · rw [gx_u_ne (by omega)]
      exact hp.2.2
    · rw [gx_u_self, e1, h5]
      rfl
theorem hl129_28 {xs : List Int32} {n : Nat} {Q : hQ} {m : gx_M} {d : Int} (hS : hSt 5 87 m) (hr : ∀ y, y < 40 → 0 ≤ m 11 y ∧ m 11 y ≤ 9) (h : ∀ m', fPo m d m' → hxn xs n yp_m129 109 [(0, .inr (.inl 70)), (3, .inl 0)] [] (gx_u m' 70 5 0) Q) : ∀ e k : Nat, k + e = 40 → ∀ m', fOff m m' → (∀ j : Nat, j < 10 → m' 73 j = ((hcnt (fY (m 87) d (j : Int)) k : Nat) : Int)) → m' 70 4 = ((hcnt (fD (m 87) d) k : Nat) : Int) → hxn xs n yp_m129 28 [(0, .inr (.inl 70)), (1, .inr (.inl 5)), (2, .inl d), (3, .inl (k : Int))] [] m' Q := by
  intro e
  induction e with
  | zero =>
    intro k hk m' ho h1 h2
    have e : k = 40 := by omega
    subst e
    have := hcnt_le (fD (m 87) d) 40
    exact hx_dn (hr129_28 (by omega) (by omega) (fun _ => h m' ⟨ho, h1, h2⟩) (fun c => absurd c (by omega)) (fun c => absurd c (by omega)) (fun c => absurd c (by omega)) (fun c => absurd c (by omega)) (fun c => absurd c (by omega)))
  | succ e ih =>
    intro k hk m' ho h1 h2
    have hk' : k < 40 := by omega
    have hle := hcnt_le (fD (m 87) d) k
    have y1 := fyr hS ho hk'
    have d1 := fda hS ho hk'
    have k1 := fma hS ho hk'
    have kr : 0 ≤ m' 11 k ∧ m' 11 k ≤ 9 := by
      rw [ho 11 (by decide) (by decide)]
      exact hr k hk'
    have en : (k : Int).toNat = k := Int.toNat_natCast k
    have no : fD (m 87) d k = false → hxn xs n yp_m129 28 [(0, .inr (.inl 70)), (1, .inr (.inl 5)), (2, .inl d), (3, .inl ((k : Int) + 1))] [] m' Q := fun hf => by
      refine ih (k + 1) (by omega) m' ho (fun j hj => ?_) (by rw [h2, hcnt_f0 hf])
      have hy : fY (m 87) d (j : Int) k = false := by
        have e : fY (m 87) d (j : Int) k = (fD (m 87) d k && decide (m 87 (200 + k) = (j : Int))) := by
          unfold fY fD
          rw [Bool.and_assoc]
        rw [e, hf, Bool.false_and]
      rw [h1 j hj, hcnt_f0 hy]
    refine hx_dn (hr129_28 (by omega) (by omega) (fun c => absurd c (by omega)) (fun _ _ _ c => absurd c (by rw [en]; omega)) (fun _ _ _ _ c => absurd c (by rw [en]; omega)) (fun _ c1 c2 _ _ => ?_) (fun _ c1 c2 => no ?_) (fun _ c1 => no ?_))
    · rw [en] at c2 ⊢
      rw [d1] at c2
      have c1 := y1.mp c1
      have hD : fD (m 87) d k = true := by
        unfold fD
        rw [decide_eq_true c1, decide_eq_true c2]
        rfl
      obtain ⟨v, hv⟩ : ∃ v : Nat, m' 11 k = (v : Int) := ⟨(m' 11 k).toNat, by omega⟩
      have hv9 : v < 10 := by omega
      rw [hv, Int.toNat_natCast, h1 v hv9]
      have hl := hcnt_le (fY (m 87) d (v : Int)) k
      rw [gx_w_id (by omega) (by omega)]
      refine ih (k + 1) (by omega) _ (fOff_u (fOff_u ho (.inl rfl)) (.inr rfl)) (fun j hj => ?_) ?_
      · have e : fY (m 87) d (j : Int) k = decide (m 87 (200 + k) = (j : Int)) := by
          have e : fY (m 87) d (j : Int) k = (fD (m 87) d k && decide (m 87 (200 + k) = (j : Int))) := by
            unfold fY fD
            rw [Bool.and_assoc]
          rw [e, hD, Bool.true_and]
        by_cases c : j = v
        · subst c
          rw [gx_u_self, hcnt_t (by rw [e]; exact decide_eq_true (by omega))]
        · rw [gx_u_ne (by omega), gx_u_ne (by omega), h1 j hj, hcnt_f0 (by rw [e]; exact decide_eq_false (by omega))]
      · rw [gx_u_ne (by omega), gx_u_self, h2, hcnt_t hD]
    · rw [en, d1] at c2
      unfold fD
      rw [decide_eq_false c2, Bool.and_false]
    · have : ¬ m 87 (440 + k) = 1 := fun h => c1 (y1.mpr h)
      unfold fD
      rw [decide_eq_false this, Bool.false_and]
theorem hl129_2 {xs : List Int32} {n : Nat} {Q : hQ} {m : gx_M} {d : Int} (h : ∀ m', fOff m m' → (∀ j : Nat, j < 10 → m' 73 j = 0) → hxn xs n yp_m129 28 [(0, .inr (.inl 70)), (1, .inr (.inl 5)), (2, .inl d), (3, .inl 0)] [] (gx_u m' 70 4 0) Q) : ∀ e k : Nat, k + e = 10 → ∀ m', fOff m m' → (∀ j : Nat, j < k → m' 73 j = 0) → hxn xs n yp_m129 2 [(0, .inr (.inl 70)), (1, .inr (.inl 5)), (2, .inl d), (3, .inl (k : Int))] [] m' Q := by
  intro e
  induction e with
  | zero =>
    intro k hk m' ho h1
    have e : k = 10 := by omega
    subst e
    exact hx_dn (hr129_2 (by omega) (fun _ => h m' ho h1) (fun c => absurd c (by omega)))
  | succ e ih =>
    intro k hk m' ho h1
    refine hx_dn (hr129_2 (by omega) (fun c => absurd c (by omega)) (fun _ => ?_))
    rw [Int.toNat_natCast]
    refine ih (k + 1) (by omega) _ (fOff_u ho (.inr rfl)) (fun j hj => ?_)
    by_cases c : j = k
    · subst c
      rw [gx_u_self]
    · rw [gx_u_ne (by omega)]
      exact h1 j (by omega)
theorem hs129 {xs : List Int32} {n : Nat} {Q : hQ} {m : gx_M} {d : Int} (hS : hSt 5 87 m) (hr : ∀ y, y < 40 → 0 ≤ m 11 y ∧ m 11 y ≤ 9) (h : ∀ m', fPo m d m' → m' 70 5 = fmx (m 87) d 10 → m' 70 6 = ((fsh (m 87) d 10 : Nat) : Int) → Q none m') : hxn xs n yp_m129 0 [(0, .inr (.inl 70)), (1, .inr (.inl 5)), (2, .inl d)] [] m Q := by
  refine hx_dn (hr129_0 (hl129_2 (m := m) (fun m1 o1 z1 => ?_) 10 0 rfl m (fOff_r m) (fun j hj => absurd hj (by omega))))
  refine hl129_28 hS hr (fun m2 p2 => ?_) 40 0 rfl _ (fOff_u o1 (.inl rfl)) (fun j hj => ?_) ?_
  · refine hl129_109 h 10 0 rfl _ ⟨fOff_u p2.1 (.inl rfl), fun j hj => ?_, ?_⟩ ?_
    · rw [gx_u_ne (by omega)]
      exact p2.2.1 j hj
    · rw [gx_u_ne (by omega)]
      exact p2.2.2
    · rw [gx_u_self]
      rfl
  · rw [gx_u_ne (by omega)]
    exact z1 j hj
  · rw [gx_u_self]
    rfl
theorem fOff_S {m m' : gx_M} (hS : hSt 5 87 m) (ho : fOff m m') : hSt 5 87 m' := by
  refine hSt_mv hS ?_ ?_ ?_ (fun j y a b hy => ?_) (fun k hk => ?_)
  · rw [ho 5 (by decide) (by decide), ho 87 (by decide) (by decide)]
    exact hS.1
  · rw [ho 5 (by decide) (by decide)]
  · rw [ho 5 (by decide) (by decide)]
  · rw [ho (5 + j) (by omega) (by omega)]
  · rw [ho 87 (by decide) (by decide)]
theorem fOff_r11 {m m' : gx_M} (hr : ∀ y, y < 40 → 0 ≤ m 11 y ∧ m 11 y ≤ 9) (ho : fOff m m') : ∀ y, y < 40 → 0 ≤ m' 11 y ∧ m' 11 y ≤ 9 := by
  rw [ho 11 (by decide) (by decide)]
  exact hr
theorem hl128 {xs : List Int32} {n : Nat} {Q : hQ} {m : gx_M} (hS : hSt 5 87 m) (hr : ∀ y, y < 40 → 0 ≤ m 11 y ∧ m 11 y ≤ 9) (h : ∀ m', fOff m m' → Q (some (.inr (.inr (ffw (m 87) 100)))) m') : ∀ e k : Nat, k + e = 100 → ∀ m', fOff m m' → hxn xs n yp_m128 5 [(0, .inr (.inl 70)), (1, .inr (.inl 5)), (2, .inr (.inr (ffw (m 87) k))), (4, .inl (k : Int))] [] m' Q := by
  intro e
  induction e with
  | zero =>
    intro k hk m' ho
    have e : k = 100 := by omega
    subst e
    exact hx_dn (hr128_5 (by omega) (fun _ => h m' ho) (fun c => absurd c (by omega)))
  | succ e ih =>
    intro k hk m' ho
    refine hx_dn (hr128_5 (by omega) (fun c => absurd c (by omega)) (fun _ => ?_))
    refine hs129 (fOff_S hS ho) (fOff_r11 hr ho) (fun m2 p2 q5 q6 => ?_)
    show hxn xs n yp_m128 19 _ [] m2 Q
    have e87 : m' 87 = m 87 := ho 87 (by decide) (by decide)
    have p4 := p2.2.2
    rw [e87] at p4 q5
    have b1 := fmx_bd (m 87) (k : Int) 10
    have b2 : fmd (m 87) (k : Int) ≤ 40 := hcnt_le _ 40
    refine hx_dn (hr128_19 (by omega) ?_)
    rw [p4, q5, gx_w_id (by omega) (by omega), ffw_w (m 87) (by omega) (by omega)]
    exact ih (k + 1) (by omega) m2 (fOff_t ho p2.1)
theorem hl130 {xs : List Int32} {n : Nat} {Q : hQ} {m : gx_M} (hS : hSt 5 87 m) (hr : ∀ y, y < 40 → 0 ≤ m 11 y ∧ m 11 y ≤ 9) (h : ∀ m', fOff m m' → Q (some (.inr (.inr (fwy (m 87) 100)))) m') : ∀ e k : Nat, k + e = 100 → ∀ m', fOff m m' → hxn xs n yp_m130 5 [(0, .inr (.inl 70)), (1, .inr (.inl 5)), (2, .inr (.inr (fwy (m 87) k))), (4, .inl (k : Int))] [] m' Q := by
  intro e
  induction e with
  | zero =>
    intro k hk m' ho
    have e : k = 100 := by omega
    subst e
    exact hx_dn (hr130_5 (by omega) (fun _ => h m' ho) (fun c => absurd c (by omega)))
  | succ e ih =>
    intro k hk m' ho
    refine hx_dn (hr130_5 (by omega) (fun c => absurd c (by omega)) (fun _ => ?_))
    refine hs129 (fOff_S hS ho) (fOff_r11 hr ho) (fun m2 p2 q5 q6 => ?_)
    show hxn xs n yp_m130 19 _ [] m2 Q
    have e87 : m' 87 = m 87 := ho 87 (by decide) (by decide)
    have p4 := p2.2.2
    rw [e87] at p4 q6
    refine hx_dn (hr130_19 (by omega) (fun c => ?_) (fun c => ?_))
    · rw [p4] at c
      have e4 : fwy (m 87) (k + 1) = fwy (m 87) k := if_neg (by omega)
      have := ih (k + 1) (by omega) m2 (fOff_t ho p2.1)
      rw [e4] at this
      exact this
    · rw [p4] at c
      have e4 : fwy (m 87) (k + 1) = hlw (fwy (m 87) k * ((fsh (m 87) (k : Int) 10 : Nat) : Int)) := if_pos c
      have := ih (k + 1) (by omega) m2 (fOff_t ho p2.1)
      rw [e4] at this
      rw [q6]
      exact this
theorem hs127 {xs : List Int32} {n : Nat} {Q : hQ} {m : gx_M} {y w : Int} (hS : hSt 5 87 m) (hr : ∀ y, y < 40 → 0 ≤ m 11 y ∧ m 11 y ≤ 9) (h : ∀ m', fOff m m' → Q (some (.inr (.inr (fV (m 87) y w)))) m') : hxn xs n yp_m127 0 [(0, .inr (.inl 0)), (1, .inl y), (2, .inl w)] [] m Q := by
  have g : ∀ v m', fOff m m' → v = fV (m 87) y w → Q (some (.inr (.inr v))) m' := fun v m' ho e => by
    rw [e]
    exact h m' ho
  have hcy : cYear 5 m y ↔ aYear (m 87) y := by
    by_cases c : 0 ≤ y ∧ y < 40
    · obtain ⟨k, rfl⟩ : ∃ k : Nat, y = (k : Int) := ⟨y.toNat, by omega⟩
      rw [fyr hS (fOff_r m) (by omega), aYear_nat]
      exact ⟨fun h => ⟨by omega, h⟩, fun h => h.2⟩
    · exact ⟨fun h => absurd ⟨h.1, h.2.1⟩ c, fun h => absurd ⟨h.1, h.2.1⟩ c⟩
  refine hx_dn (hr127_0 (fun c => ?_) (fun c1 c2 => ?_) (fun c0 c1 c2 c3 => ?_) (fun c0 c1 c2 c3 => g _ m (fOff_r m) ?_) (fun c0 c1 c2 => g _ m (fOff_r m) ?_))
  · refine hx_dn (hr128_0 (hl128 hS hr (fun m' ho => ?_) 100 0 rfl m (fOff_r m)))
    show hxn xs n yp_m127 39 [] [.inr (.inr _)] m' Q
    refine hx_dn (hr127_39 (g _ m' ho ?_))
    unfold fV
    rw [if_pos c]
  · refine hx_dn (hr130_0 (hl130 hS hr (fun m' ho => ?_) 100 0 rfl m (fOff_r m)))
    show hxn xs n yp_m127 51 [] [.inr (.inr _)] m' Q
    refine hx_dn (hr127_51 (g _ m' ho ?_))
    unfold fV
    rw [if_neg c1, if_pos c2]
  · have hy := hcy.mp c3
    obtain ⟨k, rfl⟩ : ∃ k : Nat, y = (k : Int) := ⟨y.toNat, by have := c3.1; omega⟩
    have hk : k < 40 := (aYear_nat.mp hy).1
    have en : (k : Int).toNat = k := Int.toNat_natCast k
    have e2 : (200 + (k : Int)).toNat = 200 + k := by omega
    refine hx_dn (hr131_0 (fun _ => ?_) (fun c => absurd c3 c))
    rw [en, fda hS (fOff_r m) hk]
    refine hs129 hS hr (fun m2 p2 q5 q6 => ?_)
    show hxn xs n yp_m131 21 _ [] m2 _
    have kr : 0 ≤ m2 11 k ∧ m2 11 k ≤ 9 := fOff_r11 hr p2.1 k hk
    have ek : m2 11 k = m 87 (200 + k) := fma hS p2.1 hk
    have fin : ∀ x : Int, (x = 0 ∨ x = 1) → x = fV (m 87) (k : Int) w → hxn xs n yp_m127 81 [] (hrs (some (.inl x)) ++ []) m2 Q := fun x hx e => by
      refine hx_dn (hr127_81 (fun c => g _ m2 p2.1 (by omega)) (fun c => g _ m2 p2.1 (by omega)))
    have ev : fV (m 87) (k : Int) w = if 1 < ((fsh (m 87) (m 87 k) 10 : Nat) : Int) ∨ ((fmk (m 87) (m 87 k) (m 87 (200 + k)) : Nat) : Int) < fmx (m 87) (m 87 k) 10 then 1 else 0 := by
      unfold fV
      rw [if_neg c0, if_neg c1, if_pos ⟨c2, hy⟩, en, e2]
    obtain ⟨v, hv⟩ : ∃ v : Nat, m2 11 k = (v : Int) := ⟨(m2 11 k).toNat, by omega⟩
    have e73 : m2 73 (m2 11 (k : Int).toNat).toNat = ((fmk (m 87) (m 87 k) (m 87 (200 + k)) : Nat) : Int) := by
      rw [en, hv, Int.toNat_natCast, p2.2.1 v (by omega), ← ek, hv]
    refine hx_dn (hr131_21 (fun a => fin 1 (.inr rfl) ?_) (fun _ a => absurd a (by rw [en]; omega)) (fun _ _ a => absurd a (by rw [en]; omega)) (fun a _ _ b => fin 0 (.inl rfl) ?_) (fun a _ _ b => fin 1 (.inr rfl) ?_))
    · rw [q6] at a
      rw [ev, if_pos (.inl a)]
    · rw [q6] at a
      rw [e73, q5] at b
      rw [ev, if_neg (fun h => by omega)]
    · rw [e73, q5] at b
      rw [ev, if_pos (.inr b)]
  · unfold fV
    rw [if_neg c0, if_neg c1, if_neg (fun h => c3 (hcy.mpr h.2))]
  · unfold fV
    rw [if_neg c0, if_neg c1, if_neg (fun h => c2 h.1)]
theorem fOff_Ag {m m' : gx_M} (h : fOff m m') : hAg hPS m m' := fun q hq k _ _ => by
  have : ∀ q ∈ hPS, q.1 ≠ 70 ∧ q.1 ≠ 73 := by decide
  rw [h q.1 (this q hq).1 (this q hq).2]
