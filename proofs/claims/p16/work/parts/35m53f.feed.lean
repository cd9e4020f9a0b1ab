/-! feed -/
section FD
variable {xs : List Int32} {n : Nat} {Q : hQ} {m : gx_M}
theorem hl21 {v : Int} {c : Nat} (h260 : c + 4 ≤ 260) (h : ∀ m', m' 1 1 = ((c + 4 : Nat) : Int) → (∀ i, i < 4 → m' 2 (c + i) = tb4 v i) → (∀ d k, ¬ (d = 1 ∧ k = 1) → ¬ (d = 2 ∧ c ≤ k ∧ k < c + 4) → m' d k = m d k) → Q none m') : ∀ e i : Nat, i + e = 4 → ∀ m', m' 1 1 = ((c + i : Nat) : Int) → (∀ j, j < i → m' 2 (c + j) = tb4 v j) → (∀ d k, ¬ (d = 1 ∧ k = 1) → ¬ (d = 2 ∧ c ≤ k ∧ k < c + 4) → m' d k = m d k) → hxn xs n yp_m21 3 [(0, .inr (.inl 1)), (1, .inl v), (2, .inl (24 - 8 * (i : Int)))] [] m' Q := by
  intro e
  induction e with
  | zero =>
    intro i hi m' h1 h2 h3
    have e : i = 4 := by omega
    subst e
    exact hx_dn (hr21_3 (by omega) (fun _ => h m' h1 h2 h3) (fun c => absurd c (by omega)) (fun c => absurd c (by omega)) (fun c => absurd c (by omega)))
  | succ e ih =>
    intro i hi m' h1 h2 h3
    refine hx_dn (hr21_3 (by omega) (fun c => absurd c (by omega)) (fun _ c => absurd c (by omega)) (fun _ _ c => absurd c (by omega)) (fun _ _ _ => ?_))
    have e1 : 24 - 8 * (i : Int) + (-8) = 24 - 8 * ((i + 1 : Nat) : Int) := by omega
    have e2 : 24 - 8 * (i : Int) = ((24 - 8 * i : Nat) : Int) := by omega
    have e3 : gx_and (hushr v (24 - 8 * (i : Int))) 255 = tb4 v i := by
      unfold tb4
      rw [e2]
    rw [e3, e1, h1, Int.toNat_natCast]
    refine ih (i + 1) (by omega) _ ?_ (fun j hj => ?_) (fun d k a b => ?_)
    · rw [gx_u_ne (by omega), gx_u_self]
      omega
    · by_cases e : j = i
      · rw [e, gx_u_self]
      · rw [gx_u_ne (by omega), gx_u_ne (by omega)]
        exact h2 j (by omega)
    · rw [gx_u_ne (by omega), gx_u_ne (by omega)]
      exact h3 d k a b
theorem hl167 {v : Int} (hv : hB v) {c : Nat} (h260 : c + 4 ≤ 260) (h : ∀ m', m' 86 4 = ((c + 4 : Nat) : Int) → (∀ i, i < 4 → gx_and (m' 90 (c + i)) 255 = tb4 v i) → (∀ d k, ¬ (d = 86 ∧ k = 4) → ¬ (d = 90 ∧ c ≤ k ∧ k < c + 4) → m' d k = m d k) → Q none m') : ∀ e i : Nat, i + e = 4 → ∀ m', m' 86 4 = ((c + i : Nat) : Int) → (∀ j, j < i → gx_and (m' 90 (c + j)) 255 = tb4 v j) → (∀ d k, ¬ (d = 86 ∧ k = 4) → ¬ (d = 90 ∧ c ≤ k ∧ k < c + 4) → m' d k = m d k) → hxn xs n yp_m167 2 [(0, .inr (.inl 86)), (1, .inl v), (2, .inl (3 - (i : Int)))] [] m' Q := by
  intro e
  induction e with
  | zero =>
    intro i hi m' h1 h2 h3
    have e : i = 4 := by omega
    subst e
    exact hx_dn (hr167_2 (by omega) (fun _ => h m' h1 h2 h3) (fun c => absurd c (by omega)))
  | succ e ih =>
    intro i hi m' h1 h2 h3
    refine hx_dn (hr167_2 (by omega) (fun c => absurd c (by omega)) (fun _ => ?_))
    have e1 : 3 - (i : Int) + (-1) = 3 - ((i + 1 : Nat) : Int) := by omega
    have e2 : 8 * (3 - (i : Int)) = ((24 - 8 * i : Nat) : Int) := by omega
    have e3 := tb_same hv (i := i) (by omega)
    rw [e2, e1, h1, Int.toNat_natCast, gx_w_id (by omega) (by omega)]
    refine ih (i + 1) (by omega) _ ?_ (fun j hj => ?_) (fun d k a b => ?_)
    · rw [gx_u_self]
      omega
    · by_cases e : j = i
      · rw [e, gx_u_ne (by omega), gx_u_self]
        exact e3
      · rw [gx_u_ne (by omega), gx_u_ne (by omega)]
        exact h2 j (by omega)
    · rw [gx_u_ne (by omega), gx_u_ne (by omega)]
      exact h3 d k a b
/-- the twenty bytes -/
def fxv (x1 x2 x3 x4 x5 : Int) (q : Nat) : Int := if q = 0 then x1 else if q = 1 then x2 else if q = 2 then x3 else if q = 3 then x4 else x5
def fB (X : Nat → Int) (j : Nat) : Int := tb4 (X (j / 4)) (j % 4)
def fPc (X : Nat → Int) (c : Nat) (m : gx_M) (q : Nat) (m' : gx_M) : Prop := m' 1 1 = ((c + 4 * q : Nat) : Int) ∧ (∀ j, j < 4 * q → m' 2 (c + j) = fB X j) ∧ ∀ d k, ¬ (d = 1 ∧ k = 1) → ¬ (d = 2 ∧ c ≤ k ∧ k < c + 20) → m' d k = m d k
def fPr (X : Nat → Int) (c : Nat) (m : gx_M) (q : Nat) (m' : gx_M) : Prop := m' 86 4 = ((c + 4 * q : Nat) : Int) ∧ (∀ j, j < 4 * q → gx_and (m' 90 (c + j)) 255 = fB X j) ∧ ∀ d k, ¬ (d = 86 ∧ k = 4) → ¬ (d = 90 ∧ c ≤ k ∧ k < c + 20) → m' d k = m d k
theorem fPc_s {X : Nat → Int} {c q : Nat} {m0 : gx_M} (hc : c + 20 ≤ 260) (hq : q < 5) (hP : fPc X c m0 q m) (h : ∀ m', fPc X c m0 (q + 1) m' → Q none m') : hxn xs n yp_m21 0 [(0, .inr (.inl 1)), (1, .inl (X q))] [] m Q := by
  obtain ⟨p1, p2, p3⟩ := hP
  refine hx_dn (hr21_0 ?_)
  refine hl21 (c := c + 4 * q) (m := m) (by omega) (fun m' h1 h2 h3 => h m' ⟨by rw [h1]; omega, fun j hj => ?_, fun d k a b => ?_⟩) 4 0 rfl m p1 (fun j hj => absurd hj (by omega)) (fun _ _ _ _ => rfl)
  · by_cases e : j < 4 * q
    · rw [h3 2 (c + j) (by omega) (by omega)]
      exact p2 j e
    · have h4 := h2 (j - 4 * q) (by omega)
      have e1 : c + 4 * q + (j - 4 * q) = c + j := by omega
      have e2 : j / 4 = q := by omega
      have e3 : j % 4 = j - 4 * q := by omega
      rw [e1] at h4
      rw [h4]
      unfold fB
      rw [e2, e3]
  · rw [h3 d k a (by omega)]
    exact p3 d k a b
theorem fPr_s {X : Nat → Int} {c q : Nat} {m0 : gx_M} (hX : hB (X q)) (hc : c + 20 ≤ 260) (hq : q < 5) (hP : fPr X c m0 q m) (h : ∀ m', fPr X c m0 (q + 1) m' → Q none m') : hxn xs n yp_m167 0 [(0, .inr (.inl 86)), (1, .inl (X q))] [] m Q := by
  obtain ⟨p1, p2, p3⟩ := hP
  refine hx_dn (hr167_0 ?_)
  refine hl167 hX (c := c + 4 * q) (m := m) (by omega) (fun m' h1 h2 h3 => h m' ⟨by rw [h1]; omega, fun j hj => ?_, fun d k a b => ?_⟩) 4 0 rfl m p1 (fun j hj => absurd hj (by omega)) (fun _ _ _ _ => rfl)
  · by_cases e : j < 4 * q
    · rw [h3 90 (c + j) (by omega) (by omega)]
      exact p2 j e
    · have h4 := h2 (j - 4 * q) (by omega)
      have e1 : c + 4 * q + (j - 4 * q) = c + j := by omega
      have e2 : j / 4 = q := by omega
      have e3 : j % 4 = j - 4 * q := by omega
      rw [e1] at h4
      rw [h4]
      unfold fB
      rw [e2, e3]
  · rw [h3 d k a (by omega)]
    exact p3 d k a b
theorem hw_feed {x1 x2 x3 x4 x5 : Int} (b1 : hB x1) (b2 : hB x2) (b3 : hB x3) (b4 : hB x4) (b5 : hB x5) (hR : hTp m) : hxn xs n yp_m20 0 [(0, .inr (.inl 0)), (1, .inl x1), (2, .inl x2), (3, .inl x3), (4, .inl x4), (5, .inl x5)] [] m (fun r1 m1 => ∃ v, r1 = some (.inl v) ∧ hxn xs n yp_m166 0 [(0, .inr (.inl 86)), (1, .inl x1), (2, .inl x2), (3, .inl x3), (4, .inl x4), (5, .inl x5)] [] m1 (fun r2 m2 => r2 = some (.inl v) ∧ hTp m2)) := by
  obtain ⟨h1, h2, h3, h4⟩ := hR
  obtain ⟨c, hc⟩ : ∃ c : Nat, m 1 1 = (c : Int) := ⟨(m 1 1).toNat, by omega⟩
  have hc2 : m 86 4 = (c : Int) := by rw [← h3]; exact hc
  have ew : gx_w (m 1 1 + 20) = m 1 1 + 20 := gx_w_id (by omega) (by omega)
  refine hx_dn (hr20_0 (fun g => ?_) (fun g => ?_))
  · rw [ew] at g
    have h20 : c + 20 ≤ 260 := by omega
    obtain ⟨X, hX⟩ : ∃ X, X = fxv x1 x2 x3 x4 x5 := ⟨_, rfl⟩
    have X0 : X 0 = x1 := by rw [hX]; rfl
    have X1 : X 1 = x2 := by rw [hX]; rfl
    have X2 : X 2 = x3 := by rw [hX]; rfl
    have X3 : X 3 = x4 := by rw [hX]; rfl
    have X4 : X 4 = x5 := by rw [hX]; rfl
    rw [← X0, ← X1, ← X2, ← X3, ← X4]
    refine fPc_s (m0 := m) h20 (by decide) ⟨by rw [hc]; rfl, fun j hj => absurd hj (by omega), fun _ _ _ _ => rfl⟩ (fun m1 p1 => ?_)
    refine hx_dn (hr20_26 (fPc_s h20 (by decide) p1 (fun m2 p2 => ?_)))
    refine hx_dn (hr20_34 (fPc_s h20 (by decide) p2 (fun m3 p3 => ?_)))
    refine hx_dn (hr20_42 (fPc_s h20 (by decide) p3 (fun m4 p4 => ?_)))
    refine hx_dn (hr20_51 (fPc_s h20 (by decide) p4 (fun m5 p5 => ?_)))
    obtain ⟨u1, u2, u3⟩ := p5
    refine hx_dn (hr20_60 ⟨_, rfl, ?_⟩)
    have hc5 : m5 86 4 = (c : Int) := by rw [u3 86 4 (by omega) (by omega)]; exact hc2
    have ew5 : gx_w (m5 86 4 + 20) = m5 86 4 + 20 := gx_w_id (by omega) (by omega)
    refine hx_dn (hr166_0 (fun _ => ?_) (fun g => absurd g (by rw [ew5]; omega)))
    refine fPr_s (m0 := m5) (by rw [X0]; exact b1) h20 (by decide) ⟨by rw [hc5]; rfl, fun j hj => absurd hj (by omega), fun _ _ _ _ => rfl⟩ (fun n1 q1 => ?_)
    refine hx_dn (hr166_20 (fPr_s (by rw [X1]; exact b2) h20 (by decide) q1 (fun n2 q2 => ?_)))
    refine hx_dn (hr166_25 (fPr_s (by rw [X2]; exact b3) h20 (by decide) q2 (fun n3 q3 => ?_)))
    refine hx_dn (hr166_30 (fPr_s (by rw [X3]; exact b4) h20 (by decide) q3 (fun n4 q4 => ?_)))
    refine hx_dn (hr166_36 (fPr_s (by rw [X4]; exact b5) h20 (by decide) q4 (fun n5 q5 => ?_)))
    obtain ⟨w1, w2, w3⟩ := q5
    have e11 : n5 1 1 = ((c + 4 * 5 : Nat) : Int) := by rw [w3 1 1 (by omega) (by omega)]; exact u1
    refine hx_dn (hr166_42 ⟨by rw [w1, u1], by omega, by omega, by rw [w1, e11], fun k hk => ?_⟩)
    rw [e11] at hk
    by_cases e : k < c
    · rw [w3 90 k (by omega) (by omega), w3 2 k (by omega) (by omega), u3 90 k (by omega) (by omega), u3 2 k (by omega) (by omega)]
      exact h4 k (by omega)
    · have e1 : c + (k - c) = k := by omega
      have a1 := w2 (k - c) (by omega)
      have a2 := u2 (k - c) (by omega)
      rw [e1] at a1 a2
      rw [a1, w3 2 k (by omega) (by omega), a2]
  · rw [ew] at g
    refine ⟨-1, rfl, ?_⟩
    have ew5 : gx_w (m 86 4 + 20) = m 86 4 + 20 := gx_w_id (by omega) (by omega)
    exact hx_dn (hr166_0 (fun g => absurd g (by rw [ew5]; omega)) (fun _ => ⟨rfl, h1, h2, h3, h4⟩))
end FD
