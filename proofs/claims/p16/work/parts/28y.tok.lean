/-! codes that are being written: how high the stack stands, jumps that wait for their ends; rows of numbers alone -/
def lq_jp (x : Int) : Prop := x / 1048576 = 11 ∨ x / 1048576 = 12
def lq_bn (x : Int) : Prop := 2 ≤ x / 1048576 ∧ x / 1048576 ≤ 6
def lq_1b (x : Int) : Nat := if 2 ≤ x / 1048576 ∧ x / 1048576 ≤ 6 then 1 else 0
def lq_1e (x : Int) : Nat := if (2 ≤ x / 1048576 ∧ x / 1048576 ≤ 6) ∨ x / 1048576 = 10 then 1 else 0
def lq_cb (w : Nat → Int) : Nat → Nat
  | 0 => 0
  | i + 1 => lq_cb w i + lq_1b (w i)
def lq_ce (w : Nat → Int) : Nat → Nat
  | 0 => 0
  | i + 1 => lq_ce w i + lq_1e (w i)
theorem lq_cb_c {w w' : Nat → Int} : ∀ W : Nat, (∀ i, i < W → w' i = w i) → lq_cb w' W = lq_cb w W
  | 0, _ => rfl
  | W + 1, h => by unfold lq_cb; rw [lq_cb_c W (fun i hi => h i (by omega)), h W (by omega)]
theorem lq_ce_c {w w' : Nat → Int} : ∀ W : Nat, (∀ i, i < W → w' i = w i) → lq_ce w' W = lq_ce w W
  | 0, _ => rfl
  | W + 1, h => by unfold lq_ce; rw [lq_ce_c W (fun i hi => h i (by omega)), h W (by omega)]
theorem lf_up_ne {w : Nat → Int} {W i : Nat} {y : Int} (h : i ≠ W) : lf_up w W y i = w i := if_neg h
theorem lf_up_eq {w : Nat → Int} {W : Nat} {y : Int} : lf_up w W y W = y := if_pos rfl
theorem lq_cb_up (w : Nat → Int) (W : Nat) (y : Int) : lq_cb (lf_up w W y) (W + 1) = lq_cb w W + lq_1b y := by
  show lq_cb (lf_up w W y) W + lq_1b (lf_up w W y W) = _
  rw [lq_cb_c W (fun i hi => lf_up_ne (by omega)), lf_up_eq]
theorem lq_ce_up (w : Nat → Int) (W : Nat) (y : Int) : lq_ce (lf_up w W y) (W + 1) = lq_ce w W + lq_1e y := by
  show lq_ce (lf_up w W y) W + lq_1e (lf_up w W y W) = _
  rw [lq_ce_c W (fun i hi => lf_up_ne (by omega)), lf_up_eq]
theorem lq_1b_t {x : Int} (h : lq_bn x) : lq_1b x = 1 := if_pos h
theorem lq_1b_f {x : Int} (h : ¬ lq_bn x) : lq_1b x = 0 := if_neg h
theorem lq_1e_b {x : Int} (h : lq_bn x) : lq_1e x = 1 := if_pos (.inl h)
theorem lq_cb0 {w : Nat → Int} : ∀ W : Nat, (∀ i, i < W → ¬ lq_bn (w i)) → lq_cb w W = 0
  | 0, _ => rfl
  | W + 1, h => by unfold lq_cb; rw [lq_cb0 W (fun i hi => h i (by omega)), lq_1b_f (h W (by omega))]
def lq_pn (w : Nat → Int) (W k : Nat) : Prop := ∃ i, i < W ∧ lq_jp (w i) ∧ w i % 1048576 = (k : Int)
def lq_cd (c : Int) (H : Nat → Nat) (k C : Nat) (pend : Prop) : Prop := 0 ≤ c ∧ (c / 1048576 = 0 → H (k + 1) = H k + 1) ∧ (c / 1048576 = 1 → c % 1048576 < 14 ∧ H (k + 1) = H k + 1) ∧ (c / 1048576 = 10 → 1 ≤ H k ∧ H (k + 1) = H k)
  ∧ (lq_jp c → 1 ≤ H k ∧ H (k + 1) + 1 = H k ∧ (((k : Int) < c % 1048576 ∧ c % 1048576 ≤ (C : Int) ∧ H (c % 1048576).toNat = H k) ∨ pend))
  ∧ (c / 1048576 ≠ 0 → c / 1048576 ≠ 1 → c / 1048576 ≠ 10 → c / 1048576 ≠ 11 → c / 1048576 ≠ 12 → 2 ≤ H k ∧ H (k + 1) + 1 = H k)
def lq_T (s w : Nat → Int) (a C W h : Nat) : Prop := a ≤ C ∧ ∃ H : Nat → Nat, H a = 0 ∧ H C = h ∧ (∀ k, a ≤ k → k < C → lq_cd (s k) H k C (lq_pn w W k)) ∧ ∀ i, i < W → lq_jp (w i) → ∃ k : Nat, w i % 1048576 = (k : Int) ∧ a ≤ k ∧ k < C ∧ H k = 1 ∧ 0 ≤ s k ∧ lq_jp (s k)
theorem lq_cd_H {c : Int} {H H' : Nat → Nat} {k C C' : Nat} {p p' : Prop} (hH : ∀ j, j ≤ C → H' j = H j) (hk : k < C) (hC : C ≤ C') (hp : p → p') (h : lq_cd c H k C p) : lq_cd c H' k C' p' := by
  obtain ⟨h0, g0, g1, g10, gj, gb⟩ := h
  have e1 := hH k (by omega)
  have e2 := hH (k + 1) (by omega)
  refine ⟨h0, fun e => by rw [e1, e2]; exact g0 e, fun e => by rw [e1, e2]; exact g1 e, fun e => by rw [e1, e2]; exact g10 e, fun e => ?_, fun a b c d e => by rw [e1, e2]; exact gb a b c d e⟩
  obtain ⟨j1, j2, j3⟩ := gj e
  rw [e1, e2]
  refine ⟨j1, j2, ?_⟩
  rcases j3 with ⟨a1, a2, a3⟩ | j3
  · left
    rw [hH _ (by omega)]
    exact ⟨a1, by omega, a3⟩
  · exact .inr (hp j3)
theorem lq_T_c {s s' w w' : Nat → Int} {a C W h : Nat} (hs : ∀ k, a ≤ k → k < C → s' k = s k) (hw : ∀ i, i < W → w' i = w i) (ht : lq_T s w a C W h) : lq_T s' w' a C W h := by
  obtain ⟨h0, H, h1, h2, h3, h4⟩ := ht
  refine ⟨h0, H, h1, h2, fun k a1 a2 => ?_, fun i hi hj => ?_⟩
  · rw [hs k a1 a2]
    exact lq_cd_H (fun _ _ => rfl) a2 (Nat.le_refl _) (fun ⟨i, i1, i2, i3⟩ => ⟨i, i1, by rw [hw i i1]; exact ⟨i2, i3⟩⟩) (h3 k a1 a2)
  · rw [hw i hi] at hj ⊢
    obtain ⟨k, k1, k2, k3, k4, k5, k6⟩ := h4 i hi hj
    exact ⟨k, k1, k2, k3, k4, by rw [hs k k2 k3]; exact k5, by rw [hs k k2 k3]; exact k6⟩
theorem lq_T_0 (s w : Nat → Int) (a : Nat) : lq_T s w a a 0 0 := ⟨Nat.le_refl _, fun _ => 0, rfl, rfl, fun k a1 a2 => by omega, fun i hi => absurd hi (Nat.not_lt_zero _)⟩
/-- what a code that is no jump does -/
def lq_st (x : Int) (h h' : Nat) : Prop := 0 ≤ x ∧ ¬ lq_jp x ∧ (x / 1048576 = 0 → h' = h + 1) ∧ (x / 1048576 = 1 → x % 1048576 < 14 ∧ h' = h + 1) ∧ (x / 1048576 = 10 → 1 ≤ h ∧ h' = h) ∧ (x / 1048576 ≠ 0 → x / 1048576 ≠ 1 → x / 1048576 ≠ 10 → 2 ≤ h ∧ h' + 1 = h)
theorem lq_T_em {s w : Nat → Int} {a C W h h' : Nat} {x : Int} (ht : lq_T s w a C W h) (hx : lq_st x h h') : lq_T (lf_up s C x) w a (C + 1) W h' := by
  obtain ⟨h0, H, h1, h2, h3, h4⟩ := ht
  obtain ⟨x0, xj, g0, g1, g10, gb⟩ := hx
  have hH : ∀ j, j ≤ C → (fun j => if j = C + 1 then h' else H j) j = H j := fun j hj => if_neg (by omega)
  have e2 : (fun j => if j = C + 1 then h' else H j) (C + 1) = h' := if_pos rfl
  refine ⟨by omega, fun j => if j = C + 1 then h' else H j, by rw [hH a h0]; exact h1, e2, fun k a1 a2 => ?_, fun i hi hj => ?_⟩
  · by_cases hk : k = C
    · subst hk
      rw [lf_up_eq]
      have e1 := hH k (Nat.le_refl _)
      refine ⟨x0, fun e => ?_, fun e => ?_, fun e => ?_, fun e => absurd e xj, fun a b c _ _ => ?_⟩
      · rw [e2, e1, h2]; exact g0 e
      · rw [e2, e1, h2]; exact g1 e
      · rw [e2, e1, h2]; exact g10 e
      · rw [e2, e1, h2]; exact gb a b c
    · rw [lf_up_ne hk]
      exact lq_cd_H hH (by omega) (by omega) (fun h => h) (h3 k a1 (by omega))
  · obtain ⟨k, k1, k2, k3, k4, k5, k6⟩ := h4 i hi hj
    refine ⟨k, k1, k2, by omega, by rw [hH k (by omega)]; exact k4, ?_⟩
    rw [lf_up_ne (by omega)]
    exact ⟨k5, k6⟩
theorem lq_T_jump {s w : Nat → Int} {a C W : Nat} {x y : Int} (ht : lq_T s w a C W 1) (hx0 : 0 ≤ x) (hx : lq_jp x) (hy : lq_jp y) (hyC : y % 1048576 = (C : Int)) : lq_T (lf_up s C x) (lf_up w W y) a (C + 1) (W + 1) 0 := by
  obtain ⟨h0, H, h1, h2, h3, h4⟩ := ht
  have hH : ∀ j, j ≤ C → (fun j => if j = C + 1 then 0 else H j) j = H j := fun j hj => if_neg (by omega)
  have e2 : (fun j => if j = C + 1 then 0 else H j) (C + 1) = 0 := if_pos rfl
  refine ⟨by omega, fun j => if j = C + 1 then 0 else H j, by rw [hH a h0]; exact h1, e2, fun k a1 a2 => ?_, fun i hi hj => ?_⟩
  · by_cases hk : k = C
    · subst hk
      rw [lf_up_eq]
      have e1 := hH k (Nat.le_refl _)
      unfold lq_jp at hx
      refine ⟨hx0, fun e => by omega, fun e => by omega, fun e => by omega, fun _ => ?_, fun a b c d e => by omega⟩
      rw [e2, e1, h2]
      exact ⟨Nat.le_refl _, rfl, .inr ⟨W, by omega, by rw [lf_up_eq]; exact ⟨hy, hyC⟩⟩⟩
    · rw [lf_up_ne hk]
      exact lq_cd_H hH (by omega) (by omega) (fun ⟨i, i1, i2⟩ => ⟨i, by omega, by rw [lf_up_ne (by omega)]; exact i2⟩) (h3 k a1 (by omega))
  · by_cases e : i = W
    · subst e
      rw [lf_up_eq]
      refine ⟨C, hyC, h0, by omega, by rw [hH C (Nat.le_refl _)]; exact h2, ?_⟩
      rw [lf_up_eq]
      exact ⟨hx0, hx⟩
    · rw [lf_up_ne e] at hj ⊢
      obtain ⟨k, k1, k2, k3, k4, k5, k6⟩ := h4 i (by omega) hj
      refine ⟨k, k1, k2, by omega, by rw [hH k (by omega)]; exact k4, ?_⟩
      rw [lf_up_ne (by omega)]
      exact ⟨k5, k6⟩
theorem lq_T_push {s w : Nat → Int} {a C W h : Nat} {y : Int} (ht : lq_T s w a C W h) (hy : ¬ lq_jp y) : lq_T s (lf_up w W y) a C (W + 1) h := by
  obtain ⟨h0, H, h1, h2, h3, h4⟩ := ht
  refine ⟨h0, H, h1, h2, fun k a1 a2 => ?_, fun i hi hj => ?_⟩
  · exact lq_cd_H (fun _ _ => rfl) a2 (Nat.le_refl _) (fun ⟨i, i1, i2⟩ => ⟨i, by omega, by rw [lf_up_ne (by omega)]; exact i2⟩) (h3 k a1 a2)
  · by_cases e : i = W
    · subst e
      rw [lf_up_eq] at hj
      exact absurd hj hy
    · rw [lf_up_ne e] at hj ⊢
      exact h4 i (by omega) hj
theorem lq_T_pop {s w : Nat → Int} {a C W h : Nat} (ht : lq_T s w a C (W + 1) h) (hy : ¬ lq_jp (w W)) : lq_T s w a C W h := by
  obtain ⟨h0, H, h1, h2, h3, h4⟩ := ht
  refine ⟨h0, H, h1, h2, fun k a1 a2 => ?_, fun i hi hj => h4 i (by omega) hj⟩
  refine lq_cd_H (fun _ _ => rfl) a2 (Nat.le_refl _) (fun ⟨i, i1, i2⟩ => ⟨i, ?_, i2⟩) (h3 k a1 a2)
  by_cases e : i = W
  · rw [e] at i2
    exact absurd i2.1 hy
  · omega
theorem lq_T_land {s w : Nat → Int} {a C W : Nat} (ht : lq_T s w a C (W + 1) 1) (hy : lq_jp (w W)) (hC : C < 1048576) : ∃ k : Nat, w W % 1048576 = (k : Int) ∧ a ≤ k ∧ k < C ∧ 0 ≤ s k ∧ lq_jp (s k) ∧ lq_T (lf_up s k (1048576 * (s k / 1048576) + (C : Int))) w a C W 1 := by
  obtain ⟨h0, H, h1, h2, h3, h4⟩ := ht
  obtain ⟨k, k1, k2, k3, k4, k5, k6⟩ := h4 W (by omega) hy
  have ed : (1048576 * (s k / 1048576) + (C : Int)) / 1048576 = s k / 1048576 := by omega
  have em : (1048576 * (s k / 1048576) + (C : Int)) % 1048576 = (C : Int) := by omega
  have hjk : lq_jp (1048576 * (s k / 1048576) + (C : Int)) := by unfold lq_jp at k6 ⊢; rw [ed]; exact k6
  have hck := h3 k k2 k3
  refine ⟨k, k1, k2, k3, k5, k6, h0, H, h1, h2, fun j a1 a2 => ?_, fun i hi hj => ?_⟩
  · by_cases hjk' : j = k
    · subst hjk'
      rw [lf_up_eq]
      obtain ⟨c0, -, -, -, gj, -⟩ := hck
      obtain ⟨j1, j2, -⟩ := gj k6
      unfold lq_jp at k6
      refine ⟨by omega, fun e => by omega, fun e => by omega, fun e => by omega, fun _ => ⟨j1, j2, .inl ?_⟩, fun a b c d e => by omega⟩
      rw [em, Int.toNat_natCast, h2]
      exact ⟨by omega, Int.le_refl _, k4.symm⟩
    · rw [lf_up_ne hjk']
      refine lq_cd_H (fun _ _ => rfl) a2 (Nat.le_refl _) (fun ⟨i, i1, i2, i3⟩ => ⟨i, ?_, i2, i3⟩) (h3 j a1 a2)
      by_cases e : i = W
      · rw [e, k1] at i3
        omega
      · omega
  · obtain ⟨j, j1, j2, j3, j4, j5, j6⟩ := h4 i (by omega) hj
    refine ⟨j, j1, j2, j3, j4, ?_⟩
    by_cases e : j = k
    · subst e
      rw [lf_up_eq]
      exact ⟨by unfold lq_jp at k6; omega, hjk⟩
    · rw [lf_up_ne e]
      exact ⟨j5, j6⟩
theorem lq_T_end {s w : Nat → Int} {a C h : Nat} (ht : lq_T s w a C 0 h) (hC : C ≤ 250) : gx_wf s (a : Int) (C : Int) := by
  obtain ⟨h0, H, h1, h2, h3, h4⟩ := ht
  refine ⟨by omega, by omega, by omega, H, h1, fun k a1 a2 => ?_⟩
  rw [Int.toNat_natCast] at a1 a2 ⊢
  obtain ⟨c0, g0, g1, g10, gj, gb⟩ := h3 k a1 a2
  refine ⟨c0, g0, g1, g10, fun e => ?_, gb⟩
  obtain ⟨j1, j2, j3⟩ := gj e
  rcases j3 with j3 | ⟨i, hi, -⟩
  · exact ⟨j1, j2, j3⟩
  · exact absurd hi (Nat.not_lt_zero _)
