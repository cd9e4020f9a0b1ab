section
/-! codes that are being written: how high the stack stands, jumps that wait for their ends; rows of numbers alone -/
def lq_jp (x : Int) : Prop := x / 1048576 = 11 ∨ x / 1048576 = 12
def lq_bn (x : Int) : Prop := 2 ≤ x / 1048576 ∧ x / 1048576 ≤ 6
def lq_1b (x : Int) : Nat := if 2 ≤ x / 1048576 ∧ x / 1048576 ≤ 6 then 1 else 0
def lq_1e (x : Int) : Nat := if (2 ≤ x / 1048576 ∧ x / 1048576 ≤ 6) ∨ x / 1048576 = 10 then 1 else 0
def lq_cb (w : Nat → Int) : Nat → Nat
  | 0 => 0
  | i + 1 => lq_cb w i + lq_1b (w i)
def lq_ce (w : Nat → Int) : Nat → Nat
  | 0 => 0
  | i + 1 => lq_ce w i + lq_1e (w i)
theorem lq_cb_c {w w' : Nat → Int} : ∀ W : Nat, (∀ i, i < W → w' i = w i) → lq_cb w' W = lq_cb w W
  | 0, _ => rfl
  | W + 1, h => by unfold lq_cb; rw [lq_cb_c W (fun i hi => h i (by omega)), h W (by omega)]
theorem lq_ce_c {w w' : Nat → Int} : ∀ W : Nat, (∀ i, i < W → w' i = w i) → lq_ce w' W = lq_ce w W
  | 0, _ => rfl
  | W + 1, h => by unfold lq_ce; rw [lq_ce_c W (fun i hi => h i (by omega)), h W (by omega)]
theorem lf_up_ne {w : Nat → Int} {W i : Nat} {y : Int} (h : i ≠ W) : lf_up w W y i = w i := if_neg h
theorem lf_up_eq {w : Nat → Int} {W : Nat} {y : Int} : lf_up w W y W = y := if_pos rfl
theorem lq_cb_up (w : Nat → Int) (W : Nat) (y : Int) : lq_cb (lf_up w W y) (W + 1) = lq_cb w W + lq_1b y := by
  show lq_cb (lf_up w W y) W + lq_1b (lf_up w W y W) = _
  rw [lq_cb_c W (fun i hi => lf_up_ne (by omega)), lf_up_eq]
theorem lq_ce_up (w : Nat → Int) (W : Nat) (y : Int) : lq_ce (lf_up w W y) (W + 1) = lq_ce w W + lq_1e y := by
  show lq_ce (lf_up w W y) W + lq_1e (lf_up w W y W) = _
  rw [lq_ce_c W (fun i hi => lf_up_ne (by omega)), lf_up_eq]
theorem lq_1b_t {x : Int} (h : lq_bn x) : lq_1b x = 1 := if_pos h
theorem lq_1b_f {x : Int} (h : ¬ lq_bn x) : lq_1b x = 0 := if_neg h
theorem lq_1e_b {x : Int} (h : lq_bn x) : lq_1e x = 1 := if_pos (.inl h)
theorem lq_cb0 {w : Nat → Int} : ∀ W : Nat, (∀ i, i < W → ¬ lq_bn (w i)) → lq_cb w W = 0
  | 0, _ => rfl
  | W + 1, h => by unfold lq_cb; rw [lq_cb0 W (fun i hi => h i (by omega)), lq_1b_f (h W (by omega))]
def lq_pn (w : Nat → Int) (W k : Nat) : Prop := ∃ i, i < W ∧ lq_jp (w i) ∧ w i % 1048576 = (k : Int)
def lq_cd (c : Int) (H : Nat → Nat) (k C : Nat) (pend : Prop) : Prop := 0 ≤ c ∧ (c / 1048576 = 0 → H (k + 1) = H k + 1) ∧ (c / 1048576 = 1 → c % 1048576 < 14 ∧ H (k + 1) = H k + 1) ∧ (c / 1048576 = 10 → 1 ≤ H k ∧ H (k + 1) = H k)
  ∧ (lq_jp c → 1 ≤ H k ∧ H (k + 1) + 1 = H k ∧ (((k : Int) < c % 1048576 ∧ c % 1048576 ≤ (C : Int) ∧ H (c % 1048576).toNat = H k) ∨ pend))
  ∧ (c / 1048576 ≠ 0 → c / 1048576 ≠ 1 → c / 1048576 ≠ 10 → c / 1048576 ≠ 11 → c / 1048576 ≠ 12 → 2 ≤ H k ∧ H (k + 1) + 1 = H k)
def lq_T (s w : Nat → Int) (a C W h : Nat) : Prop := a ≤ C ∧ ∃ H : Nat → Nat, H a = 0 ∧ H C = h ∧ (∀ k, a ≤ k → k < C → lq_cd (s k) H k C (lq_pn w W k)) ∧ ∀ i, i < W → lq_jp (w i) → ∃ k : Nat, w i % 1048576 = (k : Int) ∧ a ≤ k ∧ k < C ∧ H k = 1 ∧ 0 ≤ s k ∧ lq_jp (s k)
theorem lq_cd_H {c : Int} {H H' : Nat → Nat} {k C C' : Nat} {p p' : Prop} (hH : ∀ j, j ≤ C → H' j = H j) (hk : k < C) (hC : C ≤ C') (hp : p → p') (h : lq_cd c H k C p) : lq_cd c H' k C' p' := by
  obtain ⟨h0, g0, g1, g10, gj, gb⟩ := h
  have e1 := hH k (by omega)
  have e2 := hH (k + 1) (by omega)
  refine ⟨h0, fun e => by rw [e1, e2]; exact g0 e, fun e => by rw [e1, e2]; exact g1 e, fun e => by rw [e1, e2]; exact g10 e, fun e => ?_, fun a b c d e => by rw [e1, e2]; exact gb a b c d e⟩
  obtain ⟨j1, j2, j3⟩ := gj e
  rw [e1, e2]
  refine ⟨j1, j2, ?_⟩
  rcases j3 with ⟨a1, a2, a3⟩ | j3
  · left
    rw [hH _ (by omega)]
    exact ⟨a1, by omega, a3⟩
  · exact .inr (hp j3)
theorem lq_T_c {s s' w w' : Nat → Int} {a C W h : Nat} (hs : ∀ k, a ≤ k → k < C → s' k = s k) (hw : ∀ i, i < W → w' i = w i) (ht : lq_T s w a C W h) : lq_T s' w' a C W h := by
  obtain ⟨h0, H, h1, h2, h3, h4⟩ := ht
  refine ⟨h0, H, h1, h2, fun k a1 a2 => ?_, fun i hi hj => ?_⟩
  · rw [hs k a1 a2]
    exact lq_cd_H (fun _ _ => rfl) a2 (Nat.le_refl _) (fun ⟨i, i1, i2, i3⟩ => ⟨i, i1, by rw [hw i i1]; exact ⟨i2, i3⟩⟩) (h3 k a1 a2)
  · rw [hw i hi] at hj ⊢
    obtain ⟨k, k1, k2, k3, k4, k5, k6⟩ := h4 i hi hj
    exact ⟨k, k1, k2, k3, k4, by rw [hs k k2 k3]; exact k5, by rw [hs k k2 k3]; exact k6⟩
theorem lq_T_0 (s w : Nat → Int) (a : Nat) : lq_T s w a a 0 0 := ⟨Nat.le_refl _, fun _ => 0, rfl, rfl, fun k a1 a2 => by omega, fun i hi => absurd hi (Nat.not_lt_zero _)⟩
/-- what a code that is no jump does -/
def lq_st (x : Int) (h h' : Nat) : Prop := 0 ≤ x ∧ ¬ lq_jp x ∧ (x / 1048576 = 0 → h' = h + 1) ∧ (x / 1048576 = 1 → x % 1048576 < 14 ∧ h' = h + 1) ∧ (x / 1048576 = 10 → 1 ≤ h ∧ h' = h) ∧ (x / 1048576 ≠ 0 → x / 1048576 ≠ 1 → x / 1048576 ≠ 10 → 2 ≤ h ∧ h' + 1 = h)
theorem lq_T_em {s w : Nat → Int} {a C W h h' : Nat} {x : Int} (ht : lq_T s w a C W h) (hx : lq_st x h h') : lq_T (lf_up s C x) w a (C + 1) W h' := by
  obtain ⟨h0, H, h1, h2, h3, h4⟩ := ht
  obtain ⟨x0, xj, g0, g1, g10, gb⟩ := hx
  have hH : ∀ j, j ≤ C → (fun j => if j = C + 1 then h' else H j) j = H j := fun j hj => if_neg (by omega)
  have e2 : (fun j => if j = C + 1 then h' else H j) (C + 1) = h' := if_pos rfl
  refine ⟨by omega, fun j => if j = C + 1 then h' else H j, by rw [hH a h0]; exact h1, e2, fun k a1 a2 => ?_, fun i hi hj => ?_⟩
  · by_cases hk : k = C
    · subst hk
      rw [lf_up_eq]
      have e1 := hH k (Nat.le_refl _)
      refine ⟨x0, fun e => ?_, fun e => ?_, fun e => ?_, fun e => absurd e xj, fun a b c _ _ => ?_⟩
      · rw [e2, e1, h2]; exact g0 e
      · rw [e2, e1, h2]; exact g1 e
      · rw [e2, e1, h2]; exact g10 e
      · rw [e2, e1, h2]; exact gb a b c
    · rw [lf_up_ne hk]
      exact lq_cd_H hH (by omega) (by omega) (fun h => h) (h3 k a1 (by omega))
  · obtain ⟨k, k1, k2, k3, k4, k5, k6⟩ := h4 i hi hj
    refine ⟨k, k1, k2, by omega, by rw [hH k (by omega)]; exact k4, ?_⟩
    rw [lf_up_ne (by omega)]
    exact ⟨k5, k6⟩
theorem lq_T_jump {s w : Nat → Int} {a C W : Nat} {x y : Int} (ht : lq_T s w a C W 1) (hx0 : 0 ≤ x) (hx : lq_jp x) (hy : lq_jp y) (hyC : y % 1048576 = (C : Int)) : lq_T (lf_up s C x) (lf_up w W y) a (C + 1) (W + 1) 0 := by
  obtain ⟨h0, H, h1, h2, h3, h4⟩ := ht
  have hH : ∀ j, j ≤ C → (fun j => if j = C + 1 then 0 else H j) j = H j := fun j hj => if_neg (by omega)
  have e2 : (fun j => if j = C + 1 then 0 else H j) (C + 1) = 0 := if_pos rfl
  refine ⟨by omega, fun j => if j = C + 1 then 0 else H j, by rw [hH a h0]; exact h1, e2, fun k a1 a2 => ?_, fun i hi hj => ?_⟩
  · by_cases hk : k = C
    · subst hk
      rw [lf_up_eq]
      have e1 := hH k (Nat.le_refl _)
      unfold lq_jp at hx
      refine ⟨hx0, fun e => by omega, fun e => by omega, fun e => by omega, fun _ => ?_, fun a b c d e => by omega⟩
      rw [e2, e1, h2]
      exact ⟨Nat.le_refl _, rfl, .inr ⟨W, by omega, by rw [lf_up_eq]; exact ⟨hy, hyC⟩⟩⟩
    · rw [lf_up_ne hk]
      exact lq_cd_H hH (by omega) (by omega) (fun ⟨i, i1, i2⟩ => ⟨i, by omega, by rw [lf_up_ne (by omega)]; exact i2⟩) (h3 k a1 (by omega))
  · by_cases e : i = W
    · subst e
      rw [lf_up_eq]
      refine ⟨C, hyC, h0, by omega, by rw [hH C (Nat.le_refl _)]; exact h2, ?_⟩
      rw [lf_up_eq]
      exact ⟨hx0, hx⟩
    · rw [lf_up_ne e] at hj ⊢
      obtain ⟨k, k1, k2, k3, k4, k5, k6⟩ := h4 i (by omega) hj
      refine ⟨k, k1, k2, by omega, by rw [hH k (by omega)]; exact k4, ?_⟩
      rw [lf_up_ne (by omega)]
      exact ⟨k5, k6⟩
theorem lq_T_push {s w : Nat → Int} {a C W h : Nat} {y : Int} (ht : lq_T s w a C W h) (hy : ¬ lq_jp y) : lq_T s (lf_up w W y) a C (W + 1) h := by
  obtain ⟨h0, H, h1, h2, h3, h4⟩ := ht
  refine ⟨h0, H, h1, h2, fun k a1 a2 => ?_, fun i hi hj => ?_⟩
  · exact lq_cd_H (fun _ _ => rfl) a2 (Nat.le_refl _) (fun ⟨i, i1, i2⟩ => ⟨i, by omega, by rw [lf_up_ne (by omega)]; exact i2⟩) (h3 k a1 a2)
  · by_cases e : i = W
    · subst e
      rw [lf_up_eq] at hj
      exact absurd hj hy
    · rw [lf_up_ne e] at hj ⊢
      exact h4 i (by omega) hj
theorem lq_T_pop {s w : Nat → Int} {a C W h : Nat} (ht : lq_T s w a C (W + 1) h) (hy : ¬ lq_jp (w W)) : lq_T s w a C W h := by
  obtain ⟨h0, H, h1, h2, h3, h4⟩ := ht
  refine ⟨h0, H, h1, h2, fun k a1 a2 => ?_, fun i hi hj => h4 i (by omega) hj⟩
  refine lq_cd_H (fun _ _ => rfl) a2 (Nat.le_refl _) (fun ⟨i, i1, i2⟩ => ⟨i, ?_, i2⟩) (h3 k a1 a2)
  by_cases e : i = W
  · rw [e] at i2
    exact absurd i2.1 hy
  · omega
theorem lq_T_land {s w : Nat → Int} {a C W : Nat} (ht : lq_T s w a C (W + 1) 1) (hy : lq_jp (w W)) (hC : C < 1048576) : ∃ k : Nat, w W % 1048576 = (k : Int) ∧ a ≤ k ∧ k < C ∧ 0 ≤ s k ∧ lq_jp (s k) ∧ lq_T (lf_up s k (1048576 * (s k / 1048576) + (C : Int))) w a C W 1 := by
  obtain ⟨h0, H, h1, h2, h3, h4⟩ := ht
  obtain ⟨k, k1, k2, k3, k4, k5, k6⟩ := h4 W (by omega) hy
  have ed : (1048576 * (s k / 1048576) + (C : Int)) / 1048576 = s k / 1048576 := by omega
  have em : (1048576 * (s k / 1048576) + (C : Int)) % 1048576 = (C : Int) := by omega
  have hjk : lq_jp (1048576 * (s k / 1048576) + (C : Int)) := by unfold lq_jp at k6 ⊢; rw [ed]; exact k6
  have hck := h3 k k2 k3
  refine ⟨k, k1, k2, k3, k5, k6, h0, H, h1, h2, fun j a1 a2 => ?_, fun i hi hj => ?_⟩
  · by_cases hjk' : j = k
    · subst hjk'
      rw [lf_up_eq]
      obtain ⟨c0, -, -, -, gj, -⟩ := hck
      obtain ⟨j1, j2, -⟩ := gj k6
      unfold lq_jp at k6
      refine ⟨by omega, fun e => by omega, fun e => by omega, fun e => by omega, fun _ => ⟨j1, j2, .inl ?_⟩, fun a b c d e => by omega⟩
      rw [em, Int.toNat_natCast, h2]
      exact ⟨by omega, Int.le_refl _, k4.symm⟩
    · rw [lf_up_ne hjk']
      refine lq_cd_H (fun _ _ => rfl) a2 (Nat.le_refl _) (fun ⟨i, i1, i2, i3⟩ => ⟨i, ?_, i2, i3⟩) (h3 j a1 a2)
      by_cases e : i = W
      · rw [e, k1] at i3
        omega
      · omega
  · obtain ⟨j, j1, j2, j3, j4, j5, j6⟩ := h4 i (by omega) hj
    refine ⟨j, j1, j2, j3, j4, ?_⟩
    by_cases e : j = k
    · subst e
      rw [lf_up_eq]
      exact ⟨by unfold lq_jp at k6; omega, hjk⟩
    · rw [lf_up_ne e]
      exact ⟨j5, j6⟩
theorem lq_T_end {s w : Nat → Int} {a C h : Nat} (ht : lq_T s w a C 0 h) (hC : C ≤ 250) : gx_wf s (a : Int) (C : Int) := by
  obtain ⟨h0, H, h1, h2, h3, h4⟩ := ht
  refine ⟨by omega, by omega, by omega, H, h1, fun k a1 a2 => ?_⟩
  rw [Int.toNat_natCast] at a1 a2 ⊢
  obtain ⟨c0, g0, g1, g10, gj, gb⟩ := h3 k a1 a2
  refine ⟨c0, g0, g1, g10, fun e => ?_, gb⟩
  obtain ⟨j1, j2, j3⟩ := gj e
  rcases j3 with j3 | ⟨i, hi, -⟩
  · exact ⟨j1, j2, j3⟩
  · exact absurd hi (Nat.not_lt_zero _)
end
section
/-! roads of methods read by hand, from cut points to the next ones (printed by wip/gen/gxall.py) -/
/-- here from 0 on -/
theorem gt170_0 {xs : List Int32} {w0 : sx_W} {d : Nat} {Q : gx_Q} {m : gx_M} (hI : gx_I m)
    (h1 : ((m 86 6) ≤ (m 86 5)) → Q (some (-1)) m)
    (h2 : ((m 86 5) < (m 86 6)) → Q (some (gx_and (m 90 (m 86 5).toNat) 255)) m) : gx_to xs w0 d yp_m170 0 [(0, .inr 86)] [] m Q := by
  have f1 := gx_I_n hI 86 5 0 260 (by decide +kernel)
  have f2 := gx_I_n hI 86 6 0 260 (by decide +kernel)
  refine gx_blk (C := True) (npc := 8) (L' := [(0, .inr 86)]) (st' := [.inl (m 86 6), .inl (m 86 5)]) (m' := m) [((0, .aload_n 0, 1, 0, 0, 0, 0), (0, 0, 0)), ((1, .getfield 132, 3, 10, 5, 5118, 0), (0, 86, 0)), ((4, .aload_n 0, 1, 0, 0, 0, 0), (0, 0, 0)), ((5, .getfield 135, 3, 10, 6, 5119, 0), (0, 86, 0))] (by decide +kernel) rfl trivial ?_
  refine gx_cmp .ge 27 (by decide +kernel) (fun c1 => ?_) (fun c1 => ?_)
  · have c1 : (m 86 6) ≤ (m 86 5) := c1
    refine gx_blk (C := True) (npc := 28) (L' := [(0, .inr 86)]) (st' := [.inl (-1)]) (m' := m) [((27, .iconst (-1), 1, 0, 0, 0, 0), (0, 0, 0))] (by decide +kernel) rfl trivial ?_
    exact gx_reti (by decide +kernel) (h1 c1)
  · have c1 : (m 86 5) < (m 86 6) := by have h : ¬ ((m 86 6) ≤ (m 86 5)) := c1; omega
    have f3 := gx_I_at hI 90 (z := m 86 5) 0 259 (-128) 127 (by decide +kernel) (by omega) (by omega)
    have f4 := gx_and_bd (m 90 (m 86 5).toNat) 255 (by decide)
    refine gx_blk (C := (True ∧ (0 ≤ (m 86 5) ∧ (m 86 5) < 260))) (npc := 28) (L' := [(0, .inr 86)]) (st' := [.inl (gx_and (m 90 (m 86 5).toNat) 255)]) (m' := m) [((11, .aload_n 0, 1, 0, 0, 0, 0), (0, 0, 0)), ((12, .getfield 19, 3, 10, 3, 5116, 0), (1, 86, 90)), ((15, .aload_n 0, 1, 0, 0, 0, 0), (0, 0, 0)), ((16, .getfield 132, 3, 10, 5, 5118, 0), (0, 86, 0)), ((19, .baload, 1, 0, 0, 0, 0), (0, 90, 260)), ((20, .sipush 255, 3, 0, 0, 0, 0), (0, 0, 0)), ((23, .iand, 1, 0, 0, 0, 0), (0, 0, 0)), ((24, .goto 4, 3, 0, 0, 0, 0), (0, 0, 0))] (by decide +kernel) rfl ⟨trivial, (by omega)⟩ ?_
    exact gx_reti (by decide +kernel) (h2 c1)

/-- isClause from 0 on -/
theorem gt171_0 {xs : List Int32} {w0 : sx_W} {d : Nat} {Q : gx_Q} {m : gx_M} {x0 : Int}
    (h1 : (x0 = 118) → Q (some 1) m)
    (h2 : (x0 ≠ 118) → (x0 = 105) → Q (some 1) m)
    (h3 : (x0 ≠ 118) → (x0 ≠ 105) → (x0 = 102) → Q (some 1) m)
    (h4 : (x0 ≠ 118) → (x0 ≠ 105) → (x0 ≠ 102) → (x0 = 103) → Q (some 1) m)
    (h5 : (x0 ≠ 118) → (x0 ≠ 105) → (x0 ≠ 102) → (x0 ≠ 103) → (x0 ≠ 110) → Q (some 0) m)
    (h6 : (x0 ≠ 118) → (x0 ≠ 105) → (x0 ≠ 102) → (x0 ≠ 103) → (x0 = 110) → Q (some 1) m) : gx_to xs w0 d yp_m171 0 [(0, .inl x0)] [] m Q := by
  refine gx_blk (C := True) (npc := 3) (L' := [(0, .inl x0)]) (st' := [.inl 118, .inl x0]) (m' := m) [((0, .iload_n 0, 1, 0, 0, 0, 0), (0, 0, 0)), ((1, .bipush 118, 2, 0, 0, 0, 0), (0, 0, 0))] (by decide +kernel) rfl trivial ?_
  refine gx_cmp .eq 30 (by decide +kernel) (fun c1 => ?_) (fun c1 => ?_)
  · have c1 : x0 = 118 := c1
    refine gx_blk (C := True) (npc := 35) (L' := [(0, .inl x0)]) (st' := [.inl 1]) (m' := m) [((30, .iconst 1, 1, 0, 0, 0, 0), (0, 0, 0)), ((31, .goto 4, 3, 0, 0, 0, 0), (0, 0, 0))] (by decide +kernel) rfl trivial ?_
    exact gx_retb (by decide +kernel) (by omega) (h1 c1)
  · have c1 : x0 ≠ 118 := c1
    refine gx_blk (C := True) (npc := 9) (L' := [(0, .inl x0)]) (st' := [.inl 105, .inl x0]) (m' := m) [((6, .iload_n 0, 1, 0, 0, 0, 0), (0, 0, 0)), ((7, .bipush 105, 2, 0, 0, 0, 0), (0, 0, 0))] (by decide +kernel) rfl trivial ?_
    refine gx_cmp .eq 30 (by decide +kernel) (fun c2 => ?_) (fun c2 => ?_)
    · have c2 : x0 = 105 := c2
      refine gx_blk (C := True) (npc := 35) (L' := [(0, .inl x0)]) (st' := [.inl 1]) (m' := m) [((30, .iconst 1, 1, 0, 0, 0, 0), (0, 0, 0)), ((31, .goto 4, 3, 0, 0, 0, 0), (0, 0, 0))] (by decide +kernel) rfl trivial ?_
      exact gx_retb (by decide +kernel) (by omega) (h2 c1 c2)
    · have c2 : x0 ≠ 105 := c2
      refine gx_blk (C := True) (npc := 15) (L' := [(0, .inl x0)]) (st' := [.inl 102, .inl x0]) (m' := m) [((12, .iload_n 0, 1, 0, 0, 0, 0), (0, 0, 0)), ((13, .bipush 102, 2, 0, 0, 0, 0), (0, 0, 0))] (by decide +kernel) rfl trivial ?_
      refine gx_cmp .eq 30 (by decide +kernel) (fun c3 => ?_) (fun c3 => ?_)
      · have c3 : x0 = 102 := c3
        refine gx_blk (C := True) (npc := 35) (L' := [(0, .inl x0)]) (st' := [.inl 1]) (m' := m) [((30, .iconst 1, 1, 0, 0, 0, 0), (0, 0, 0)), ((31, .goto 4, 3, 0, 0, 0, 0), (0, 0, 0))] (by decide +kernel) rfl trivial ?_
        exact gx_retb (by decide +kernel) (by omega) (h3 c1 c2 c3)
      · have c3 : x0 ≠ 102 := c3
        refine gx_blk (C := True) (npc := 21) (L' := [(0, .inl x0)]) (st' := [.inl 103, .inl x0]) (m' := m) [((18, .iload_n 0, 1, 0, 0, 0, 0), (0, 0, 0)), ((19, .bipush 103, 2, 0, 0, 0, 0), (0, 0, 0))] (by decide +kernel) rfl trivial ?_
        refine gx_cmp .eq 30 (by decide +kernel) (fun c4 => ?_) (fun c4 => ?_)
        · have c4 : x0 = 103 := c4
          refine gx_blk (C := True) (npc := 35) (L' := [(0, .inl x0)]) (st' := [.inl 1]) (m' := m) [((30, .iconst 1, 1, 0, 0, 0, 0), (0, 0, 0)), ((31, .goto 4, 3, 0, 0, 0, 0), (0, 0, 0))] (by decide +kernel) rfl trivial ?_
          exact gx_retb (by decide +kernel) (by omega) (h4 c1 c2 c3 c4)
        · have c4 : x0 ≠ 103 := c4
          refine gx_blk (C := True) (npc := 27) (L' := [(0, .inl x0)]) (st' := [.inl 110, .inl x0]) (m' := m) [((24, .iload_n 0, 1, 0, 0, 0, 0), (0, 0, 0)), ((25, .bipush 110, 2, 0, 0, 0, 0), (0, 0, 0))] (by decide +kernel) rfl trivial ?_
          refine gx_cmp .ne 34 (by decide +kernel) (fun c5 => ?_) (fun c5 => ?_)
          · have c5 : x0 ≠ 110 := c5
            refine gx_blk (C := True) (npc := 35) (L' := [(0, .inl x0)]) (st' := [.inl 0]) (m' := m) [((34, .iconst 0, 1, 0, 0, 0, 0), (0, 0, 0))] (by decide +kernel) rfl trivial ?_
            exact gx_retb (by decide +kernel) (by omega) (h5 c1 c2 c3 c4 c5)
          · have c5 : x0 = 110 := by have h : ¬ (x0 ≠ 110) := c5; omega
            refine gx_blk (C := True) (npc := 35) (L' := [(0, .inl x0)]) (st' := [.inl 1]) (m' := m) [((30, .iconst 1, 1, 0, 0, 0, 0), (0, 0, 0)), ((31, .goto 4, 3, 0, 0, 0, 0), (0, 0, 0))] (by decide +kernel) rfl trivial ?_
            exact gx_retb (by decide +kernel) (by omega) (h6 c1 c2 c3 c4 c5)

/-- wrongAt from 0 on -/
theorem gt172_0 {xs : List Int32} {w0 : sx_W} {d : Nat} {Q : gx_Q} {m : gx_M} {x1 x2 : Int}
    (h1 : Q (some 0) (gx_u m 86 7 (gx_w ((gx_w ((-1000) * x1)) - x2)))) : gx_to xs w0 d yp_m172 0 [(0, .inr 86), (1, .inl x1), (2, .inl x2)] [] m Q := by
  refine gx_blk (C := True) (npc := 12) (L' := [(0, .inr 86), (1, .inl x1), (2, .inl x2)]) (st' := [.inl 0]) (m' := (gx_u m 86 7 (gx_w ((gx_w ((-1000) * x1)) - x2)))) [((0, .aload_n 0, 1, 0, 0, 0, 0), (0, 0, 0)), ((1, .sipush (-1000), 3, 0, 0, 0, 0), (0, 0, 0)), ((4, .iload_n 1, 1, 0, 0, 0, 0), (0, 0, 0)), ((5, .imul, 1, 0, 0, 0, 0), (0, 0, 0)), ((6, .iload_n 2, 1, 0, 0, 0, 0), (0, 0, 0)), ((7, .isub, 1, 0, 0, 0, 0), (0, 0, 0)), ((8, .putfield 142, 3, 10, 7, 5120, 0), (0, 86, 0)), ((11, .iconst 0, 1, 0, 0, 0, 0), (0, 0, 0))] (by decide +kernel) rfl trivial ?_
  exact gx_retb (by decide +kernel) (by omega) h1

/-- opens from 0 on -/
theorem gt175_0 {xs : List Int32} {w0 : sx_W} {d : Nat} {Q : gx_Q} {m : gx_M} {x1 : Int} (hI : gx_I m) (r_x1 : 10 ≤ x1 ∧ x1 ≤ 14) (g1 : 0 ≤ (m 86 11) ∧ (m 86 11) ≤ 250)
    (h1 : ((m 86 9) ≠ 6) → Q (some 1) (gx_u (gx_u (gx_u (gx_u m 86 9 (gx_w ((m 86 9) + 1))) 92 (m 86 11).toNat (1048576 * x1)) 86 11 ((m 86 11) + 1)) 86 5 ((m 86 5) + 1)))
    (h2 : ((m 86 9) = 6) → gx_to xs w0 d yp_m172 0 [(0, .inr 86), (1, .inl 5), (2, .inl (m 86 5))] [] m (fun r m' => gx_to xs w0 (d + 1) yp_m175 18 [] (gx_rs r ++ []) m' Q)) : gx_to xs w0 (d + 1) yp_m175 0 [(0, .inr 86), (1, .inl x1)] [] m Q := by
  refine gx_blk (C := True) (npc := 6) (L' := [(0, .inr 86), (1, .inl x1)]) (st' := [.inl 6, .inl (m 86 9)]) (m' := m) [((0, .aload_n 0, 1, 0, 0, 0, 0), (0, 0, 0)), ((1, .getfield 159, 3, 10, 9, 5122, 0), (0, 86, 0)), ((4, .bipush 6, 2, 0, 0, 0, 0), (0, 0, 0))] (by decide +kernel) rfl trivial ?_
  refine gx_cmp .ne 19 (by decide +kernel) (fun c1 => ?_) (fun c1 => ?_)
  · have c1 : (m 86 9) ≠ 6 := c1
    have e1 : gx_w (1048576 * x1) = 1048576 * x1 := gx_w_id (by omega) (by omega)
    have e2 : gx_w ((m 86 11) + 1) = (m 86 11) + 1 := gx_w_id (by omega) (by omega)
    have f3 := gx_I_n hI 86 5 0 260 (by decide +kernel)
    have e4 : gx_w ((m 86 5) + 1) = (m 86 5) + 1 := gx_w_id (by omega) (by omega)
    refine gx_blk (C := (True ∧ (0 ≤ (m 86 11) ∧ (m 86 11) < 260))) (npc := 63) (L' := [(0, .inr 86), (1, .inl x1)]) (st' := [.inl 1]) (m' := (gx_u (gx_u (gx_u (gx_u m 86 9 (gx_w ((m 86 9) + 1))) 92 (m 86 11).toNat (gx_w (1048576 * x1))) 86 11 (gx_w ((m 86 11) + 1))) 86 5 (gx_w ((m 86 5) + 1)))) [((19, .aload_n 0, 1, 0, 0, 0, 0), (0, 0, 0)), ((20, .aload_n 0, 1, 0, 0, 0, 0), (0, 0, 0)), ((21, .getfield 159, 3, 10, 9, 5122, 0), (0, 86, 0)), ((24, .iconst 1, 1, 0, 0, 0, 0), (0, 0, 0)), ((25, .iadd, 1, 0, 0, 0, 0), (0, 0, 0)), ((26, .putfield 159, 3, 10, 9, 5122, 0), (0, 86, 0)), ((29, .aload_n 0, 1, 0, 0, 0, 0), (0, 0, 0)), ((30, .getfield 26, 3, 10, 15, 5128, 0), (1, 86, 92)), ((33, .aload_n 0, 1, 0, 0, 0, 0), (0, 0, 0)), ((34, .getfield 162, 3, 10, 11, 5124, 0), (0, 86, 0)), ((37, .ldc 158, 2, 0, 0, 6077, 1048576), (0, 0, 0)), ((39, .iload_n 1, 1, 0, 0, 0, 0), (0, 0, 0)), ((40, .imul, 1, 0, 0, 0, 0), (0, 0, 0)), ((41, .iastore, 1, 0, 0, 0, 0), (0, 92, 260)), ((42, .aload_n 0, 1, 0, 0, 0, 0), (0, 0, 0)), ((43, .aload_n 0, 1, 0, 0, 0, 0), (0, 0, 0)), ((44, .getfield 162, 3, 10, 11, 5124, 0), (0, 86, 0)), ((47, .iconst 1, 1, 0, 0, 0, 0), (0, 0, 0)), ((48, .iadd, 1, 0, 0, 0, 0), (0, 0, 0)), ((49, .putfield 162, 3, 10, 11, 5124, 0), (0, 86, 0)), ((52, .aload_n 0, 1, 0, 0, 0, 0), (0, 0, 0)), ((53, .aload_n 0, 1, 0, 0, 0, 0), (0, 0, 0)), ((54, .getfield 132, 3, 10, 5, 5118, 0), (0, 86, 0)), ((57, .iconst 1, 1, 0, 0, 0, 0), (0, 0, 0)), ((58, .iadd, 1, 0, 0, 0, 0), (0, 0, 0)), ((59, .putfield 132, 3, 10, 5, 5118, 0), (0, 86, 0)), ((62, .iconst 1, 1, 0, 0, 0, 0), (0, 0, 0))] (by decide +kernel) rfl ⟨trivial, (by omega)⟩ ?_
    rw [e1, e2, e4]
    exact gx_retb (by decide +kernel) (by omega) (h1 c1)
  · have c1 : (m 86 9) = 6 := by have h : ¬ ((m 86 9) ≠ 6) := c1; omega
    have f5 := gx_I_n hI 86 5 0 260 (by decide +kernel)
    refine gx_blk (C := True) (npc := 15) (L' := [(0, .inr 86), (1, .inl x1)]) (st' := [.inl (m 86 5), .inl 5, .inr 86]) (m' := m) [((9, .aload_n 0, 1, 0, 0, 0, 0), (0, 0, 0)), ((10, .iconst 5, 1, 0, 0, 0, 0), (0, 0, 0)), ((11, .aload_n 0, 1, 0, 0, 0, 0), (0, 0, 0)), ((12, .getfield 132, 3, 10, 5, 5118, 0), (0, 86, 0))] (by decide +kernel) rfl trivial ?_
    exact gx_callv (E := (15, .invokevirtual 145, 3, 172, 0, 6061, 0)) (M' := yp_m172) (c := 86) [.inl 5, .inl (m 86 5)] [] rfl (by decide +kernel) rfl ⟨rfl, rfl⟩ rfl rfl (Nat.le_of_ble_eq_true rfl) (Nat.le_of_ble_eq_true rfl) (by decide +kernel) (gx_to_mono (h2 c1) (fun r m' h' => gx_to_pick [] h'))

/-- opens from 18 on -/
theorem gt175_18 {xs : List Int32} {w0 : sx_W} {d : Nat} {Q : gx_Q} {m : gx_M} {s0 : Int}
    (k1 : s0 = 0 ∨ s0 = 1)
    (h1 : Q (some s0) m) : gx_to xs w0 d yp_m175 18 [] [.inl s0] m Q := by
  exact gx_retb (by decide +kernel) (k1) h1

/-- isDigit from 0 on -/
theorem gt176_0 {xs : List Int32} {w0 : sx_W} {d : Nat} {Q : gx_Q} {m : gx_M}
    (h1 : gx_to xs w0 d yp_m170 0 [(0, .inr 86)] [] m (fun r m' => gx_to xs w0 (d + 1) yp_m176 4 [(0, .inr 86)] (gx_rs r ++ []) m' Q)) : gx_to xs w0 (d + 1) yp_m176 0 [(0, .inr 86)] [] m Q := by
  refine gx_blk (C := True) (npc := 1) (L' := [(0, .inr 86)]) (st' := [.inr 86]) (m' := m) [((0, .aload_n 0, 1, 0, 0, 0, 0), (0, 0, 0))] (by decide +kernel) rfl trivial ?_
  exact gx_callv (E := (1, .invokevirtual 138, 3, 170, 0, 6054, 0)) (M' := yp_m170) (c := 86) [] [] rfl (by decide +kernel) rfl ⟨rfl, rfl⟩ rfl rfl (Nat.le_of_ble_eq_true rfl) (Nat.le_of_ble_eq_true rfl) (by decide +kernel) (gx_to_mono h1 (fun r m' h' => gx_to_pick [0] h'))

/-- isDigit from 4 on -/
theorem gt176_4 {xs : List Int32} {w0 : sx_W} {d : Nat} {Q : gx_Q} {m : gx_M} {s0 : Int}
    (h1 : (s0 < 48) → Q (some 0) m)
    (h2 : (48 ≤ s0) → gx_to xs w0 d yp_m170 0 [(0, .inr 86)] [] m (fun r m' => gx_to xs w0 (d + 1) yp_m176 13 [] (gx_rs r ++ []) m' Q)) : gx_to xs w0 (d + 1) yp_m176 4 [(0, .inr 86)] [.inl s0] m Q := by
  refine gx_blk (C := True) (npc := 6) (L' := [(0, .inr 86)]) (st' := [.inl 48, .inl s0]) (m' := m) [((4, .bipush 48, 2, 0, 0, 0, 0), (0, 0, 0))] (by decide +kernel) rfl trivial ?_
  refine gx_cmp .lt 22 (by decide +kernel) (fun c1 => ?_) (fun c1 => ?_)
  · have c1 : s0 < 48 := c1
    refine gx_blk (C := True) (npc := 23) (L' := [(0, .inr 86)]) (st' := [.inl 0]) (m' := m) [((22, .iconst 0, 1, 0, 0, 0, 0), (0, 0, 0))] (by decide +kernel) rfl trivial ?_
    exact gx_retb (by decide +kernel) (by omega) (h1 c1)
  · have c1 : 48 ≤ s0 := by have h : ¬ (s0 < 48) := c1; omega
    refine gx_blk (C := True) (npc := 10) (L' := [(0, .inr 86)]) (st' := [.inr 86]) (m' := m) [((9, .aload_n 0, 1, 0, 0, 0, 0), (0, 0, 0))] (by decide +kernel) rfl trivial ?_
    exact gx_callv (E := (10, .invokevirtual 138, 3, 170, 0, 6054, 0)) (M' := yp_m170) (c := 86) [] [] rfl (by decide +kernel) rfl ⟨rfl, rfl⟩ rfl rfl (Nat.le_of_ble_eq_true rfl) (Nat.le_of_ble_eq_true rfl) (by decide +kernel) (gx_to_mono (h2 c1) (fun r m' h' => gx_to_pick [] h'))

/-- isDigit from 13 on -/
theorem gt176_13 {xs : List Int32} {w0 : sx_W} {d : Nat} {Q : gx_Q} {m : gx_M} {s0 : Int}
    (h1 : (57 < s0) → Q (some 0) m)
    (h2 : (s0 ≤ 57) → Q (some 1) m) : gx_to xs w0 d yp_m176 13 [] [.inl s0] m Q := by
  refine gx_blk (C := True) (npc := 15) (L' := []) (st' := [.inl 57, .inl s0]) (m' := m) [((13, .bipush 57, 2, 0, 0, 0, 0), (0, 0, 0))] (by decide +kernel) rfl trivial ?_
  refine gx_cmp .gt 22 (by decide +kernel) (fun c1 => ?_) (fun c1 => ?_)
  · have c1 : 57 < s0 := c1
    refine gx_blk (C := True) (npc := 23) (L' := []) (st' := [.inl 0]) (m' := m) [((22, .iconst 0, 1, 0, 0, 0, 0), (0, 0, 0))] (by decide +kernel) rfl trivial ?_
    exact gx_retb (by decide +kernel) (by omega) (h1 c1)
  · have c1 : s0 ≤ 57 := by have h : ¬ (57 < s0) := c1; omega
    refine gx_blk (C := True) (npc := 23) (L' := []) (st' := [.inl 1]) (m' := m) [((18, .iconst 1, 1, 0, 0, 0, 0), (0, 0, 0)), ((19, .goto 4, 3, 0, 0, 0, 0), (0, 0, 0))] (by decide +kernel) rfl trivial ?_
    exact gx_retb (by decide +kernel) (by omega) (h2 c1)

/-- readsNumber from 0 on -/
theorem gt177_0 {xs : List Int32} {w0 : sx_W} {d : Nat} {Q : gx_Q} {m : gx_M} (hI : gx_I m)
    (h1 : gx_to xs w0 d yp_m177 10 [(0, .inr 86), (1, .inl (m 86 5))] [] (gx_u m 86 8 0) Q) : gx_to xs w0 d yp_m177 0 [(0, .inr 86)] [] m Q := by
  have f1 := gx_I_n hI 86 5 0 260 (by decide +kernel)
  refine gx_blk (C := True) (npc := 10) (L' := [(0, .inr 86), (1, .inl (m 86 5))]) (st' := []) (m' := (gx_u m 86 8 0)) [((0, .aload_n 0, 1, 0, 0, 0, 0), (0, 0, 0)), ((1, .getfield 132, 3, 10, 5, 5118, 0), (0, 86, 0)), ((4, .istore_n 1, 1, 0, 0, 0, 0), (0, 0, 0)), ((5, .aload_n 0, 1, 0, 0, 0, 0), (0, 0, 0)), ((6, .iconst 0, 1, 0, 0, 0, 0), (0, 0, 0)), ((7, .putfield 148, 3, 10, 8, 5121, 0), (0, 86, 0))] (by decide +kernel) rfl trivial ?_
  exact gx_to_pick [0, 1] h1

/-- readsNumber from 10 on -/
theorem gt177_10 {xs : List Int32} {w0 : sx_W} {d : Nat} {Q : gx_Q} {m : gx_M} {x1 : Int} (r_x1 : 0 ≤ x1 ∧ x1 ≤ 250)
    (h1 : gx_to xs w0 d yp_m176 0 [(0, .inr 86)] [] m (fun r m' => gx_to xs w0 (d + 1) yp_m177 14 [(0, .inr 86), (1, .inl x1)] (gx_rs r ++ []) m' Q)) : gx_to xs w0 (d + 1) yp_m177 10 [(0, .inr 86), (1, .inl x1)] [] m Q := by
  refine gx_blk (C := True) (npc := 11) (L' := [(0, .inr 86), (1, .inl x1)]) (st' := [.inr 86]) (m' := m) [((10, .aload_n 0, 1, 0, 0, 0, 0), (0, 0, 0))] (by decide +kernel) rfl trivial ?_
  exact gx_callv (E := (11, .invokevirtual 151, 3, 176, 0, 6078, 0)) (M' := yp_m176) (c := 86) [] [] rfl (by decide +kernel) rfl ⟨rfl, rfl⟩ rfl rfl (Nat.le_of_ble_eq_true rfl) (Nat.le_of_ble_eq_true rfl) (by decide +kernel) (gx_to_mono h1 (fun r m' h' => gx_to_pick [0, 1] h'))

/-- readsNumber from 14 on -/
theorem gt177_14 {xs : List Int32} {w0 : sx_W} {d : Nat} {Q : gx_Q} {m : gx_M} {x1 s0 : Int} (hI : gx_I m) (r_x1 : 0 ≤ x1 ∧ x1 ≤ 250)
    (h1 : (s0 = 0) → Q (some 1) m)
    (h2 : (s0 ≠ 0) → ((m 86 5) ≠ (x1 + 5)) → gx_to xs w0 d yp_m170 0 [(0, .inr 86)] [] m (fun r m' => gx_to xs w0 (d + 1) yp_m177 49 [(0, .inr 86), (1, .inl x1)] (gx_rs r ++ [.inl (gx_w (10 * (m 86 8))), .inr 86]) m' Q))
    (h3 : (s0 ≠ 0) → ((m 86 5) = (x1 + 5)) → gx_to xs w0 d yp_m172 0 [(0, .inr 86), (1, .inl 2), (2, .inl (m 86 5))] [] m (fun r m' => gx_to xs w0 (d + 1) yp_m177 36 [] (gx_rs r ++ []) m' Q)) : gx_to xs w0 (d + 1) yp_m177 14 [(0, .inr 86), (1, .inl x1)] [.inl s0] m Q := by
  refine gx_if .eq 69 (by decide +kernel) (fun c1 => ?_) (fun c1 => ?_)
  · have c1 : s0 = 0 := c1
    refine gx_blk (C := True) (npc := 70) (L' := [(0, .inr 86), (1, .inl x1)]) (st' := [.inl 1]) (m' := m) [((69, .iconst 1, 1, 0, 0, 0, 0), (0, 0, 0))] (by decide +kernel) rfl trivial ?_
    exact gx_retb (by decide +kernel) (by omega) (h1 c1)
  · have c1 : s0 ≠ 0 := c1
    have f1 := gx_I_n hI 86 5 0 260 (by decide +kernel)
    have e2 : gx_w (x1 + 5) = x1 + 5 := gx_w_id (by omega) (by omega)
    refine gx_blk (C := True) (npc := 24) (L' := [(0, .inr 86), (1, .inl x1)]) (st' := [.inl (gx_w (x1 + 5)), .inl (m 86 5)]) (m' := m) [((17, .aload_n 0, 1, 0, 0, 0, 0), (0, 0, 0)), ((18, .getfield 132, 3, 10, 5, 5118, 0), (0, 86, 0)), ((21, .iload_n 1, 1, 0, 0, 0, 0), (0, 0, 0)), ((22, .iconst 5, 1, 0, 0, 0, 0), (0, 0, 0)), ((23, .iadd, 1, 0, 0, 0, 0), (0, 0, 0))] (by decide +kernel) rfl trivial ?_
    rw [e2]
    refine gx_cmp .ne 37 (by decide +kernel) (fun c2 => ?_) (fun c2 => ?_)
    · have c2 : (m 86 5) ≠ (x1 + 5) := c2
      refine gx_blk (C := True) (npc := 46) (L' := [(0, .inr 86), (1, .inl x1)]) (st' := [.inr 86, .inl (gx_w (10 * (m 86 8))), .inr 86]) (m' := m) [((37, .aload_n 0, 1, 0, 0, 0, 0), (0, 0, 0)), ((38, .bipush 10, 2, 0, 0, 0, 0), (0, 0, 0)), ((40, .aload_n 0, 1, 0, 0, 0, 0), (0, 0, 0)), ((41, .getfield 148, 3, 10, 8, 5121, 0), (0, 86, 0)), ((44, .imul, 1, 0, 0, 0, 0), (0, 0, 0)), ((45, .aload_n 0, 1, 0, 0, 0, 0), (0, 0, 0))] (by decide +kernel) rfl trivial ?_
      exact gx_callv (E := (46, .invokevirtual 138, 3, 170, 0, 6054, 0)) (M' := yp_m170) (c := 86) [] [.inl (gx_w (10 * (m 86 8))), .inr 86] rfl (by decide +kernel) rfl ⟨rfl, rfl⟩ rfl rfl (Nat.le_of_ble_eq_true rfl) (Nat.le_of_ble_eq_true rfl) (by decide +kernel) (gx_to_mono (h2 c1 c2) (fun r m' h' => gx_to_pick [0, 1] h'))
    · have c2 : (m 86 5) = (x1 + 5) := by have h : ¬ ((m 86 5) ≠ (x1 + 5)) := c2; omega
      refine gx_blk (C := True) (npc := 33) (L' := [(0, .inr 86), (1, .inl x1)]) (st' := [.inl (m 86 5), .inl 2, .inr 86]) (m' := m) [((27, .aload_n 0, 1, 0, 0, 0, 0), (0, 0, 0)), ((28, .iconst 2, 1, 0, 0, 0, 0), (0, 0, 0)), ((29, .aload_n 0, 1, 0, 0, 0, 0), (0, 0, 0)), ((30, .getfield 132, 3, 10, 5, 5118, 0), (0, 86, 0))] (by decide +kernel) rfl trivial ?_
      exact gx_callv (E := (33, .invokevirtual 145, 3, 172, 0, 6061, 0)) (M' := yp_m172) (c := 86) [.inl 2, .inl (m 86 5)] [] rfl (by decide +kernel) rfl ⟨rfl, rfl⟩ rfl rfl (Nat.le_of_ble_eq_true rfl) (Nat.le_of_ble_eq_true rfl) (by decide +kernel) (gx_to_mono (h3 c1 c2) (fun r m' h' => gx_to_pick [] h'))

/-- readsNumber from 36 on -/
theorem gt177_36 {xs : List Int32} {w0 : sx_W} {d : Nat} {Q : gx_Q} {m : gx_M} {s0 : Int}
    (k1 : s0 = 0 ∨ s0 = 1)
    (h1 : Q (some s0) m) : gx_to xs w0 d yp_m177 36 [] [.inl s0] m Q := by
  exact gx_retb (by decide +kernel) (k1) h1

/-- readsNumber from 49 on -/
theorem gt177_49 {xs : List Int32} {w0 : sx_W} {d : Nat} {Q : gx_Q} {m : gx_M} {x1 s1 s2 : Int} (hI : gx_I m) (r_x1 : 0 ≤ x1 ∧ x1 ≤ 250)
    (h1 : gx_to xs w0 d yp_m177 10 [(0, .inr 86), (1, .inl x1)] [] (gx_u (gx_u m 86 8 (gx_w ((gx_w (s1 + s2)) - 48))) 86 5 ((m 86 5) + 1)) Q) : gx_to xs w0 d yp_m177 49 [(0, .inr 86), (1, .inl x1)] [.inl s2, .inl s1, .inr 86] m Q := by
  have f1 := gx_I_n hI 86 5 0 260 (by decide +kernel)
  have e2 : gx_w ((m 86 5) + 1) = (m 86 5) + 1 := gx_w_id (by omega) (by omega)
  refine gx_blk (C := True) (npc := 10) (L' := [(0, .inr 86), (1, .inl x1)]) (st' := []) (m' := (gx_u (gx_u m 86 8 (gx_w ((gx_w (s1 + s2)) - 48))) 86 5 (gx_w ((m 86 5) + 1)))) [((49, .iadd, 1, 0, 0, 0, 0), (0, 0, 0)), ((50, .bipush 48, 2, 0, 0, 0, 0), (0, 0, 0)), ((52, .isub, 1, 0, 0, 0, 0), (0, 0, 0)), ((53, .putfield 148, 3, 10, 8, 5121, 0), (0, 86, 0)), ((56, .aload_n 0, 1, 0, 0, 0, 0), (0, 0, 0)), ((57, .aload_n 0, 1, 0, 0, 0, 0), (0, 0, 0)), ((58, .getfield 132, 3, 10, 5, 5118, 0), (0, 86, 0)), ((61, .iconst 1, 1, 0, 0, 0, 0), (0, 0, 0)), ((62, .iadd, 1, 0, 0, 0, 0), (0, 0, 0)), ((63, .putfield 132, 3, 10, 5, 5118, 0), (0, 86, 0)), ((66, .goto (-56), 3, 0, 0, 0, 0), (0, 0, 0))] (by decide +kernel) rfl trivial ?_
  rw [e2]
  exact gx_to_pick [0, 1] h1

/-- notes from 0 on -/
theorem gt178_0 {xs : List Int32} {w0 : sx_W} {d : Nat} {Q : gx_Q} {m : gx_M} {x1 x2 : Int} (r_x1 : 0 ≤ x1 ∧ x1 ≤ 14) (r_x2 : 0 ≤ x2 ∧ x2 ≤ 1048575) (g2 : 0 ≤ (m 86 10) ∧ (m 86 10) ≤ 250)
    (h1 : Q none (gx_u (gx_u m 91 (m 86 10).toNat ((1048576 * x1) + x2)) 86 10 ((m 86 10) + 1))) : gx_to xs w0 d yp_m178 0 [(0, .inr 86), (1, .inl x1), (2, .inl x2)] [] m Q := by
  have e1 : gx_w (1048576 * x1) = 1048576 * x1 := gx_w_id (by omega) (by omega)
  have e2 : gx_w ((1048576 * x1) + x2) = (1048576 * x1) + x2 := gx_w_id (by omega) (by omega)
  have e3 : gx_w ((m 86 10) + 1) = (m 86 10) + 1 := gx_w_id (by omega) (by omega)
  refine gx_blk (C := (True ∧ (0 ≤ (m 86 10) ∧ (m 86 10) < 260))) (npc := 25) (L' := [(0, .inr 86), (1, .inl x1), (2, .inl x2)]) (st' := []) (m' := (gx_u (gx_u m 91 (m 86 10).toNat (gx_w ((gx_w (1048576 * x1)) + x2))) 86 10 (gx_w ((m 86 10) + 1)))) [((0, .aload_n 0, 1, 0, 0, 0, 0), (0, 0, 0)), ((1, .getfield 23, 3, 10, 14, 5127, 0), (1, 86, 91)), ((4, .aload_n 0, 1, 0, 0, 0, 0), (0, 0, 0)), ((5, .getfield 155, 3, 10, 10, 5123, 0), (0, 86, 0)), ((8, .ldc 158, 2, 0, 0, 6077, 1048576), (0, 0, 0)), ((10, .iload_n 1, 1, 0, 0, 0, 0), (0, 0, 0)), ((11, .imul, 1, 0, 0, 0, 0), (0, 0, 0)), ((12, .iload_n 2, 1, 0, 0, 0, 0), (0, 0, 0)), ((13, .iadd, 1, 0, 0, 0, 0), (0, 0, 0)), ((14, .iastore, 1, 0, 0, 0, 0), (0, 91, 260)), ((15, .aload_n 0, 1, 0, 0, 0, 0), (0, 0, 0)), ((16, .aload_n 0, 1, 0, 0, 0, 0), (0, 0, 0)), ((17, .getfield 155, 3, 10, 10, 5123, 0), (0, 86, 0)), ((20, .iconst 1, 1, 0, 0, 0, 0), (0, 0, 0)), ((21, .iadd, 1, 0, 0, 0, 0), (0, 0, 0)), ((22, .putfield 155, 3, 10, 10, 5123, 0), (0, 86, 0))] (by decide +kernel) rfl ⟨trivial, (by omega)⟩ ?_
  rw [e1, e2, e3]
  exact gx_ret0 (by decide +kernel) h1

/-- factOf from 0 on -/
theorem gt179_0 {xs : List Int32} {w0 : sx_W} {d : Nat} {Q : gx_Q} {m : gx_M} {x0 : Int}
    (h1 : (x0 < 97 ∨ 122 < x0) → Q (some (-1)) m)
    (h2 : (x0 = 97) → Q (some 10) m)
    (h3 : (x0 = 98) → Q (some (-1)) m)
    (h4 : (x0 = 99) → Q (some 11) m)
    (h5 : (x0 = 100) → Q (some 2) m)
    (h6 : (x0 = 101) → Q (some 12) m)
    (h7 : (x0 = 102) → Q (some (-1)) m)
    (h8 : (x0 = 103) → Q (some (-1)) m)
    (h9 : (x0 = 104) → Q (some 8) m)
    (h10 : (x0 = 105) → Q (some (-1)) m)
    (h11 : (x0 = 106) → Q (some (-1)) m)
    (h12 : (x0 = 107) → Q (some 7) m)
    (h13 : (x0 = 108) → Q (some 3) m)
    (h14 : (x0 = 109) → Q (some 6) m)
    (h15 : (x0 = 110) → Q (some (-1)) m)
    (h16 : (x0 = 111) → Q (some 4) m)
    (h17 : (x0 = 112) → Q (some 9) m)
    (h18 : (x0 = 113) → Q (some (-1)) m)
    (h19 : (x0 = 114) → Q (some (-1)) m)
    (h20 : (x0 = 115) → Q (some 5) m)
    (h21 : (x0 = 116) → Q (some 0) m)
    (h22 : (x0 = 117) → Q (some (-1)) m)
    (h23 : (x0 = 118) → Q (some (-1)) m)
    (h24 : (x0 = 119) → Q (some (-1)) m)
    (h25 : (x0 = 120) → Q (some (-1)) m)
    (h26 : (x0 = 121) → Q (some 1) m)
    (h27 : (x0 = 122) → Q (some 13) m) : gx_to xs w0 d yp_m179 0 [(0, .inl x0)] [] m Q := by
  refine gx_blk (C := True) (npc := 1) (L' := [(0, .inl x0)]) (st' := [.inl x0]) (m' := m) [((0, .iload_n 0, 1, 0, 0, 0, 0), (0, 0, 0))] (by decide +kernel) rfl trivial ?_
  refine gx_tsw 156 97 122 [144, 156, 147, 124, 150, 156, 156, 138, 156, 156, 135, 126, 132, 156, 128, 141, 156, 156, 130, 120, 156, 156, 156, 156, 122, 153] (by decide +kernel) (fun c1 => ?_) (gx_sw_c (fun c1 => ?_) (gx_sw_c (fun c1 => ?_) (gx_sw_c (fun c1 => ?_) (gx_sw_c (fun c1 => ?_) (gx_sw_c (fun c1 => ?_) (gx_sw_c (fun c1 => ?_) (gx_sw_c (fun c1 => ?_) (gx_sw_c (fun c1 => ?_) (gx_sw_c (fun c1 => ?_) (gx_sw_c (fun c1 => ?_) (gx_sw_c (fun c1 => ?_) (gx_sw_c (fun c1 => ?_) (gx_sw_c (fun c1 => ?_) (gx_sw_c (fun c1 => ?_) (gx_sw_c (fun c1 => ?_) (gx_sw_c (fun c1 => ?_) (gx_sw_c (fun c1 => ?_) (gx_sw_c (fun c1 => ?_) (gx_sw_c (fun c1 => ?_) (gx_sw_c (fun c1 => ?_) (gx_sw_c (fun c1 => ?_) (gx_sw_c (fun c1 => ?_) (gx_sw_c (fun c1 => ?_) (gx_sw_c (fun c1 => ?_) (gx_sw_c (fun c1 => ?_) (gx_sw_c (fun c1 => ?_) gx_sw_n))))))))))))))))))))))))))
  · have c1 : x0 < 97 ∨ 122 < x0 := c1
    refine gx_blk (C := True) (npc := 157) (L' := [(0, .inl x0)]) (st' := [.inl (-1)]) (m' := m) [((156, .iconst (-1), 1, 0, 0, 0, 0), (0, 0, 0))] (by decide +kernel) rfl trivial ?_
    exact gx_reti (by decide +kernel) (h1 c1)
  · have c1 : x0 = 97 := c1
    refine gx_blk (C := True) (npc := 146) (L' := [(0, .inl x0)]) (st' := [.inl 10]) (m' := m) [((144, .bipush 10, 2, 0, 0, 0, 0), (0, 0, 0))] (by decide +kernel) rfl trivial ?_
    exact gx_reti (by decide +kernel) (h2 c1)
  · have c1 : x0 = 98 := c1
    refine gx_blk (C := True) (npc := 157) (L' := [(0, .inl x0)]) (st' := [.inl (-1)]) (m' := m) [((156, .iconst (-1), 1, 0, 0, 0, 0), (0, 0, 0))] (by decide +kernel) rfl trivial ?_
    exact gx_reti (by decide +kernel) (h3 c1)
  · have c1 : x0 = 99 := c1
    refine gx_blk (C := True) (npc := 149) (L' := [(0, .inl x0)]) (st' := [.inl 11]) (m' := m) [((147, .bipush 11, 2, 0, 0, 0, 0), (0, 0, 0))] (by decide +kernel) rfl trivial ?_
    exact gx_reti (by decide +kernel) (h4 c1)
  · have c1 : x0 = 100 := c1
    refine gx_blk (C := True) (npc := 125) (L' := [(0, .inl x0)]) (st' := [.inl 2]) (m' := m) [((124, .iconst 2, 1, 0, 0, 0, 0), (0, 0, 0))] (by decide +kernel) rfl trivial ?_
    exact gx_reti (by decide +kernel) (h5 c1)
  · have c1 : x0 = 101 := c1
    refine gx_blk (C := True) (npc := 152) (L' := [(0, .inl x0)]) (st' := [.inl 12]) (m' := m) [((150, .bipush 12, 2, 0, 0, 0, 0), (0, 0, 0))] (by decide +kernel) rfl trivial ?_
    exact gx_reti (by decide +kernel) (h6 c1)
  · have c1 : x0 = 102 := c1
    refine gx_blk (C := True) (npc := 157) (L' := [(0, .inl x0)]) (st' := [.inl (-1)]) (m' := m) [((156, .iconst (-1), 1, 0, 0, 0, 0), (0, 0, 0))] (by decide +kernel) rfl trivial ?_
    exact gx_reti (by decide +kernel) (h7 c1)
  · have c1 : x0 = 103 := c1
    refine gx_blk (C := True) (npc := 157) (L' := [(0, .inl x0)]) (st' := [.inl (-1)]) (m' := m) [((156, .iconst (-1), 1, 0, 0, 0, 0), (0, 0, 0))] (by decide +kernel) rfl trivial ?_
    exact gx_reti (by decide +kernel) (h8 c1)
  · have c1 : x0 = 104 := c1
    refine gx_blk (C := True) (npc := 140) (L' := [(0, .inl x0)]) (st' := [.inl 8]) (m' := m) [((138, .bipush 8, 2, 0, 0, 0, 0), (0, 0, 0))] (by decide +kernel) rfl trivial ?_
    exact gx_reti (by decide +kernel) (h9 c1)
  · have c1 : x0 = 105 := c1
    refine gx_blk (C := True) (npc := 157) (L' := [(0, .inl x0)]) (st' := [.inl (-1)]) (m' := m) [((156, .iconst (-1), 1, 0, 0, 0, 0), (0, 0, 0))] (by decide +kernel) rfl trivial ?_
    exact gx_reti (by decide +kernel) (h10 c1)
  · have c1 : x0 = 106 := c1
    refine gx_blk (C := True) (npc := 157) (L' := [(0, .inl x0)]) (st' := [.inl (-1)]) (m' := m) [((156, .iconst (-1), 1, 0, 0, 0, 0), (0, 0, 0))] (by decide +kernel) rfl trivial ?_
    exact gx_reti (by decide +kernel) (h11 c1)
  · have c1 : x0 = 107 := c1
    refine gx_blk (C := True) (npc := 137) (L' := [(0, .inl x0)]) (st' := [.inl 7]) (m' := m) [((135, .bipush 7, 2, 0, 0, 0, 0), (0, 0, 0))] (by decide +kernel) rfl trivial ?_
    exact gx_reti (by decide +kernel) (h12 c1)
  · have c1 : x0 = 108 := c1
    refine gx_blk (C := True) (npc := 127) (L' := [(0, .inl x0)]) (st' := [.inl 3]) (m' := m) [((126, .iconst 3, 1, 0, 0, 0, 0), (0, 0, 0))] (by decide +kernel) rfl trivial ?_
    exact gx_reti (by decide +kernel) (h13 c1)
  · have c1 : x0 = 109 := c1
    refine gx_blk (C := True) (npc := 134) (L' := [(0, .inl x0)]) (st' := [.inl 6]) (m' := m) [((132, .bipush 6, 2, 0, 0, 0, 0), (0, 0, 0))] (by decide +kernel) rfl trivial ?_
    exact gx_reti (by decide +kernel) (h14 c1)
  · have c1 : x0 = 110 := c1
    refine gx_blk (C := True) (npc := 157) (L' := [(0, .inl x0)]) (st' := [.inl (-1)]) (m' := m) [((156, .iconst (-1), 1, 0, 0, 0, 0), (0, 0, 0))] (by decide +kernel) rfl trivial ?_
    exact gx_reti (by decide +kernel) (h15 c1)
  · have c1 : x0 = 111 := c1
    refine gx_blk (C := True) (npc := 129) (L' := [(0, .inl x0)]) (st' := [.inl 4]) (m' := m) [((128, .iconst 4, 1, 0, 0, 0, 0), (0, 0, 0))] (by decide +kernel) rfl trivial ?_
    exact gx_reti (by decide +kernel) (h16 c1)
  · have c1 : x0 = 112 := c1
    refine gx_blk (C := True) (npc := 143) (L' := [(0, .inl x0)]) (st' := [.inl 9]) (m' := m) [((141, .bipush 9, 2, 0, 0, 0, 0), (0, 0, 0))] (by decide +kernel) rfl trivial ?_
    exact gx_reti (by decide +kernel) (h17 c1)
  · have c1 : x0 = 113 := c1
    refine gx_blk (C := True) (npc := 157) (L' := [(0, .inl x0)]) (st' := [.inl (-1)]) (m' := m) [((156, .iconst (-1), 1, 0, 0, 0, 0), (0, 0, 0))] (by decide +kernel) rfl trivial ?_
    exact gx_reti (by decide +kernel) (h18 c1)
  · have c1 : x0 = 114 := c1
    refine gx_blk (C := True) (npc := 157) (L' := [(0, .inl x0)]) (st' := [.inl (-1)]) (m' := m) [((156, .iconst (-1), 1, 0, 0, 0, 0), (0, 0, 0))] (by decide +kernel) rfl trivial ?_
    exact gx_reti (by decide +kernel) (h19 c1)
  · have c1 : x0 = 115 := c1
    refine gx_blk (C := True) (npc := 131) (L' := [(0, .inl x0)]) (st' := [.inl 5]) (m' := m) [((130, .iconst 5, 1, 0, 0, 0, 0), (0, 0, 0))] (by decide +kernel) rfl trivial ?_
    exact gx_reti (by decide +kernel) (h20 c1)
  · have c1 : x0 = 116 := c1
    refine gx_blk (C := True) (npc := 121) (L' := [(0, .inl x0)]) (st' := [.inl 0]) (m' := m) [((120, .iconst 0, 1, 0, 0, 0, 0), (0, 0, 0))] (by decide +kernel) rfl trivial ?_
    exact gx_reti (by decide +kernel) (h21 c1)
  · have c1 : x0 = 117 := c1
    refine gx_blk (C := True) (npc := 157) (L' := [(0, .inl x0)]) (st' := [.inl (-1)]) (m' := m) [((156, .iconst (-1), 1, 0, 0, 0, 0), (0, 0, 0))] (by decide +kernel) rfl trivial ?_
    exact gx_reti (by decide +kernel) (h22 c1)
  · have c1 : x0 = 118 := c1
    refine gx_blk (C := True) (npc := 157) (L' := [(0, .inl x0)]) (st' := [.inl (-1)]) (m' := m) [((156, .iconst (-1), 1, 0, 0, 0, 0), (0, 0, 0))] (by decide +kernel) rfl trivial ?_
    exact gx_reti (by decide +kernel) (h23 c1)
  · have c1 : x0 = 119 := c1
    refine gx_blk (C := True) (npc := 157) (L' := [(0, .inl x0)]) (st' := [.inl (-1)]) (m' := m) [((156, .iconst (-1), 1, 0, 0, 0, 0), (0, 0, 0))] (by decide +kernel) rfl trivial ?_
    exact gx_reti (by decide +kernel) (h24 c1)
  · have c1 : x0 = 120 := c1
    refine gx_blk (C := True) (npc := 157) (L' := [(0, .inl x0)]) (st' := [.inl (-1)]) (m' := m) [((156, .iconst (-1), 1, 0, 0, 0, 0), (0, 0, 0))] (by decide +kernel) rfl trivial ?_
    exact gx_reti (by decide +kernel) (h25 c1)
  · have c1 : x0 = 121 := c1
    refine gx_blk (C := True) (npc := 123) (L' := [(0, .inl x0)]) (st' := [.inl 1]) (m' := m) [((122, .iconst 1, 1, 0, 0, 0, 0), (0, 0, 0))] (by decide +kernel) rfl trivial ?_
    exact gx_reti (by decide +kernel) (h26 c1)
  · have c1 : x0 = 122 := c1
    refine gx_blk (C := True) (npc := 155) (L' := [(0, .inl x0)]) (st' := [.inl 13]) (m' := m) [((153, .bipush 13, 2, 0, 0, 0, 0), (0, 0, 0))] (by decide +kernel) rfl trivial ?_
    exact gx_reti (by decide +kernel) (h27 c1)

/-- sumSign from 0 on -/
theorem gt180_0 {xs : List Int32} {w0 : sx_W} {d : Nat} {Q : gx_Q} {m : gx_M} {x0 : Int}
    (h1 : (x0 ≠ 43) → (x0 ≠ 45) → (x0 ≠ 42) → (x0 ≠ 47) → (x0 ≠ 37) → Q (some (-1)) m)
    (h2 : (x0 ≠ 43) → (x0 ≠ 45) → (x0 ≠ 42) → (x0 ≠ 47) → (x0 = 37) → Q (some 6) m)
    (h3 : (x0 ≠ 43) → (x0 ≠ 45) → (x0 ≠ 42) → (x0 = 47) → Q (some 5) m)
    (h4 : (x0 ≠ 43) → (x0 ≠ 45) → (x0 = 42) → Q (some 4) m)
    (h5 : (x0 ≠ 43) → (x0 = 45) → Q (some 3) m)
    (h6 : (x0 = 43) → Q (some 2) m) : gx_to xs w0 d yp_m180 0 [(0, .inl x0)] [] m Q := by
  refine gx_blk (C := True) (npc := 3) (L' := [(0, .inl x0)]) (st' := [.inl 43, .inl x0]) (m' := m) [((0, .iload_n 0, 1, 0, 0, 0, 0), (0, 0, 0)), ((1, .bipush 43, 2, 0, 0, 0, 0), (0, 0, 0))] (by decide +kernel) rfl trivial ?_
  refine gx_cmp .ne 10 (by decide +kernel) (fun c1 => ?_) (fun c1 => ?_)
  · have c1 : x0 ≠ 43 := c1
    refine gx_blk (C := True) (npc := 13) (L' := [(0, .inl x0)]) (st' := [.inl 45, .inl x0]) (m' := m) [((10, .iload_n 0, 1, 0, 0, 0, 0), (0, 0, 0)), ((11, .bipush 45, 2, 0, 0, 0, 0), (0, 0, 0))] (by decide +kernel) rfl trivial ?_
    refine gx_cmp .ne 20 (by decide +kernel) (fun c2 => ?_) (fun c2 => ?_)
    · have c2 : x0 ≠ 45 := c2
      refine gx_blk (C := True) (npc := 23) (L' := [(0, .inl x0)]) (st' := [.inl 42, .inl x0]) (m' := m) [((20, .iload_n 0, 1, 0, 0, 0, 0), (0, 0, 0)), ((21, .bipush 42, 2, 0, 0, 0, 0), (0, 0, 0))] (by decide +kernel) rfl trivial ?_
      refine gx_cmp .ne 30 (by decide +kernel) (fun c3 => ?_) (fun c3 => ?_)
      · have c3 : x0 ≠ 42 := c3
        refine gx_blk (C := True) (npc := 33) (L' := [(0, .inl x0)]) (st' := [.inl 47, .inl x0]) (m' := m) [((30, .iload_n 0, 1, 0, 0, 0, 0), (0, 0, 0)), ((31, .bipush 47, 2, 0, 0, 0, 0), (0, 0, 0))] (by decide +kernel) rfl trivial ?_
        refine gx_cmp .ne 40 (by decide +kernel) (fun c4 => ?_) (fun c4 => ?_)
        · have c4 : x0 ≠ 47 := c4
          refine gx_blk (C := True) (npc := 43) (L' := [(0, .inl x0)]) (st' := [.inl 37, .inl x0]) (m' := m) [((40, .iload_n 0, 1, 0, 0, 0, 0), (0, 0, 0)), ((41, .bipush 37, 2, 0, 0, 0, 0), (0, 0, 0))] (by decide +kernel) rfl trivial ?_
          refine gx_cmp .ne 51 (by decide +kernel) (fun c5 => ?_) (fun c5 => ?_)
          · have c5 : x0 ≠ 37 := c5
            refine gx_blk (C := True) (npc := 52) (L' := [(0, .inl x0)]) (st' := [.inl (-1)]) (m' := m) [((51, .iconst (-1), 1, 0, 0, 0, 0), (0, 0, 0))] (by decide +kernel) rfl trivial ?_
            exact gx_reti (by decide +kernel) (h1 c1 c2 c3 c4 c5)
          · have c5 : x0 = 37 := by have h : ¬ (x0 ≠ 37) := c5; omega
            refine gx_blk (C := True) (npc := 52) (L' := [(0, .inl x0)]) (st' := [.inl 6]) (m' := m) [((46, .bipush 6, 2, 0, 0, 0, 0), (0, 0, 0)), ((48, .goto 4, 3, 0, 0, 0, 0), (0, 0, 0))] (by decide +kernel) rfl trivial ?_
            exact gx_reti (by decide +kernel) (h2 c1 c2 c3 c4 c5)
        · have c4 : x0 = 47 := by have h : ¬ (x0 ≠ 47) := c4; omega
          refine gx_blk (C := True) (npc := 52) (L' := [(0, .inl x0)]) (st' := [.inl 5]) (m' := m) [((36, .iconst 5, 1, 0, 0, 0, 0), (0, 0, 0)), ((37, .goto 15, 3, 0, 0, 0, 0), (0, 0, 0))] (by decide +kernel) rfl trivial ?_
          exact gx_reti (by decide +kernel) (h3 c1 c2 c3 c4)
      · have c3 : x0 = 42 := by have h : ¬ (x0 ≠ 42) := c3; omega
        refine gx_blk (C := True) (npc := 52) (L' := [(0, .inl x0)]) (st' := [.inl 4]) (m' := m) [((26, .iconst 4, 1, 0, 0, 0, 0), (0, 0, 0)), ((27, .goto 25, 3, 0, 0, 0, 0), (0, 0, 0))] (by decide +kernel) rfl trivial ?_
        exact gx_reti (by decide +kernel) (h4 c1 c2 c3)
    · have c2 : x0 = 45 := by have h : ¬ (x0 ≠ 45) := c2; omega
      refine gx_blk (C := True) (npc := 52) (L' := [(0, .inl x0)]) (st' := [.inl 3]) (m' := m) [((16, .iconst 3, 1, 0, 0, 0, 0), (0, 0, 0)), ((17, .goto 35, 3, 0, 0, 0, 0), (0, 0, 0))] (by decide +kernel) rfl trivial ?_
      exact gx_reti (by decide +kernel) (h5 c1 c2)
  · have c1 : x0 = 43 := by have h : ¬ (x0 ≠ 43) := c1; omega
    refine gx_blk (C := True) (npc := 52) (L' := [(0, .inl x0)]) (st' := [.inl 2]) (m' := m) [((6, .iconst 2, 1, 0, 0, 0, 0), (0, 0, 0)), ((7, .goto 45, 3, 0, 0, 0, 0), (0, 0, 0))] (by decide +kernel) rfl trivial ?_
    exact gx_reti (by decide +kernel) (h6 c1)

/-- closesSums from 0 on -/
theorem gt181_0 {xs : List Int32} {w0 : sx_W} {d : Nat} {Q : gx_Q} {m : gx_M} {x1 : Int}
    (h1 : gx_to xs w0 d yp_m182 0 [(0, .inr 86)] [] m (fun r m' => gx_to xs w0 (d + 1) yp_m181 4 [(0, .inr 86), (1, .inl x1)] (gx_rs r ++ []) m' Q)) : gx_to xs w0 (d + 1) yp_m181 0 [(0, .inr 86), (1, .inl x1)] [] m Q := by
  refine gx_blk (C := True) (npc := 1) (L' := [(0, .inr 86), (1, .inl x1)]) (st' := [.inr 86]) (m' := m) [((0, .aload_n 0, 1, 0, 0, 0, 0), (0, 0, 0))] (by decide +kernel) rfl trivial ?_
  exact gx_callv (E := (1, .invokevirtual 165, 3, 182, 0, 6100, 0)) (M' := yp_m182) (c := 86) [] [] rfl (by decide +kernel) rfl ⟨rfl, rfl⟩ rfl rfl (Nat.le_of_ble_eq_true rfl) (Nat.le_of_ble_eq_true rfl) (by decide +kernel) (gx_to_mono h1 (fun r m' h' => gx_to_pick [0, 1] h'))

/-- closesSums from 4 on -/
theorem gt181_4 {xs : List Int32} {w0 : sx_W} {d : Nat} {Q : gx_Q} {m : gx_M} {x1 s0 : Int}
    (h1 : (s0 < 4) → (x1 = 0) → Q none m)
    (h2 : (s0 < 4) → (x1 ≠ 0) → gx_to xs w0 d yp_m182 0 [(0, .inr 86)] [] m (fun r m' => gx_to xs w0 (d + 1) yp_m181 25 [(0, .inr 86), (1, .inl x1)] (gx_rs r ++ []) m' Q))
    (h3 : (4 ≤ s0) → gx_to xs w0 d yp_m182 0 [(0, .inr 86)] [] m (fun r m' => gx_to xs w0 (d + 1) yp_m181 12 [(0, .inr 86), (1, .inl x1)] (gx_rs r ++ []) m' Q)) : gx_to xs w0 (d + 1) yp_m181 4 [(0, .inr 86), (1, .inl x1)] [.inl s0] m Q := by
  refine gx_blk (C := True) (npc := 5) (L' := [(0, .inr 86), (1, .inl x1)]) (st' := [.inl 4, .inl s0]) (m' := m) [((4, .iconst 4, 1, 0, 0, 0, 0), (0, 0, 0))] (by decide +kernel) rfl trivial ?_
  refine gx_cmp .lt 17 (by decide +kernel) (fun c1 => ?_) (fun c1 => ?_)
  · have c1 : s0 < 4 := c1
    refine gx_blk (C := True) (npc := 18) (L' := [(0, .inr 86), (1, .inl x1)]) (st' := [.inl x1]) (m' := m) [((17, .iload_n 1, 1, 0, 0, 0, 0), (0, 0, 0))] (by decide +kernel) rfl trivial ?_
    refine gx_if .eq 59 (by decide +kernel) (fun c2 => ?_) (fun c2 => ?_)
    · have c2 : x1 = 0 := c2
      exact gx_ret0 (by decide +kernel) (h1 c1 c2)
    · have c2 : x1 ≠ 0 := c2
      refine gx_blk (C := True) (npc := 22) (L' := [(0, .inr 86), (1, .inl x1)]) (st' := [.inr 86]) (m' := m) [((21, .aload_n 0, 1, 0, 0, 0, 0), (0, 0, 0))] (by decide +kernel) rfl trivial ?_
      exact gx_callv (E := (22, .invokevirtual 165, 3, 182, 0, 6100, 0)) (M' := yp_m182) (c := 86) [] [] rfl (by decide +kernel) rfl ⟨rfl, rfl⟩ rfl rfl (Nat.le_of_ble_eq_true rfl) (Nat.le_of_ble_eq_true rfl) (by decide +kernel) (gx_to_mono (h2 c1 c2) (fun r m' h' => gx_to_pick [0, 1] h'))
  · have c1 : 4 ≤ s0 := by have h : ¬ (s0 < 4) := c1; omega
    refine gx_blk (C := True) (npc := 9) (L' := [(0, .inr 86), (1, .inl x1)]) (st' := [.inr 86]) (m' := m) [((8, .aload_n 0, 1, 0, 0, 0, 0), (0, 0, 0))] (by decide +kernel) rfl trivial ?_
    exact gx_callv (E := (9, .invokevirtual 165, 3, 182, 0, 6100, 0)) (M' := yp_m182) (c := 86) [] [] rfl (by decide +kernel) rfl ⟨rfl, rfl⟩ rfl rfl (Nat.le_of_ble_eq_true rfl) (Nat.le_of_ble_eq_true rfl) (by decide +kernel) (gx_to_mono (h3 c1) (fun r m' h' => gx_to_pick [0, 1] h'))

/-- closesSums from 12 on -/
theorem gt181_12 {xs : List Int32} {w0 : sx_W} {d : Nat} {Q : gx_Q} {m : gx_M} {x1 s0 : Int}
    (h1 : (s0 ≤ 6) → gx_to xs w0 d yp_m182 0 [(0, .inr 86)] [] m (fun r m' => gx_to xs w0 (d + 1) yp_m181 42 [(0, .inr 86), (1, .inl x1)] (gx_rs r ++ [.inr 86]) m' Q))
    (h2 : (6 < s0) → (x1 = 0) → Q none m)
    (h3 : (6 < s0) → (x1 ≠ 0) → gx_to xs w0 d yp_m182 0 [(0, .inr 86)] [] m (fun r m' => gx_to xs w0 (d + 1) yp_m181 25 [(0, .inr 86), (1, .inl x1)] (gx_rs r ++ []) m' Q)) : gx_to xs w0 (d + 1) yp_m181 12 [(0, .inr 86), (1, .inl x1)] [.inl s0] m Q := by
  refine gx_blk (C := True) (npc := 14) (L' := [(0, .inr 86), (1, .inl x1)]) (st' := [.inl 6, .inl s0]) (m' := m) [((12, .bipush 6, 2, 0, 0, 0, 0), (0, 0, 0))] (by decide +kernel) rfl trivial ?_
  refine gx_cmp .le 37 (by decide +kernel) (fun c1 => ?_) (fun c1 => ?_)
  · have c1 : s0 ≤ 6 := c1
    refine gx_blk (C := True) (npc := 39) (L' := [(0, .inr 86), (1, .inl x1)]) (st' := [.inr 86, .inr 86]) (m' := m) [((37, .aload_n 0, 1, 0, 0, 0, 0), (0, 0, 0)), ((38, .aload_n 0, 1, 0, 0, 0, 0), (0, 0, 0))] (by decide +kernel) rfl trivial ?_
    exact gx_callv (E := (39, .invokevirtual 165, 3, 182, 0, 6100, 0)) (M' := yp_m182) (c := 86) [] [.inr 86] rfl (by decide +kernel) rfl ⟨rfl, rfl⟩ rfl rfl (Nat.le_of_ble_eq_true rfl) (Nat.le_of_ble_eq_true rfl) (by decide +kernel) (gx_to_mono (h1 c1) (fun r m' h' => gx_to_pick [0, 1] h'))
  · have c1 : 6 < s0 := by have h : ¬ (s0 ≤ 6) := c1; omega
    refine gx_blk (C := True) (npc := 18) (L' := [(0, .inr 86), (1, .inl x1)]) (st' := [.inl x1]) (m' := m) [((17, .iload_n 1, 1, 0, 0, 0, 0), (0, 0, 0))] (by decide +kernel) rfl trivial ?_
    refine gx_if .eq 59 (by decide +kernel) (fun c2 => ?_) (fun c2 => ?_)
    · have c2 : x1 = 0 := c2
      exact gx_ret0 (by decide +kernel) (h2 c1 c2)
    · have c2 : x1 ≠ 0 := c2
      refine gx_blk (C := True) (npc := 22) (L' := [(0, .inr 86), (1, .inl x1)]) (st' := [.inr 86]) (m' := m) [((21, .aload_n 0, 1, 0, 0, 0, 0), (0, 0, 0))] (by decide +kernel) rfl trivial ?_
      exact gx_callv (E := (22, .invokevirtual 165, 3, 182, 0, 6100, 0)) (M' := yp_m182) (c := 86) [] [] rfl (by decide +kernel) rfl ⟨rfl, rfl⟩ rfl rfl (Nat.le_of_ble_eq_true rfl) (Nat.le_of_ble_eq_true rfl) (by decide +kernel) (gx_to_mono (h3 c1 c2) (fun r m' h' => gx_to_pick [0, 1] h'))

/-- closesSums from 25 on -/
theorem gt181_25 {xs : List Int32} {w0 : sx_W} {d : Nat} {Q : gx_Q} {m : gx_M} {x1 s0 : Int}
    (h1 : (s0 = 2) → gx_to xs w0 d yp_m182 0 [(0, .inr 86)] [] m (fun r m' => gx_to xs w0 (d + 1) yp_m181 42 [(0, .inr 86), (1, .inl x1)] (gx_rs r ++ [.inr 86]) m' Q))
    (h2 : (s0 ≠ 2) → gx_to xs w0 d yp_m182 0 [(0, .inr 86)] [] m (fun r m' => gx_to xs w0 (d + 1) yp_m181 33 [(0, .inr 86), (1, .inl x1)] (gx_rs r ++ []) m' Q)) : gx_to xs w0 (d + 1) yp_m181 25 [(0, .inr 86), (1, .inl x1)] [.inl s0] m Q := by
  refine gx_blk (C := True) (npc := 26) (L' := [(0, .inr 86), (1, .inl x1)]) (st' := [.inl 2, .inl s0]) (m' := m) [((25, .iconst 2, 1, 0, 0, 0, 0), (0, 0, 0))] (by decide +kernel) rfl trivial ?_
  refine gx_cmp .eq 37 (by decide +kernel) (fun c1 => ?_) (fun c1 => ?_)
  · have c1 : s0 = 2 := c1
    refine gx_blk (C := True) (npc := 39) (L' := [(0, .inr 86), (1, .inl x1)]) (st' := [.inr 86, .inr 86]) (m' := m) [((37, .aload_n 0, 1, 0, 0, 0, 0), (0, 0, 0)), ((38, .aload_n 0, 1, 0, 0, 0, 0), (0, 0, 0))] (by decide +kernel) rfl trivial ?_
    exact gx_callv (E := (39, .invokevirtual 165, 3, 182, 0, 6100, 0)) (M' := yp_m182) (c := 86) [] [.inr 86] rfl (by decide +kernel) rfl ⟨rfl, rfl⟩ rfl rfl (Nat.le_of_ble_eq_true rfl) (Nat.le_of_ble_eq_true rfl) (by decide +kernel) (gx_to_mono (h1 c1) (fun r m' h' => gx_to_pick [0, 1] h'))
  · have c1 : s0 ≠ 2 := c1
    refine gx_blk (C := True) (npc := 30) (L' := [(0, .inr 86), (1, .inl x1)]) (st' := [.inr 86]) (m' := m) [((29, .aload_n 0, 1, 0, 0, 0, 0), (0, 0, 0))] (by decide +kernel) rfl trivial ?_
    exact gx_callv (E := (30, .invokevirtual 165, 3, 182, 0, 6100, 0)) (M' := yp_m182) (c := 86) [] [] rfl (by decide +kernel) rfl ⟨rfl, rfl⟩ rfl rfl (Nat.le_of_ble_eq_true rfl) (Nat.le_of_ble_eq_true rfl) (by decide +kernel) (gx_to_mono (h2 c1) (fun r m' h' => gx_to_pick [0, 1] h'))

/-- closesSums from 33 on -/
theorem gt181_33 {xs : List Int32} {w0 : sx_W} {d : Nat} {Q : gx_Q} {m : gx_M} {x1 s0 : Int}
    (h1 : (s0 ≠ 3) → Q none m)
    (h2 : (s0 = 3) → gx_to xs w0 d yp_m182 0 [(0, .inr 86)] [] m (fun r m' => gx_to xs w0 (d + 1) yp_m181 42 [(0, .inr 86), (1, .inl x1)] (gx_rs r ++ [.inr 86]) m' Q)) : gx_to xs w0 (d + 1) yp_m181 33 [(0, .inr 86), (1, .inl x1)] [.inl s0] m Q := by
  refine gx_blk (C := True) (npc := 34) (L' := [(0, .inr 86), (1, .inl x1)]) (st' := [.inl 3, .inl s0]) (m' := m) [((33, .iconst 3, 1, 0, 0, 0, 0), (0, 0, 0))] (by decide +kernel) rfl trivial ?_
  refine gx_cmp .ne 59 (by decide +kernel) (fun c1 => ?_) (fun c1 => ?_)
  · have c1 : s0 ≠ 3 := c1
    exact gx_ret0 (by decide +kernel) (h1 c1)
  · have c1 : s0 = 3 := by have h : ¬ (s0 ≠ 3) := c1; omega
    refine gx_blk (C := True) (npc := 39) (L' := [(0, .inr 86), (1, .inl x1)]) (st' := [.inr 86, .inr 86]) (m' := m) [((37, .aload_n 0, 1, 0, 0, 0, 0), (0, 0, 0)), ((38, .aload_n 0, 1, 0, 0, 0, 0), (0, 0, 0))] (by decide +kernel) rfl trivial ?_
    exact gx_callv (E := (39, .invokevirtual 165, 3, 182, 0, 6100, 0)) (M' := yp_m182) (c := 86) [] [.inr 86] rfl (by decide +kernel) rfl ⟨rfl, rfl⟩ rfl rfl (Nat.le_of_ble_eq_true rfl) (Nat.le_of_ble_eq_true rfl) (by decide +kernel) (gx_to_mono (h2 c1) (fun r m' h' => gx_to_pick [0, 1] h'))

/-- closesSums from 42 on -/
theorem gt181_42 {xs : List Int32} {w0 : sx_W} {d : Nat} {Q : gx_Q} {m : gx_M} {x1 s1 : Int}
    (h1 : gx_to xs w0 d yp_m178 0 [(0, .inr 86), (1, .inl s1), (2, .inl 0)] [] m (fun r m' => gx_to xs w0 (d + 1) yp_m181 46 [(0, .inr 86), (1, .inl x1)] (gx_rs r ++ []) m' Q)) : gx_to xs w0 (d + 1) yp_m181 42 [(0, .inr 86), (1, .inl x1)] [.inl s1, .inr 86] m Q := by
  refine gx_blk (C := True) (npc := 43) (L' := [(0, .inr 86), (1, .inl x1)]) (st' := [.inl 0, .inl s1, .inr 86]) (m' := m) [((42, .iconst 0, 1, 0, 0, 0, 0), (0, 0, 0))] (by decide +kernel) rfl trivial ?_
  exact gx_callv (E := (43, .invokevirtual 168, 3, 178, 0, 6086, 0)) (M' := yp_m178) (c := 86) [.inl s1, .inl 0] [] rfl (by decide +kernel) rfl ⟨rfl, rfl⟩ rfl rfl (Nat.le_of_ble_eq_true rfl) (Nat.le_of_ble_eq_true rfl) (by decide +kernel) (gx_to_mono h1 (fun r m' h' => gx_to_pick [0, 1] h'))

/-- closesSums from 46 on -/
theorem gt181_46 {xs : List Int32} {w0 : sx_W} {d : Nat} {Q : gx_Q} {m : gx_M} {x1 : Int} (g0 : 0 ≤ (m 86 11) ∧ (m 86 11) ≤ 250)
    (h1 : gx_to xs w0 d yp_m181 0 [(0, .inr 86), (1, .inl x1)] [] (gx_u m 86 11 ((m 86 11) - 1)) Q) : gx_to xs w0 d yp_m181 46 [(0, .inr 86), (1, .inl x1)] [] m Q := by
  have e1 : gx_w ((m 86 11) - 1) = (m 86 11) - 1 := gx_w_id (by omega) (by omega)
  refine gx_blk (C := True) (npc := 0) (L' := [(0, .inr 86), (1, .inl x1)]) (st' := []) (m' := (gx_u m 86 11 (gx_w ((m 86 11) - 1)))) [((46, .aload_n 0, 1, 0, 0, 0, 0), (0, 0, 0)), ((47, .aload_n 0, 1, 0, 0, 0, 0), (0, 0, 0)), ((48, .getfield 162, 3, 10, 11, 5124, 0), (0, 86, 0)), ((51, .iconst 1, 1, 0, 0, 0, 0), (0, 0, 0)), ((52, .isub, 1, 0, 0, 0, 0), (0, 0, 0)), ((53, .putfield 162, 3, 10, 11, 5124, 0), (0, 86, 0)), ((56, .goto (-56), 3, 0, 0, 0, 0), (0, 0, 0))] (by decide +kernel) rfl trivial ?_
  rw [e1]
  exact gx_to_pick [0, 1] h1

/-- waitTop from 0 on -/
theorem gt182_0 {xs : List Int32} {w0 : sx_W} {d : Nat} {Q : gx_Q} {m : gx_M} (g0 : 0 ≤ (m 86 11) ∧ (m 86 11) ≤ 250)
    (h1 : ((m 86 11) ≠ 0) → Q (some (gx_w (Int.tdiv (m 92 ((m 86 11) - 1).toNat) 1048576))) m)
    (h2 : ((m 86 11) = 0) → Q (some (-1)) m) : gx_to xs w0 d yp_m182 0 [(0, .inr 86)] [] m Q := by
  refine gx_blk (C := True) (npc := 4) (L' := [(0, .inr 86)]) (st' := [.inl (m 86 11)]) (m' := m) [((0, .aload_n 0, 1, 0, 0, 0, 0), (0, 0, 0)), ((1, .getfield 162, 3, 10, 11, 5124, 0), (0, 86, 0))] (by decide +kernel) rfl trivial ?_
  refine gx_if .ne 11 (by decide +kernel) (fun c1 => ?_) (fun c1 => ?_)
  · have c1 : (m 86 11) ≠ 0 := c1
    have e1 : gx_w ((m 86 11) - 1) = (m 86 11) - 1 := gx_w_id (by omega) (by omega)
    refine gx_blk (C := (((True ∧ (0 ≤ (gx_w ((m 86 11) - 1)) ∧ (gx_w ((m 86 11) - 1)) < 260))) ∧ (1048576 ≠ 0))) (npc := 25) (L' := [(0, .inr 86)]) (st' := [.inl (gx_w (Int.tdiv (m 92 (gx_w ((m 86 11) - 1)).toNat) 1048576))]) (m' := m) [((11, .aload_n 0, 1, 0, 0, 0, 0), (0, 0, 0)), ((12, .getfield 26, 3, 10, 15, 5128, 0), (1, 86, 92)), ((15, .aload_n 0, 1, 0, 0, 0, 0), (0, 0, 0)), ((16, .getfield 162, 3, 10, 11, 5124, 0), (0, 86, 0)), ((19, .iconst 1, 1, 0, 0, 0, 0), (0, 0, 0)), ((20, .isub, 1, 0, 0, 0, 0), (0, 0, 0)), ((21, .iaload, 1, 0, 0, 0, 0), (0, 92, 260)), ((22, .ldc 158, 2, 0, 0, 6077, 1048576), (0, 0, 0)), ((24, .idiv, 1, 0, 0, 0, 0), (0, 0, 0))] (by decide +kernel) rfl ⟨⟨trivial, (by rw [e1]; omega)⟩, (by omega)⟩ ?_
    rw [e1]
    exact gx_reti (by decide +kernel) (h1 c1)
  · have c1 : (m 86 11) = 0 := by have h : ¬ ((m 86 11) ≠ 0) := c1; omega
    refine gx_blk (C := True) (npc := 25) (L' := [(0, .inr 86)]) (st' := [.inl (-1)]) (m' := m) [((7, .iconst (-1), 1, 0, 0, 0, 0), (0, 0, 0)), ((8, .goto 17, 3, 0, 0, 0, 0), (0, 0, 0))] (by decide +kernel) rfl trivial ?_
    exact gx_reti (by decide +kernel) (h2 c1)

/-- hasOpenSum from 0 on -/
theorem gt183_0 {xs : List Int32} {w0 : sx_W} {d : Nat} {Q : gx_Q} {m : gx_M} {x1 : Int} (r_x1 : 0 ≤ x1 ∧ x1 ≤ 250)
    (h1 : gx_to xs w0 d yp_m183 2 [(0, .inr 86), (2, .inl x1)] [] m Q) : gx_to xs w0 d yp_m183 0 [(0, .inr 86), (1, .inl x1)] [] m Q := by
  refine gx_blk (C := True) (npc := 2) (L' := [(0, .inr 86), (1, .inl x1), (2, .inl x1)]) (st' := []) (m' := m) [((0, .iload_n 1, 1, 0, 0, 0, 0), (0, 0, 0)), ((1, .istore_n 2, 1, 0, 0, 0, 0), (0, 0, 0))] (by decide +kernel) rfl trivial ?_
  exact gx_to_pick [0, 2] h1

/-- hasOpenSum from 2 on -/
theorem gt183_2 {xs : List Int32} {w0 : sx_W} {d : Nat} {Q : gx_Q} {m : gx_M} {x2 : Int} (r_x2 : 0 ≤ x2 ∧ x2 ≤ 250) (g1 : 0 ≤ (m 86 11) ∧ (m 86 11) ≤ 250)
    (h1 : ((m 86 11) ≤ x2) → Q (some 0) m)
    (h2 : (x2 < (m 86 11)) → ((gx_w (Int.tdiv (m 92 (x2).toNat) 1048576)) ≠ 14) → gx_to xs w0 d yp_m183 2 [(0, .inr 86), (2, .inl (x2 + 1))] [] m Q)
    (h3 : (x2 < (m 86 11)) → ((gx_w (Int.tdiv (m 92 (x2).toNat) 1048576)) = 14) → Q (some 1) m) : gx_to xs w0 d yp_m183 2 [(0, .inr 86), (2, .inl x2)] [] m Q := by
  refine gx_blk (C := True) (npc := 7) (L' := [(0, .inr 86), (2, .inl x2)]) (st' := [.inl (m 86 11), .inl x2]) (m' := m) [((2, .iload_n 2, 1, 0, 0, 0, 0), (0, 0, 0)), ((3, .aload_n 0, 1, 0, 0, 0, 0), (0, 0, 0)), ((4, .getfield 162, 3, 10, 11, 5124, 0), (0, 86, 0))] (by decide +kernel) rfl trivial ?_
  refine gx_cmp .ge 32 (by decide +kernel) (fun c1 => ?_) (fun c1 => ?_)
  · have c1 : (m 86 11) ≤ x2 := c1
    refine gx_blk (C := True) (npc := 33) (L' := [(0, .inr 86), (2, .inl x2)]) (st' := [.inl 0]) (m' := m) [((32, .iconst 0, 1, 0, 0, 0, 0), (0, 0, 0))] (by decide +kernel) rfl trivial ?_
    exact gx_retb (by decide +kernel) (by omega) (h1 c1)
  · have c1 : x2 < (m 86 11) := by have h : ¬ ((m 86 11) ≤ x2) := c1; omega
    refine gx_blk (C := (((True ∧ (0 ≤ x2 ∧ x2 < 260))) ∧ (1048576 ≠ 0))) (npc := 21) (L' := [(0, .inr 86), (2, .inl x2)]) (st' := [.inl 14, .inl (gx_w (Int.tdiv (m 92 (x2).toNat) 1048576))]) (m' := m) [((10, .aload_n 0, 1, 0, 0, 0, 0), (0, 0, 0)), ((11, .getfield 26, 3, 10, 15, 5128, 0), (1, 86, 92)), ((14, .iload_n 2, 1, 0, 0, 0, 0), (0, 0, 0)), ((15, .iaload, 1, 0, 0, 0, 0), (0, 92, 260)), ((16, .ldc 158, 2, 0, 0, 6077, 1048576), (0, 0, 0)), ((18, .idiv, 1, 0, 0, 0, 0), (0, 0, 0)), ((19, .bipush 14, 2, 0, 0, 0, 0), (0, 0, 0))] (by decide +kernel) rfl ⟨⟨trivial, (by omega)⟩, (by omega)⟩ ?_
    refine gx_cmp .ne 26 (by decide +kernel) (fun c2 => ?_) (fun c2 => ?_)
    · have c2 : (gx_w (Int.tdiv (m 92 (x2).toNat) 1048576)) ≠ 14 := c2
      have e1 : gx_w (x2 + 1) = x2 + 1 := gx_w_id (by omega) (by omega)
      refine gx_blk (C := True) (npc := 2) (L' := [(0, .inr 86), (2, .inl (gx_w (x2 + 1)))]) (st' := []) (m' := m) [((26, .iinc 2 1, 3, 0, 0, 0, 0), (0, 0, 0)), ((29, .goto (-27), 3, 0, 0, 0, 0), (0, 0, 0))] (by decide +kernel) rfl trivial ?_
      rw [e1]
      exact gx_to_pick [0, 2] (h2 c1 c2)
    · have c2 : (gx_w (Int.tdiv (m 92 (x2).toNat) 1048576)) = 14 := by have h : ¬ ((gx_w (Int.tdiv (m 92 (x2).toNat) 1048576)) ≠ 14) := c2; omega
      refine gx_blk (C := True) (npc := 25) (L' := [(0, .inr 86), (2, .inl x2)]) (st' := [.inl 1]) (m' := m) [((24, .iconst 1, 1, 0, 0, 0, 0), (0, 0, 0))] (by decide +kernel) rfl trivial ?_
      exact gx_retb (by decide +kernel) (by omega) (h3 c1 c2)

/-- endsPiece from 0 on -/
theorem gt186_0 {xs : List Int32} {w0 : sx_W} {d : Nat} {Q : gx_Q} {m : gx_M}
    (h1 : gx_to xs w0 d yp_m182 0 [(0, .inr 86)] [] m (fun r m' => gx_to xs w0 (d + 1) yp_m186 4 [(0, .inr 86)] (gx_rs r ++ []) m' Q)) : gx_to xs w0 (d + 1) yp_m186 0 [(0, .inr 86)] [] m Q := by
  refine gx_blk (C := True) (npc := 1) (L' := [(0, .inr 86)]) (st' := [.inr 86]) (m' := m) [((0, .aload_n 0, 1, 0, 0, 0, 0), (0, 0, 0))] (by decide +kernel) rfl trivial ?_
  exact gx_callv (E := (1, .invokevirtual 165, 3, 182, 0, 6100, 0)) (M' := yp_m182) (c := 86) [] [] rfl (by decide +kernel) rfl ⟨rfl, rfl⟩ rfl rfl (Nat.le_of_ble_eq_true rfl) (Nat.le_of_ble_eq_true rfl) (by decide +kernel) (gx_to_mono h1 (fun r m' h' => gx_to_pick [0] h'))

/-- endsPiece from 4 on -/
theorem gt186_4 {xs : List Int32} {w0 : sx_W} {d : Nat} {Q : gx_Q} {m : gx_M} {s0 : Int}
    (h1 : (s0 ≠ 10) → Q none m)
    (h2 : (s0 = 10) → gx_to xs w0 d yp_m178 0 [(0, .inr 86), (1, .inl 10), (2, .inl 0)] [] m (fun r m' => gx_to xs w0 (d + 1) yp_m186 16 [(0, .inr 86)] (gx_rs r ++ []) m' Q)) : gx_to xs w0 (d + 1) yp_m186 4 [(0, .inr 86)] [.inl s0] m Q := by
  refine gx_blk (C := True) (npc := 6) (L' := [(0, .inr 86)]) (st' := [.inl 10, .inl s0]) (m' := m) [((4, .bipush 10, 2, 0, 0, 0, 0), (0, 0, 0))] (by decide +kernel) rfl trivial ?_
  refine gx_cmp .ne 39 (by decide +kernel) (fun c1 => ?_) (fun c1 => ?_)
  · have c1 : s0 ≠ 10 := c1
    exact gx_ret0 (by decide +kernel) (h1 c1)
  · have c1 : s0 = 10 := by have h : ¬ (s0 ≠ 10) := c1; omega
    refine gx_blk (C := True) (npc := 13) (L' := [(0, .inr 86)]) (st' := [.inl 0, .inl 10, .inr 86]) (m' := m) [((9, .aload_n 0, 1, 0, 0, 0, 0), (0, 0, 0)), ((10, .bipush 10, 2, 0, 0, 0, 0), (0, 0, 0)), ((12, .iconst 0, 1, 0, 0, 0, 0), (0, 0, 0))] (by decide +kernel) rfl trivial ?_
    exact gx_callv (E := (13, .invokevirtual 168, 3, 178, 0, 6086, 0)) (M' := yp_m178) (c := 86) [.inl 10, .inl 0] [] rfl (by decide +kernel) rfl ⟨rfl, rfl⟩ rfl rfl (Nat.le_of_ble_eq_true rfl) (Nat.le_of_ble_eq_true rfl) (by decide +kernel) (gx_to_mono (h2 c1) (fun r m' h' => gx_to_pick [0] h'))

/-- endsPiece from 16 on -/
theorem gt186_16 {xs : List Int32} {w0 : sx_W} {d : Nat} {Q : gx_Q} {m : gx_M} (g0 : 0 ≤ (m 86 11) ∧ (m 86 11) ≤ 250)
    (h1 : gx_to xs w0 d yp_m186 0 [(0, .inr 86)] [] (gx_u (gx_u m 86 11 ((m 86 11) - 1)) 86 9 (gx_w ((m 86 9) - 1))) Q) : gx_to xs w0 d yp_m186 16 [(0, .inr 86)] [] m Q := by
  have e1 : gx_w ((m 86 11) - 1) = (m 86 11) - 1 := gx_w_id (by omega) (by omega)
  refine gx_blk (C := True) (npc := 0) (L' := [(0, .inr 86)]) (st' := []) (m' := (gx_u (gx_u m 86 11 (gx_w ((m 86 11) - 1))) 86 9 (gx_w ((m 86 9) - 1)))) [((16, .aload_n 0, 1, 0, 0, 0, 0), (0, 0, 0)), ((17, .aload_n 0, 1, 0, 0, 0, 0), (0, 0, 0)), ((18, .getfield 162, 3, 10, 11, 5124, 0), (0, 86, 0)), ((21, .iconst 1, 1, 0, 0, 0, 0), (0, 0, 0)), ((22, .isub, 1, 0, 0, 0, 0), (0, 0, 0)), ((23, .putfield 162, 3, 10, 11, 5124, 0), (0, 86, 0)), ((26, .aload_n 0, 1, 0, 0, 0, 0), (0, 0, 0)), ((27, .aload_n 0, 1, 0, 0, 0, 0), (0, 0, 0)), ((28, .getfield 159, 3, 10, 9, 5122, 0), (0, 86, 0)), ((31, .iconst 1, 1, 0, 0, 0, 0), (0, 0, 0)), ((32, .isub, 1, 0, 0, 0, 0), (0, 0, 0)), ((33, .putfield 159, 3, 10, 9, 5122, 0), (0, 86, 0)), ((36, .goto (-36), 3, 0, 0, 0, 0), (0, 0, 0))] (by decide +kernel) rfl trivial ?_
  rw [e1]
  exact gx_to_pick [0] h1

/-- lands from 0 on -/
theorem gt187_0 {xs : List Int32} {w0 : sx_W} {d : Nat} {Q : gx_Q} {m : gx_M} {x1 : Int}
    (h1 : gx_to xs w0 d yp_m182 0 [(0, .inr 86)] [] m (fun r m' => gx_to xs w0 (d + 1) yp_m187 4 [(0, .inr 86), (1, .inl x1)] (gx_rs r ++ []) m' Q)) : gx_to xs w0 (d + 1) yp_m187 0 [(0, .inr 86), (1, .inl x1)] [] m Q := by
  refine gx_blk (C := True) (npc := 1) (L' := [(0, .inr 86), (1, .inl x1)]) (st' := [.inr 86]) (m' := m) [((0, .aload_n 0, 1, 0, 0, 0, 0), (0, 0, 0))] (by decide +kernel) rfl trivial ?_
  exact gx_callv (E := (1, .invokevirtual 165, 3, 182, 0, 6100, 0)) (M' := yp_m182) (c := 86) [] [] rfl (by decide +kernel) rfl ⟨rfl, rfl⟩ rfl rfl (Nat.le_of_ble_eq_true rfl) (Nat.le_of_ble_eq_true rfl) (by decide +kernel) (gx_to_mono h1 (fun r m' h' => gx_to_pick [0, 1] h'))

/-- lands from 4 on -/
theorem gt187_4 {xs : List Int32} {w0 : sx_W} {d : Nat} {Q : gx_Q} {m : gx_M} {x1 s0 : Int} (g0 : 0 ≤ (m 86 10) ∧ (m 86 10) ≤ 250) (g1 : 0 ≤ (m 86 11) ∧ (m 86 11) ≤ 250)
    (k1 : (s0 = 11) → 0 ≤ ((m 86 11) - 1) ∧ ((m 86 11) - 1) < 260)
    (k2 : (s0 = 11) → 0 ≤ (Int.tmod (m 92 ((m 86 11) - 1).toNat) 1048576) ∧ (Int.tmod (m 92 ((m 86 11) - 1).toNat) 1048576) < 260)
    (k3 : (s0 = 11) → 0 ≤ (Int.tmod (m 92 ((m 86 11) - 1).toNat) 1048576) ∧ (Int.tmod (m 92 ((m 86 11) - 1).toNat) 1048576) < 260)
    (h1 : (s0 = 11) → gx_to xs w0 (d + 1) yp_m187 0 [(0, .inr 86), (1, .inl x1)] [] (gx_u (gx_u m 91 (Int.tmod (m 92 ((m 86 11) - 1).toNat) 1048576).toNat (gx_w ((gx_w (1048576 * (gx_w (Int.tdiv (m 91 (Int.tmod (m 92 ((m 86 11) - 1).toNat) 1048576).toNat) 1048576)))) + (m 86 10)))) 86 11 ((m 86 11) - 1)) Q)
    (h2 : (s0 ≠ 11) → (x1 = 0) → Q none m)
    (h3 : (s0 ≠ 11) → (x1 ≠ 0) → gx_to xs w0 d yp_m182 0 [(0, .inr 86)] [] m (fun r m' => gx_to xs w0 (d + 1) yp_m187 17 [(0, .inr 86), (1, .inl x1)] (gx_rs r ++ []) m' Q)) : gx_to xs w0 (d + 1) yp_m187 4 [(0, .inr 86), (1, .inl x1)] [.inl s0] m Q := by
  refine gx_blk (C := True) (npc := 6) (L' := [(0, .inr 86), (1, .inl x1)]) (st' := [.inl 11, .inl s0]) (m' := m) [((4, .bipush 11, 2, 0, 0, 0, 0), (0, 0, 0))] (by decide +kernel) rfl trivial ?_
  refine gx_cmp .eq 22 (by decide +kernel) (fun c1 => ?_) (fun c1 => ?_)
  · have c1 : s0 = 11 := c1
    have e1 : gx_w ((m 86 11) - 1) = (m 86 11) - 1 := gx_w_id (by omega) (by omega)
    have e2 : gx_w ((m 86 11) - 1) = (m 86 11) - 1 := gx_w_id (by omega) (by omega)
    refine gx_blk (C := (((((((((True ∧ (0 ≤ (gx_w ((m 86 11) - 1)) ∧ (gx_w ((m 86 11) - 1)) < 260))) ∧ (1048576 ≠ 0))) ∧ (0 ≤ (Int.tmod (m 92 (gx_w ((m 86 11) - 1)).toNat) 1048576) ∧ (Int.tmod (m 92 (gx_w ((m 86 11) - 1)).toNat) 1048576) < 260))) ∧ (1048576 ≠ 0))) ∧ (0 ≤ (Int.tmod (m 92 (gx_w ((m 86 11) - 1)).toNat) 1048576) ∧ (Int.tmod (m 92 (gx_w ((m 86 11) - 1)).toNat) 1048576) < 260))) (npc := 0) (L' := [(0, .inr 86), (1, .inl x1), (2, .inl (Int.tmod (m 92 (gx_w ((m 86 11) - 1)).toNat) 1048576))]) (st' := []) (m' := (gx_u (gx_u m 91 (Int.tmod (m 92 (gx_w ((m 86 11) - 1)).toNat) 1048576).toNat (gx_w ((gx_w (1048576 * (gx_w (Int.tdiv (m 91 (Int.tmod (m 92 (gx_w ((m 86 11) - 1)).toNat) 1048576).toNat) 1048576)))) + (m 86 10)))) 86 11 (gx_w ((m 86 11) - 1)))) [((22, .aload_n 0, 1, 0, 0, 0, 0), (0, 0, 0)), ((23, .getfield 26, 3, 10, 15, 5128, 0), (1, 86, 92)), ((26, .aload_n 0, 1, 0, 0, 0, 0), (0, 0, 0)), ((27, .getfield 162, 3, 10, 11, 5124, 0), (0, 86, 0)), ((30, .iconst 1, 1, 0, 0, 0, 0), (0, 0, 0)), ((31, .isub, 1, 0, 0, 0, 0), (0, 0, 0)), ((32, .iaload, 1, 0, 0, 0, 0), (0, 92, 260)), ((33, .ldc 158, 2, 0, 0, 6077, 1048576), (0, 0, 0)), ((35, .irem, 1, 0, 0, 0, 0), (0, 0, 0)), ((36, .istore_n 2, 1, 0, 0, 0, 0), (0, 0, 0)), ((37, .aload_n 0, 1, 0, 0, 0, 0), (0, 0, 0)), ((38, .getfield 23, 3, 10, 14, 5127, 0), (1, 86, 91)), ((41, .iload_n 2, 1, 0, 0, 0, 0), (0, 0, 0)), ((42, .ldc 158, 2, 0, 0, 6077, 1048576), (0, 0, 0)), ((44, .aload_n 0, 1, 0, 0, 0, 0), (0, 0, 0)), ((45, .getfield 23, 3, 10, 14, 5127, 0), (1, 86, 91)), ((48, .iload_n 2, 1, 0, 0, 0, 0), (0, 0, 0)), ((49, .iaload, 1, 0, 0, 0, 0), (0, 91, 260)), ((50, .ldc 158, 2, 0, 0, 6077, 1048576), (0, 0, 0)), ((52, .idiv, 1, 0, 0, 0, 0), (0, 0, 0)), ((53, .imul, 1, 0, 0, 0, 0), (0, 0, 0)), ((54, .aload_n 0, 1, 0, 0, 0, 0), (0, 0, 0)), ((55, .getfield 155, 3, 10, 10, 5123, 0), (0, 86, 0)), ((58, .iadd, 1, 0, 0, 0, 0), (0, 0, 0)), ((59, .iastore, 1, 0, 0, 0, 0), (0, 91, 260)), ((60, .aload_n 0, 1, 0, 0, 0, 0), (0, 0, 0)), ((61, .aload_n 0, 1, 0, 0, 0, 0), (0, 0, 0)), ((62, .getfield 162, 3, 10, 11, 5124, 0), (0, 86, 0)), ((65, .iconst 1, 1, 0, 0, 0, 0), (0, 0, 0)), ((66, .isub, 1, 0, 0, 0, 0), (0, 0, 0)), ((67, .putfield 162, 3, 10, 11, 5124, 0), (0, 86, 0)), ((70, .goto (-70), 3, 0, 0, 0, 0), (0, 0, 0))] (by decide +kernel) rfl ⟨⟨⟨⟨⟨trivial, (by rw [e1]; exact (k1 c1))⟩, (by omega)⟩, (by rw [e1]; exact (k2 c1))⟩, (by omega)⟩, (by rw [e1]; exact (k3 c1))⟩ ?_
    rw [e1]
    exact gx_to_pick [0, 1] (h1 c1)
  · have c1 : s0 ≠ 11 := c1
    refine gx_blk (C := True) (npc := 10) (L' := [(0, .inr 86), (1, .inl x1)]) (st' := [.inl x1]) (m' := m) [((9, .iload_n 1, 1, 0, 0, 0, 0), (0, 0, 0))] (by decide +kernel) rfl trivial ?_
    refine gx_if .eq 73 (by decide +kernel) (fun c2 => ?_) (fun c2 => ?_)
    · have c2 : x1 = 0 := c2
      exact gx_ret0 (by decide +kernel) (h2 c1 c2)
    · have c2 : x1 ≠ 0 := c2
      refine gx_blk (C := True) (npc := 14) (L' := [(0, .inr 86), (1, .inl x1)]) (st' := [.inr 86]) (m' := m) [((13, .aload_n 0, 1, 0, 0, 0, 0), (0, 0, 0))] (by decide +kernel) rfl trivial ?_
      exact gx_callv (E := (14, .invokevirtual 165, 3, 182, 0, 6100, 0)) (M' := yp_m182) (c := 86) [] [] rfl (by decide +kernel) rfl ⟨rfl, rfl⟩ rfl rfl (Nat.le_of_ble_eq_true rfl) (Nat.le_of_ble_eq_true rfl) (by decide +kernel) (gx_to_mono (h3 c1 c2) (fun r m' h' => gx_to_pick [0, 1] h'))

/-- lands from 17 on -/
theorem gt187_17 {xs : List Int32} {w0 : sx_W} {d : Nat} {Q : gx_Q} {m : gx_M} {x1 s0 : Int} (g0 : 0 ≤ (m 86 10) ∧ (m 86 10) ≤ 250) (g1 : 0 ≤ (m 86 11) ∧ (m 86 11) ≤ 250)
    (h1 : (s0 ≠ 12) → Q none m)
    (k1 : (s0 = 12) → 0 ≤ ((m 86 11) - 1) ∧ ((m 86 11) - 1) < 260)
    (k2 : (s0 = 12) → 0 ≤ (Int.tmod (m 92 ((m 86 11) - 1).toNat) 1048576) ∧ (Int.tmod (m 92 ((m 86 11) - 1).toNat) 1048576) < 260)
    (k3 : (s0 = 12) → 0 ≤ (Int.tmod (m 92 ((m 86 11) - 1).toNat) 1048576) ∧ (Int.tmod (m 92 ((m 86 11) - 1).toNat) 1048576) < 260)
    (h2 : (s0 = 12) → gx_to xs w0 d yp_m187 0 [(0, .inr 86), (1, .inl x1)] [] (gx_u (gx_u m 91 (Int.tmod (m 92 ((m 86 11) - 1).toNat) 1048576).toNat (gx_w ((gx_w (1048576 * (gx_w (Int.tdiv (m 91 (Int.tmod (m 92 ((m 86 11) - 1).toNat) 1048576).toNat) 1048576)))) + (m 86 10)))) 86 11 ((m 86 11) - 1)) Q) : gx_to xs w0 d yp_m187 17 [(0, .inr 86), (1, .inl x1)] [.inl s0] m Q := by
  refine gx_blk (C := True) (npc := 19) (L' := [(0, .inr 86), (1, .inl x1)]) (st' := [.inl 12, .inl s0]) (m' := m) [((17, .bipush 12, 2, 0, 0, 0, 0), (0, 0, 0))] (by decide +kernel) rfl trivial ?_
  refine gx_cmp .ne 73 (by decide +kernel) (fun c1 => ?_) (fun c1 => ?_)
  · have c1 : s0 ≠ 12 := c1
    exact gx_ret0 (by decide +kernel) (h1 c1)
  · have c1 : s0 = 12 := by have h : ¬ (s0 ≠ 12) := c1; omega
    have e1 : gx_w ((m 86 11) - 1) = (m 86 11) - 1 := gx_w_id (by omega) (by omega)
    have e2 : gx_w ((m 86 11) - 1) = (m 86 11) - 1 := gx_w_id (by omega) (by omega)
    refine gx_blk (C := (((((((((True ∧ (0 ≤ (gx_w ((m 86 11) - 1)) ∧ (gx_w ((m 86 11) - 1)) < 260))) ∧ (1048576 ≠ 0))) ∧ (0 ≤ (Int.tmod (m 92 (gx_w ((m 86 11) - 1)).toNat) 1048576) ∧ (Int.tmod (m 92 (gx_w ((m 86 11) - 1)).toNat) 1048576) < 260))) ∧ (1048576 ≠ 0))) ∧ (0 ≤ (Int.tmod (m 92 (gx_w ((m 86 11) - 1)).toNat) 1048576) ∧ (Int.tmod (m 92 (gx_w ((m 86 11) - 1)).toNat) 1048576) < 260))) (npc := 0) (L' := [(0, .inr 86), (1, .inl x1), (2, .inl (Int.tmod (m 92 (gx_w ((m 86 11) - 1)).toNat) 1048576))]) (st' := []) (m' := (gx_u (gx_u m 91 (Int.tmod (m 92 (gx_w ((m 86 11) - 1)).toNat) 1048576).toNat (gx_w ((gx_w (1048576 * (gx_w (Int.tdiv (m 91 (Int.tmod (m 92 (gx_w ((m 86 11) - 1)).toNat) 1048576).toNat) 1048576)))) + (m 86 10)))) 86 11 (gx_w ((m 86 11) - 1)))) [((22, .aload_n 0, 1, 0, 0, 0, 0), (0, 0, 0)), ((23, .getfield 26, 3, 10, 15, 5128, 0), (1, 86, 92)), ((26, .aload_n 0, 1, 0, 0, 0, 0), (0, 0, 0)), ((27, .getfield 162, 3, 10, 11, 5124, 0), (0, 86, 0)), ((30, .iconst 1, 1, 0, 0, 0, 0), (0, 0, 0)), ((31, .isub, 1, 0, 0, 0, 0), (0, 0, 0)), ((32, .iaload, 1, 0, 0, 0, 0), (0, 92, 260)), ((33, .ldc 158, 2, 0, 0, 6077, 1048576), (0, 0, 0)), ((35, .irem, 1, 0, 0, 0, 0), (0, 0, 0)), ((36, .istore_n 2, 1, 0, 0, 0, 0), (0, 0, 0)), ((37, .aload_n 0, 1, 0, 0, 0, 0), (0, 0, 0)), ((38, .getfield 23, 3, 10, 14, 5127, 0), (1, 86, 91)), ((41, .iload_n 2, 1, 0, 0, 0, 0), (0, 0, 0)), ((42, .ldc 158, 2, 0, 0, 6077, 1048576), (0, 0, 0)), ((44, .aload_n 0, 1, 0, 0, 0, 0), (0, 0, 0)), ((45, .getfield 23, 3, 10, 14, 5127, 0), (1, 86, 91)), ((48, .iload_n 2, 1, 0, 0, 0, 0), (0, 0, 0)), ((49, .iaload, 1, 0, 0, 0, 0), (0, 91, 260)), ((50, .ldc 158, 2, 0, 0, 6077, 1048576), (0, 0, 0)), ((52, .idiv, 1, 0, 0, 0, 0), (0, 0, 0)), ((53, .imul, 1, 0, 0, 0, 0), (0, 0, 0)), ((54, .aload_n 0, 1, 0, 0, 0, 0), (0, 0, 0)), ((55, .getfield 155, 3, 10, 10, 5123, 0), (0, 86, 0)), ((58, .iadd, 1, 0, 0, 0, 0), (0, 0, 0)), ((59, .iastore, 1, 0, 0, 0, 0), (0, 91, 260)), ((60, .aload_n 0, 1, 0, 0, 0, 0), (0, 0, 0)), ((61, .aload_n 0, 1, 0, 0, 0, 0), (0, 0, 0)), ((62, .getfield 162, 3, 10, 11, 5124, 0), (0, 86, 0)), ((65, .iconst 1, 1, 0, 0, 0, 0), (0, 0, 0)), ((66, .isub, 1, 0, 0, 0, 0), (0, 0, 0)), ((67, .putfield 162, 3, 10, 11, 5124, 0), (0, 86, 0)), ((70, .goto (-70), 3, 0, 0, 0, 0), (0, 0, 0))] (by decide +kernel) rfl ⟨⟨⟨⟨⟨trivial, (by rw [e1]; exact (k1 c1))⟩, (by omega)⟩, (by rw [e1]; exact (k2 c1))⟩, (by omega)⟩, (by rw [e1]; exact (k3 c1))⟩ ?_
    rw [e1]
    exact gx_to_pick [0, 1] (h2 c1)

/-- jumps from 0 on -/
theorem gt188_0 {xs : List Int32} {w0 : sx_W} {d : Nat} {Q : gx_Q} {m : gx_M} {x1 : Int} (r_x1 : 11 ≤ x1 ∧ x1 ≤ 12) (g1 : 0 ≤ (m 86 10) ∧ (m 86 10) ≤ 250) (g2 : 0 ≤ (m 86 11) ∧ (m 86 11) ≤ 250)
    (h1 : gx_to xs w0 d yp_m178 0 [(0, .inr 86), (1, .inl x1), (2, .inl 0)] [] (gx_u (gx_u m 92 (m 86 11).toNat ((1048576 * x1) + (m 86 10))) 86 11 ((m 86 11) + 1)) (fun r m' => gx_to xs w0 (d + 1) yp_m188 34 [(0, .inr 86)] (gx_rs r ++ []) m' Q)) : gx_to xs w0 (d + 1) yp_m188 0 [(0, .inr 86), (1, .inl x1)] [] m Q := by
  have e1 : gx_w (1048576 * x1) = 1048576 * x1 := gx_w_id (by omega) (by omega)
  have e2 : gx_w ((1048576 * x1) + (m 86 10)) = (1048576 * x1) + (m 86 10) := gx_w_id (by omega) (by omega)
  have e3 : gx_w ((m 86 11) + 1) = (m 86 11) + 1 := gx_w_id (by omega) (by omega)
  refine gx_blk (C := (True ∧ (0 ≤ (m 86 11) ∧ (m 86 11) < 260))) (npc := 31) (L' := [(0, .inr 86), (1, .inl x1)]) (st' := [.inl 0, .inl x1, .inr 86]) (m' := (gx_u (gx_u m 92 (m 86 11).toNat (gx_w ((gx_w (1048576 * x1)) + (m 86 10)))) 86 11 (gx_w ((m 86 11) + 1)))) [((0, .aload_n 0, 1, 0, 0, 0, 0), (0, 0, 0)), ((1, .getfield 26, 3, 10, 15, 5128, 0), (1, 86, 92)), ((4, .aload_n 0, 1, 0, 0, 0, 0), (0, 0, 0)), ((5, .getfield 162, 3, 10, 11, 5124, 0), (0, 86, 0)), ((8, .ldc 158, 2, 0, 0, 6077, 1048576), (0, 0, 0)), ((10, .iload_n 1, 1, 0, 0, 0, 0), (0, 0, 0)), ((11, .imul, 1, 0, 0, 0, 0), (0, 0, 0)), ((12, .aload_n 0, 1, 0, 0, 0, 0), (0, 0, 0)), ((13, .getfield 155, 3, 10, 10, 5123, 0), (0, 86, 0)), ((16, .iadd, 1, 0, 0, 0, 0), (0, 0, 0)), ((17, .iastore, 1, 0, 0, 0, 0), (0, 92, 260)), ((18, .aload_n 0, 1, 0, 0, 0, 0), (0, 0, 0)), ((19, .aload_n 0, 1, 0, 0, 0, 0), (0, 0, 0)), ((20, .getfield 162, 3, 10, 11, 5124, 0), (0, 86, 0)), ((23, .iconst 1, 1, 0, 0, 0, 0), (0, 0, 0)), ((24, .iadd, 1, 0, 0, 0, 0), (0, 0, 0)), ((25, .putfield 162, 3, 10, 11, 5124, 0), (0, 86, 0)), ((28, .aload_n 0, 1, 0, 0, 0, 0), (0, 0, 0)), ((29, .iload_n 1, 1, 0, 0, 0, 0), (0, 0, 0)), ((30, .iconst 0, 1, 0, 0, 0, 0), (0, 0, 0))] (by decide +kernel) rfl ⟨trivial, (by omega)⟩ ?_
  rw [e1, e2, e3]
  exact gx_callv (E := (31, .invokevirtual 168, 3, 178, 0, 6086, 0)) (M' := yp_m178) (c := 86) [.inl x1, .inl 0] [] rfl (by decide +kernel) rfl ⟨rfl, rfl⟩ rfl rfl (Nat.le_of_ble_eq_true rfl) (Nat.le_of_ble_eq_true rfl) (by decide +kernel) (gx_to_mono h1 (fun r m' h' => gx_to_pick [0] h'))

/-- jumps from 34 on -/
theorem gt188_34 {xs : List Int32} {w0 : sx_W} {d : Nat} {Q : gx_Q} {m : gx_M} (hI : gx_I m)
    (h1 : Q none (gx_u m 86 5 ((m 86 5) + 1))) : gx_to xs w0 d yp_m188 34 [(0, .inr 86)] [] m Q := by
  have f1 := gx_I_n hI 86 5 0 260 (by decide +kernel)
  have e2 : gx_w ((m 86 5) + 1) = (m 86 5) + 1 := gx_w_id (by omega) (by omega)
  refine gx_blk (C := True) (npc := 44) (L' := [(0, .inr 86)]) (st' := []) (m' := (gx_u m 86 5 (gx_w ((m 86 5) + 1)))) [((34, .aload_n 0, 1, 0, 0, 0, 0), (0, 0, 0)), ((35, .aload_n 0, 1, 0, 0, 0, 0), (0, 0, 0)), ((36, .getfield 132, 3, 10, 5, 5118, 0), (0, 86, 0)), ((39, .iconst 1, 1, 0, 0, 0, 0), (0, 0, 0)), ((40, .iadd, 1, 0, 0, 0, 0), (0, 0, 0)), ((41, .putfield 132, 3, 10, 5, 5118, 0), (0, 86, 0))] (by decide +kernel) rfl trivial ?_
  rw [e2]
  exact gx_ret0 (by decide +kernel) h1

/-- takes from 0 on -/
theorem gt189_0 {xs : List Int32} {w0 : sx_W} {d : Nat} {Q : gx_Q} {m : gx_M} {x1 : Int}
    (h1 : gx_to xs w0 d yp_m170 0 [(0, .inr 86)] [] m (fun r m' => gx_to xs w0 (d + 1) yp_m189 4 [(0, .inr 86), (1, .inl x1)] (gx_rs r ++ []) m' Q)) : gx_to xs w0 (d + 1) yp_m189 0 [(0, .inr 86), (1, .inl x1)] [] m Q := by
  refine gx_blk (C := True) (npc := 1) (L' := [(0, .inr 86), (1, .inl x1)]) (st' := [.inr 86]) (m' := m) [((0, .aload_n 0, 1, 0, 0, 0, 0), (0, 0, 0))] (by decide +kernel) rfl trivial ?_
  exact gx_callv (E := (1, .invokevirtual 138, 3, 170, 0, 6054, 0)) (M' := yp_m170) (c := 86) [] [] rfl (by decide +kernel) rfl ⟨rfl, rfl⟩ rfl rfl (Nat.le_of_ble_eq_true rfl) (Nat.le_of_ble_eq_true rfl) (by decide +kernel) (gx_to_mono h1 (fun r m' h' => gx_to_pick [0, 1] h'))

/-- takes from 4 on -/
theorem gt189_4 {xs : List Int32} {w0 : sx_W} {d : Nat} {Q : gx_Q} {m : gx_M} {x1 s0 : Int} (hI : gx_I m)
    (h1 : (s0 = x1) → Q (some 1) (gx_u m 86 5 ((m 86 5) + 1)))
    (h2 : (s0 ≠ x1) → gx_to xs w0 d yp_m172 0 [(0, .inr 86), (1, .inl 1), (2, .inl (m 86 5))] [] m (fun r m' => gx_to xs w0 (d + 1) yp_m189 17 [] (gx_rs r ++ []) m' Q)) : gx_to xs w0 (d + 1) yp_m189 4 [(0, .inr 86), (1, .inl x1)] [.inl s0] m Q := by
  refine gx_blk (C := True) (npc := 5) (L' := [(0, .inr 86), (1, .inl x1)]) (st' := [.inl x1, .inl s0]) (m' := m) [((4, .iload_n 1, 1, 0, 0, 0, 0), (0, 0, 0))] (by decide +kernel) rfl trivial ?_
  refine gx_cmp .eq 18 (by decide +kernel) (fun c1 => ?_) (fun c1 => ?_)
  · have c1 : s0 = x1 := c1
    have f1 := gx_I_n hI 86 5 0 260 (by decide +kernel)
    have e2 : gx_w ((m 86 5) + 1) = (m 86 5) + 1 := gx_w_id (by omega) (by omega)
    refine gx_blk (C := True) (npc := 29) (L' := [(0, .inr 86), (1, .inl x1)]) (st' := [.inl 1]) (m' := (gx_u m 86 5 (gx_w ((m 86 5) + 1)))) [((18, .aload_n 0, 1, 0, 0, 0, 0), (0, 0, 0)), ((19, .aload_n 0, 1, 0, 0, 0, 0), (0, 0, 0)), ((20, .getfield 132, 3, 10, 5, 5118, 0), (0, 86, 0)), ((23, .iconst 1, 1, 0, 0, 0, 0), (0, 0, 0)), ((24, .iadd, 1, 0, 0, 0, 0), (0, 0, 0)), ((25, .putfield 132, 3, 10, 5, 5118, 0), (0, 86, 0)), ((28, .iconst 1, 1, 0, 0, 0, 0), (0, 0, 0))] (by decide +kernel) rfl trivial ?_
    rw [e2]
    exact gx_retb (by decide +kernel) (by omega) (h1 c1)
  · have c1 : s0 ≠ x1 := c1
    have f3 := gx_I_n hI 86 5 0 260 (by decide +kernel)
    refine gx_blk (C := True) (npc := 14) (L' := [(0, .inr 86), (1, .inl x1)]) (st' := [.inl (m 86 5), .inl 1, .inr 86]) (m' := m) [((8, .aload_n 0, 1, 0, 0, 0, 0), (0, 0, 0)), ((9, .iconst 1, 1, 0, 0, 0, 0), (0, 0, 0)), ((10, .aload_n 0, 1, 0, 0, 0, 0), (0, 0, 0)), ((11, .getfield 132, 3, 10, 5, 5118, 0), (0, 86, 0))] (by decide +kernel) rfl trivial ?_
    exact gx_callv (E := (14, .invokevirtual 145, 3, 172, 0, 6061, 0)) (M' := yp_m172) (c := 86) [.inl 1, .inl (m 86 5)] [] rfl (by decide +kernel) rfl ⟨rfl, rfl⟩ rfl rfl (Nat.le_of_ble_eq_true rfl) (Nat.le_of_ble_eq_true rfl) (by decide +kernel) (gx_to_mono (h2 c1) (fun r m' h' => gx_to_pick [] h'))

/-- takes from 17 on -/
theorem gt189_17 {xs : List Int32} {w0 : sx_W} {d : Nat} {Q : gx_Q} {m : gx_M} {s0 : Int}
    (k1 : s0 = 0 ∨ s0 = 1)
    (h1 : Q (some s0) m) : gx_to xs w0 d yp_m189 17 [] [.inl s0] m Q := by
  exact gx_retb (by decide +kernel) (k1) h1
end
section
/-! roads of methods read by hand, from cut points to the next ones (printed by wip/gen/gxall.py) -/
/-- readsFactor from 0 on -/
theorem gt174_0 {xs : List Int32} {w0 : sx_W} {d : Nat} {Q : gx_Q} {m : gx_M}
    (h1 : gx_to xs w0 d yp_m170 0 [(0, .inr 86)] [] m (fun r m' => gx_to xs w0 (d + 1) yp_m174 4 [(0, .inr 86)] (gx_rs r ++ []) m' Q)) : gx_to xs w0 (d + 1) yp_m174 0 [(0, .inr 86)] [] m Q := by
  refine gx_blk (C := True) (npc := 1) (L' := [(0, .inr 86)]) (st' := [.inr 86]) (m' := m) [((0, .aload_n 0, 1, 0, 0, 0, 0), (0, 0, 0))] (by decide +kernel) rfl trivial ?_
  exact gx_callv (E := (1, .invokevirtual 138, 3, 170, 0, 6054, 0)) (M' := yp_m170) (c := 86) [] [] rfl (by decide +kernel) rfl ⟨rfl, rfl⟩ rfl rfl (Nat.le_of_ble_eq_true rfl) (Nat.le_of_ble_eq_true rfl) (by decide +kernel) (gx_to_mono h1 (fun r m' h' => gx_to_pick [0] h'))

/-- readsFactor from 4 on -/
theorem gt174_4 {xs : List Int32} {w0 : sx_W} {d : Nat} {Q : gx_Q} {m : gx_M} {s0 : Int}
    (h1 : (s0 ≠ 91) → gx_to xs w0 d yp_m176 0 [(0, .inr 86)] [] m (fun r m' => gx_to xs w0 (d + 1) yp_m174 24 [(0, .inr 86)] (gx_rs r ++ []) m' Q))
    (h2 : (s0 = 91) → gx_to xs w0 d yp_m175 0 [(0, .inr 86), (1, .inl 14)] [] m (fun r m' => gx_to xs w0 (d + 1) yp_m174 15 [(0, .inr 86)] (gx_rs r ++ []) m' Q)) : gx_to xs w0 (d + 1) yp_m174 4 [(0, .inr 86)] [.inl s0] m Q := by
  refine gx_blk (C := True) (npc := 6) (L' := [(0, .inr 86)]) (st' := [.inl 91, .inl s0]) (m' := m) [((4, .bipush 91, 2, 0, 0, 0, 0), (0, 0, 0))] (by decide +kernel) rfl trivial ?_
  refine gx_cmp .ne 20 (by decide +kernel) (fun c1 => ?_) (fun c1 => ?_)
  · have c1 : s0 ≠ 91 := c1
    refine gx_blk (C := True) (npc := 21) (L' := [(0, .inr 86)]) (st' := [.inr 86]) (m' := m) [((20, .aload_n 0, 1, 0, 0, 0, 0), (0, 0, 0))] (by decide +kernel) rfl trivial ?_
    exact gx_callv (E := (21, .invokevirtual 151, 3, 176, 0, 6078, 0)) (M' := yp_m176) (c := 86) [] [] rfl (by decide +kernel) rfl ⟨rfl, rfl⟩ rfl rfl (Nat.le_of_ble_eq_true rfl) (Nat.le_of_ble_eq_true rfl) (by decide +kernel) (gx_to_mono (h1 c1) (fun r m' h' => gx_to_pick [0] h'))
  · have c1 : s0 = 91 := by have h : ¬ (s0 ≠ 91) := c1; omega
    refine gx_blk (C := True) (npc := 12) (L' := [(0, .inr 86)]) (st' := [.inl 14, .inr 86]) (m' := m) [((9, .aload_n 0, 1, 0, 0, 0, 0), (0, 0, 0)), ((10, .bipush 14, 2, 0, 0, 0, 0), (0, 0, 0))] (by decide +kernel) rfl trivial ?_
    exact gx_callv (E := (12, .invokevirtual 172, 3, 175, 0, 6073, 0)) (M' := yp_m175) (c := 86) [.inl 14] [] rfl (by decide +kernel) rfl ⟨rfl, rfl⟩ rfl rfl (Nat.le_of_ble_eq_true rfl) (Nat.le_of_ble_eq_true rfl) (by decide +kernel) (gx_to_mono (h2 c1) (fun r m' h' => gx_to_pick [0] h'))

/-- readsFactor from 15 on -/
theorem gt174_15 {xs : List Int32} {w0 : sx_W} {d : Nat} {Q : gx_Q} {m : gx_M} {s0 : Int}
    (h1 : (s0 ≠ 0) → gx_to xs w0 d yp_m174 0 [(0, .inr 86)] [] m Q)
    (h2 : (s0 = 0) → Q (some 0) m) : gx_to xs w0 d yp_m174 15 [(0, .inr 86)] [.inl s0] m Q := by
  refine gx_if .ne 0 (by decide +kernel) (fun c1 => ?_) (fun c1 => ?_)
  · have c1 : s0 ≠ 0 := c1
    exact gx_to_pick [0] (h1 c1)
  · have c1 : s0 = 0 := by have h : ¬ (s0 ≠ 0) := c1; omega
    refine gx_blk (C := True) (npc := 19) (L' := [(0, .inr 86)]) (st' := [.inl 0]) (m' := m) [((18, .iconst 0, 1, 0, 0, 0, 0), (0, 0, 0))] (by decide +kernel) rfl trivial ?_
    exact gx_retb (by decide +kernel) (by omega) (h2 c1)

/-- readsFactor from 24 on -/
theorem gt174_24 {xs : List Int32} {w0 : sx_W} {d : Nat} {Q : gx_Q} {m : gx_M} {s0 : Int}
    (h1 : (s0 = 0) → gx_to xs w0 d yp_m170 0 [(0, .inr 86)] [] m (fun r m' => gx_to xs w0 (d + 1) yp_m174 51 [(0, .inr 86)] (gx_rs r ++ []) m' Q))
    (h2 : (s0 ≠ 0) → gx_to xs w0 d yp_m177 0 [(0, .inr 86)] [] m (fun r m' => gx_to xs w0 (d + 1) yp_m174 31 [(0, .inr 86)] (gx_rs r ++ []) m' Q)) : gx_to xs w0 (d + 1) yp_m174 24 [(0, .inr 86)] [.inl s0] m Q := by
  refine gx_if .eq 47 (by decide +kernel) (fun c1 => ?_) (fun c1 => ?_)
  · have c1 : s0 = 0 := c1
    refine gx_blk (C := True) (npc := 48) (L' := [(0, .inr 86)]) (st' := [.inr 86]) (m' := m) [((47, .aload_n 0, 1, 0, 0, 0, 0), (0, 0, 0))] (by decide +kernel) rfl trivial ?_
    exact gx_callv (E := (48, .invokevirtual 138, 3, 170, 0, 6054, 0)) (M' := yp_m170) (c := 86) [] [] rfl (by decide +kernel) rfl ⟨rfl, rfl⟩ rfl rfl (Nat.le_of_ble_eq_true rfl) (Nat.le_of_ble_eq_true rfl) (by decide +kernel) (gx_to_mono (h1 c1) (fun r m' h' => gx_to_pick [0] h'))
  · have c1 : s0 ≠ 0 := c1
    refine gx_blk (C := True) (npc := 28) (L' := [(0, .inr 86)]) (st' := [.inr 86]) (m' := m) [((27, .aload_n 0, 1, 0, 0, 0, 0), (0, 0, 0))] (by decide +kernel) rfl trivial ?_
    exact gx_callv (E := (28, .invokevirtual 175, 3, 177, 0, 6082, 0)) (M' := yp_m177) (c := 86) [] [] rfl (by decide +kernel) rfl ⟨rfl, rfl⟩ rfl rfl (Nat.le_of_ble_eq_true rfl) (Nat.le_of_ble_eq_true rfl) (by decide +kernel) (gx_to_mono (h2 c1) (fun r m' h' => gx_to_pick [0] h'))

/-- readsFactor from 31 on -/
theorem gt174_31 {xs : List Int32} {w0 : sx_W} {d : Nat} {Q : gx_Q} {m : gx_M} {s0 : Int}
    (h1 : (s0 ≠ 0) → gx_to xs w0 d yp_m178 0 [(0, .inr 86), (1, .inl 0), (2, .inl (m 86 8))] [] m (fun r m' => gx_to xs w0 (d + 1) yp_m174 45 [] (gx_rs r ++ []) m' Q))
    (h2 : (s0 = 0) → Q (some 0) m) : gx_to xs w0 (d + 1) yp_m174 31 [(0, .inr 86)] [.inl s0] m Q := by
  refine gx_if .ne 36 (by decide +kernel) (fun c1 => ?_) (fun c1 => ?_)
  · have c1 : s0 ≠ 0 := c1
    refine gx_blk (C := True) (npc := 42) (L' := [(0, .inr 86)]) (st' := [.inl (m 86 8), .inl 0, .inr 86]) (m' := m) [((36, .aload_n 0, 1, 0, 0, 0, 0), (0, 0, 0)), ((37, .iconst 0, 1, 0, 0, 0, 0), (0, 0, 0)), ((38, .aload_n 0, 1, 0, 0, 0, 0), (0, 0, 0)), ((39, .getfield 148, 3, 10, 8, 5121, 0), (0, 86, 0))] (by decide +kernel) rfl trivial ?_
    exact gx_callv (E := (42, .invokevirtual 168, 3, 178, 0, 6086, 0)) (M' := yp_m178) (c := 86) [.inl 0, .inl (m 86 8)] [] rfl (by decide +kernel) rfl ⟨rfl, rfl⟩ rfl rfl (Nat.le_of_ble_eq_true rfl) (Nat.le_of_ble_eq_true rfl) (by decide +kernel) (gx_to_mono (h1 c1) (fun r m' h' => gx_to_pick [] h'))
  · have c1 : s0 = 0 := by have h : ¬ (s0 ≠ 0) := c1; omega
    refine gx_blk (C := True) (npc := 35) (L' := [(0, .inr 86)]) (st' := [.inl 0]) (m' := m) [((34, .iconst 0, 1, 0, 0, 0, 0), (0, 0, 0))] (by decide +kernel) rfl trivial ?_
    exact gx_retb (by decide +kernel) (by omega) (h2 c1)

/-- readsFactor from 45 on -/
theorem gt174_45 {xs : List Int32} {w0 : sx_W} {d : Nat} {Q : gx_Q} {m : gx_M}
    (h1 : Q (some 1) m) : gx_to xs w0 d yp_m174 45 [] [] m Q := by
  refine gx_blk (C := True) (npc := 46) (L' := []) (st' := [.inl 1]) (m' := m) [((45, .iconst 1, 1, 0, 0, 0, 0), (0, 0, 0))] (by decide +kernel) rfl trivial ?_
  exact gx_retb (by decide +kernel) (by omega) h1

/-- readsFactor from 51 on -/
theorem gt174_51 {xs : List Int32} {w0 : sx_W} {d : Nat} {Q : gx_Q} {m : gx_M} {s0 : Int}
    (h1 : gx_to xs w0 d yp_m179 0 [(0, .inl s0)] [] m (fun r m' => gx_to xs w0 (d + 1) yp_m174 54 [(0, .inr 86)] (gx_rs r ++ []) m' Q)) : gx_to xs w0 (d + 1) yp_m174 51 [(0, .inr 86)] [.inl s0] m Q := by
  exact gx_calls (E := (51, .invokestatic 178, 3, 179, 0, 6090, 0)) (M' := yp_m179) [.inl s0] [] rfl (by decide +kernel) rfl ⟨rfl, rfl⟩ rfl rfl (Nat.le_of_ble_eq_true rfl) (Nat.le_of_ble_eq_true rfl) rfl (gx_to_mono h1 (fun r m' h' => gx_to_pick [0] h'))

/-- readsFactor from 54 on -/
theorem gt174_54 {xs : List Int32} {w0 : sx_W} {d : Nat} {Q : gx_Q} {m : gx_M} {s0 : Int} (hI : gx_I m)
    (h1 : (s0 ≠ (-1)) → gx_to xs w0 d yp_m178 0 [(0, .inr 86), (1, .inl 1), (2, .inl s0)] [] m (fun r m' => gx_to xs w0 (d + 1) yp_m174 76 [(0, .inr 86)] (gx_rs r ++ []) m' Q))
    (h2 : (s0 = (-1)) → gx_to xs w0 d yp_m172 0 [(0, .inr 86), (1, .inl 1), (2, .inl (m 86 5))] [] m (fun r m' => gx_to xs w0 (d + 1) yp_m174 69 [] (gx_rs r ++ []) m' Q)) : gx_to xs w0 (d + 1) yp_m174 54 [(0, .inr 86)] [.inl s0] m Q := by
  refine gx_blk (C := True) (npc := 57) (L' := [(0, .inr 86), (1, .inl s0)]) (st' := [.inl (-1), .inl s0]) (m' := m) [((54, .istore_n 1, 1, 0, 0, 0, 0), (0, 0, 0)), ((55, .iload_n 1, 1, 0, 0, 0, 0), (0, 0, 0)), ((56, .iconst (-1), 1, 0, 0, 0, 0), (0, 0, 0))] (by decide +kernel) rfl trivial ?_
  refine gx_cmp .ne 70 (by decide +kernel) (fun c1 => ?_) (fun c1 => ?_)
  · have c1 : s0 ≠ (-1) := c1
    refine gx_blk (C := True) (npc := 73) (L' := [(0, .inr 86), (1, .inl s0)]) (st' := [.inl s0, .inl 1, .inr 86]) (m' := m) [((70, .aload_n 0, 1, 0, 0, 0, 0), (0, 0, 0)), ((71, .iconst 1, 1, 0, 0, 0, 0), (0, 0, 0)), ((72, .iload_n 1, 1, 0, 0, 0, 0), (0, 0, 0))] (by decide +kernel) rfl trivial ?_
    exact gx_callv (E := (73, .invokevirtual 168, 3, 178, 0, 6086, 0)) (M' := yp_m178) (c := 86) [.inl 1, .inl s0] [] rfl (by decide +kernel) rfl ⟨rfl, rfl⟩ rfl rfl (Nat.le_of_ble_eq_true rfl) (Nat.le_of_ble_eq_true rfl) (by decide +kernel) (gx_to_mono (h1 c1) (fun r m' h' => gx_to_pick [0] h'))
  · have c1 : s0 = (-1) := by have h : ¬ (s0 ≠ (-1)) := c1; omega
    have f1 := gx_I_n hI 86 5 0 260 (by decide +kernel)
    refine gx_blk (C := True) (npc := 66) (L' := [(0, .inr 86), (1, .inl s0)]) (st' := [.inl (m 86 5), .inl 1, .inr 86]) (m' := m) [((60, .aload_n 0, 1, 0, 0, 0, 0), (0, 0, 0)), ((61, .iconst 1, 1, 0, 0, 0, 0), (0, 0, 0)), ((62, .aload_n 0, 1, 0, 0, 0, 0), (0, 0, 0)), ((63, .getfield 132, 3, 10, 5, 5118, 0), (0, 86, 0))] (by decide +kernel) rfl trivial ?_
    exact gx_callv (E := (66, .invokevirtual 145, 3, 172, 0, 6061, 0)) (M' := yp_m172) (c := 86) [.inl 1, .inl (m 86 5)] [] rfl (by decide +kernel) rfl ⟨rfl, rfl⟩ rfl rfl (Nat.le_of_ble_eq_true rfl) (Nat.le_of_ble_eq_true rfl) (by decide +kernel) (gx_to_mono (h2 c1) (fun r m' h' => gx_to_pick [] h'))

/-- readsFactor from 69 on -/
theorem gt174_69 {xs : List Int32} {w0 : sx_W} {d : Nat} {Q : gx_Q} {m : gx_M} {s0 : Int}
    (k1 : s0 = 0 ∨ s0 = 1)
    (h1 : Q (some s0) m) : gx_to xs w0 d yp_m174 69 [] [.inl s0] m Q := by
  exact gx_retb (by decide +kernel) (k1) h1

/-- readsFactor from 76 on -/
theorem gt174_76 {xs : List Int32} {w0 : sx_W} {d : Nat} {Q : gx_Q} {m : gx_M} (hI : gx_I m)
    (h1 : Q (some 1) (gx_u m 86 5 ((m 86 5) + 1))) : gx_to xs w0 d yp_m174 76 [(0, .inr 86)] [] m Q := by
  have f1 := gx_I_n hI 86 5 0 260 (by decide +kernel)
  have e2 : gx_w ((m 86 5) + 1) = (m 86 5) + 1 := gx_w_id (by omega) (by omega)
  refine gx_blk (C := True) (npc := 87) (L' := [(0, .inr 86)]) (st' := [.inl 1]) (m' := (gx_u m 86 5 (gx_w ((m 86 5) + 1)))) [((76, .aload_n 0, 1, 0, 0, 0, 0), (0, 0, 0)), ((77, .aload_n 0, 1, 0, 0, 0, 0), (0, 0, 0)), ((78, .getfield 132, 3, 10, 5, 5118, 0), (0, 86, 0)), ((81, .iconst 1, 1, 0, 0, 0, 0), (0, 0, 0)), ((82, .iadd, 1, 0, 0, 0, 0), (0, 0, 0)), ((83, .putfield 132, 3, 10, 5, 5118, 0), (0, 86, 0)), ((86, .iconst 1, 1, 0, 0, 0, 0), (0, 0, 0))] (by decide +kernel) rfl trivial ?_
  rw [e2]
  exact gx_retb (by decide +kernel) (by omega) h1

/-- readsSum from 0 on -/
theorem gt173_0 {xs : List Int32} {w0 : sx_W} {d : Nat} {Q : gx_Q} {m : gx_M}
    (h1 : gx_to xs w0 d yp_m174 0 [(0, .inr 86)] [] m (fun r m' => gx_to xs w0 (d + 1) yp_m173 9 [(0, .inr 86), (1, .inl (m 86 11))] (gx_rs r ++ []) m' Q)) : gx_to xs w0 (d + 1) yp_m173 0 [(0, .inr 86)] [] m Q := by
  refine gx_blk (C := True) (npc := 6) (L' := [(0, .inr 86), (1, .inl (m 86 11))]) (st' := [.inr 86]) (m' := m) [((0, .aload_n 0, 1, 0, 0, 0, 0), (0, 0, 0)), ((1, .getfield 162, 3, 10, 11, 5124, 0), (0, 86, 0)), ((4, .istore_n 1, 1, 0, 0, 0, 0), (0, 0, 0)), ((5, .aload_n 0, 1, 0, 0, 0, 0), (0, 0, 0))] (by decide +kernel) rfl trivial ?_
  exact gx_callv (E := (6, .invokevirtual 182, 3, 174, 0, 6069, 0)) (M' := yp_m174) (c := 86) [] [] rfl (by decide +kernel) rfl ⟨rfl, rfl⟩ rfl rfl (Nat.le_of_ble_eq_true rfl) (Nat.le_of_ble_eq_true rfl) (by decide +kernel) (gx_to_mono h1 (fun r m' h' => gx_to_pick [0, 1] h'))

/-- readsSum from 9 on -/
theorem gt173_9 {xs : List Int32} {w0 : sx_W} {d : Nat} {Q : gx_Q} {m : gx_M} {x1 s0 : Int}
    (h1 : (s0 ≠ 0) → gx_to xs w0 d yp_m173 14 [(0, .inr 86), (1, .inl x1)] [] m Q)
    (h2 : (s0 = 0) → Q (some 0) m) : gx_to xs w0 d yp_m173 9 [(0, .inr 86), (1, .inl x1)] [.inl s0] m Q := by
  refine gx_if .ne 14 (by decide +kernel) (fun c1 => ?_) (fun c1 => ?_)
  · have c1 : s0 ≠ 0 := c1
    exact gx_to_pick [0, 1] (h1 c1)
  · have c1 : s0 = 0 := by have h : ¬ (s0 ≠ 0) := c1; omega
    refine gx_blk (C := True) (npc := 13) (L' := [(0, .inr 86), (1, .inl x1)]) (st' := [.inl 0]) (m' := m) [((12, .iconst 0, 1, 0, 0, 0, 0), (0, 0, 0))] (by decide +kernel) rfl trivial ?_
    exact gx_retb (by decide +kernel) (by omega) (h2 c1)

/-- readsSum from 14 on -/
theorem gt173_14 {xs : List Int32} {w0 : sx_W} {d : Nat} {Q : gx_Q} {m : gx_M} {x1 : Int}
    (h1 : gx_to xs w0 d yp_m170 0 [(0, .inr 86)] [] m (fun r m' => gx_to xs w0 (d + 1) yp_m173 18 [(0, .inr 86), (1, .inl x1)] (gx_rs r ++ []) m' Q)) : gx_to xs w0 (d + 1) yp_m173 14 [(0, .inr 86), (1, .inl x1)] [] m Q := by
  refine gx_blk (C := True) (npc := 15) (L' := [(0, .inr 86), (1, .inl x1)]) (st' := [.inr 86]) (m' := m) [((14, .aload_n 0, 1, 0, 0, 0, 0), (0, 0, 0))] (by decide +kernel) rfl trivial ?_
  exact gx_callv (E := (15, .invokevirtual 138, 3, 170, 0, 6054, 0)) (M' := yp_m170) (c := 86) [] [] rfl (by decide +kernel) rfl ⟨rfl, rfl⟩ rfl rfl (Nat.le_of_ble_eq_true rfl) (Nat.le_of_ble_eq_true rfl) (by decide +kernel) (gx_to_mono h1 (fun r m' h' => gx_to_pick [0, 1] h'))

/-- readsSum from 18 on -/
theorem gt173_18 {xs : List Int32} {w0 : sx_W} {d : Nat} {Q : gx_Q} {m : gx_M} {x1 s0 : Int}
    (h1 : gx_to xs w0 d yp_m180 0 [(0, .inl s0)] [] m (fun r m' => gx_to xs w0 (d + 1) yp_m173 21 [(0, .inr 86), (1, .inl x1)] (gx_rs r ++ []) m' Q)) : gx_to xs w0 (d + 1) yp_m173 18 [(0, .inr 86), (1, .inl x1)] [.inl s0] m Q := by
  exact gx_calls (E := (18, .invokestatic 185, 3, 180, 0, 6093, 0)) (M' := yp_m180) [.inl s0] [] rfl (by decide +kernel) rfl ⟨rfl, rfl⟩ rfl rfl (Nat.le_of_ble_eq_true rfl) (Nat.le_of_ble_eq_true rfl) rfl (gx_to_mono h1 (fun r m' h' => gx_to_pick [0, 1] h'))

/-- readsSum from 21 on -/
theorem gt173_21 {xs : List Int32} {w0 : sx_W} {d : Nat} {Q : gx_Q} {m : gx_M} {x1 s0 : Int}
    (h1 : (s0 = (-1)) → gx_to xs w0 d yp_m170 0 [(0, .inr 86)] [] m (fun r m' => gx_to xs w0 (d + 1) yp_m173 87 [(0, .inr 86), (1, .inl x1)] (gx_rs r ++ []) m' Q))
    (h2 : (s0 ≠ (-1)) → (4 ≤ s0) → gx_to xs w0 d yp_m181 0 [(0, .inr 86), (1, .inl 0)] [] m (fun r m' => gx_to xs w0 (d + 1) yp_m173 41 [(0, .inr 86), (1, .inl x1), (2, .inl s0)] (gx_rs r ++ []) m' Q))
    (h3 : (s0 ≠ (-1)) → (s0 < 4) → gx_to xs w0 d yp_m181 0 [(0, .inr 86), (1, .inl 1)] [] m (fun r m' => gx_to xs w0 (d + 1) yp_m173 41 [(0, .inr 86), (1, .inl x1), (2, .inl s0)] (gx_rs r ++ []) m' Q)) : gx_to xs w0 (d + 1) yp_m173 21 [(0, .inr 86), (1, .inl x1)] [.inl s0] m Q := by
  refine gx_blk (C := True) (npc := 24) (L' := [(0, .inr 86), (1, .inl x1), (2, .inl s0)]) (st' := [.inl (-1), .inl s0]) (m' := m) [((21, .istore_n 2, 1, 0, 0, 0, 0), (0, 0, 0)), ((22, .iload_n 2, 1, 0, 0, 0, 0), (0, 0, 0)), ((23, .iconst (-1), 1, 0, 0, 0, 0), (0, 0, 0))] (by decide +kernel) rfl trivial ?_
  refine gx_cmp .eq 83 (by decide +kernel) (fun c1 => ?_) (fun c1 => ?_)
  · have c1 : s0 = (-1) := c1
    refine gx_blk (C := True) (npc := 84) (L' := [(0, .inr 86), (1, .inl x1), (2, .inl s0)]) (st' := [.inr 86]) (m' := m) [((83, .aload_n 0, 1, 0, 0, 0, 0), (0, 0, 0))] (by decide +kernel) rfl trivial ?_
    exact gx_callv (E := (84, .invokevirtual 138, 3, 170, 0, 6054, 0)) (M' := yp_m170) (c := 86) [] [] rfl (by decide +kernel) rfl ⟨rfl, rfl⟩ rfl rfl (Nat.le_of_ble_eq_true rfl) (Nat.le_of_ble_eq_true rfl) (by decide +kernel) (gx_to_mono (h1 c1) (fun r m' h' => gx_to_pick [0, 1] h'))
  · have c1 : s0 ≠ (-1) := c1
    refine gx_blk (C := True) (npc := 30) (L' := [(0, .inr 86), (1, .inl x1), (2, .inl s0)]) (st' := [.inl 4, .inl s0, .inr 86]) (m' := m) [((27, .aload_n 0, 1, 0, 0, 0, 0), (0, 0, 0)), ((28, .iload_n 2, 1, 0, 0, 0, 0), (0, 0, 0)), ((29, .iconst 4, 1, 0, 0, 0, 0), (0, 0, 0))] (by decide +kernel) rfl trivial ?_
    refine gx_cmp .ge 37 (by decide +kernel) (fun c2 => ?_) (fun c2 => ?_)
    · have c2 : 4 ≤ s0 := c2
      refine gx_blk (C := True) (npc := 38) (L' := [(0, .inr 86), (1, .inl x1), (2, .inl s0)]) (st' := [.inl 0, .inr 86]) (m' := m) [((37, .iconst 0, 1, 0, 0, 0, 0), (0, 0, 0))] (by decide +kernel) rfl trivial ?_
      exact gx_callv (E := (38, .invokevirtual 188, 3, 181, 0, 6096, 0)) (M' := yp_m181) (c := 86) [.inl 0] [] rfl (by decide +kernel) rfl ⟨rfl, rfl⟩ rfl rfl (Nat.le_of_ble_eq_true rfl) (Nat.le_of_ble_eq_true rfl) (by decide +kernel) (gx_to_mono (h2 c1 c2) (fun r m' h' => gx_to_pick [0, 1, 2] h'))
    · have c2 : s0 < 4 := by have h : ¬ (4 ≤ s0) := c2; omega
      refine gx_blk (C := True) (npc := 38) (L' := [(0, .inr 86), (1, .inl x1), (2, .inl s0)]) (st' := [.inl 1, .inr 86]) (m' := m) [((33, .iconst 1, 1, 0, 0, 0, 0), (0, 0, 0)), ((34, .goto 4, 3, 0, 0, 0, 0), (0, 0, 0))] (by decide +kernel) rfl trivial ?_
      exact gx_callv (E := (38, .invokevirtual 188, 3, 181, 0, 6096, 0)) (M' := yp_m181) (c := 86) [.inl 1] [] rfl (by decide +kernel) rfl ⟨rfl, rfl⟩ rfl rfl (Nat.le_of_ble_eq_true rfl) (Nat.le_of_ble_eq_true rfl) (by decide +kernel) (gx_to_mono (h3 c1 c2) (fun r m' h' => gx_to_pick [0, 1, 2] h'))

/-- readsSum from 41 on -/
theorem gt173_41 {xs : List Int32} {w0 : sx_W} {d : Nat} {Q : gx_Q} {m : gx_M} {x1 x2 : Int} (hI : gx_I m) (r_x2 : 2 ≤ x2 ∧ x2 ≤ 6) (g1 : 0 ≤ (m 86 11) ∧ (m 86 11) ≤ 250)
    (h1 : gx_to xs w0 d yp_m174 0 [(0, .inr 86)] [] (gx_u (gx_u (gx_u m 92 (m 86 11).toNat (1048576 * x2)) 86 11 ((m 86 11) + 1)) 86 5 ((m 86 5) + 1)) (fun r m' => gx_to xs w0 (d + 1) yp_m173 78 [(0, .inr 86), (1, .inl x1)] (gx_rs r ++ []) m' Q)) : gx_to xs w0 (d + 1) yp_m173 41 [(0, .inr 86), (1, .inl x1), (2, .inl x2)] [] m Q := by
  have e1 : gx_w (1048576 * x2) = 1048576 * x2 := gx_w_id (by omega) (by omega)
  have e2 : gx_w ((m 86 11) + 1) = (m 86 11) + 1 := gx_w_id (by omega) (by omega)
  have f3 := gx_I_n hI 86 5 0 260 (by decide +kernel)
  have e4 : gx_w ((m 86 5) + 1) = (m 86 5) + 1 := gx_w_id (by omega) (by omega)
  refine gx_blk (C := (True ∧ (0 ≤ (m 86 11) ∧ (m 86 11) < 260))) (npc := 75) (L' := [(0, .inr 86), (1, .inl x1), (2, .inl x2)]) (st' := [.inr 86]) (m' := (gx_u (gx_u (gx_u m 92 (m 86 11).toNat (gx_w (1048576 * x2))) 86 11 (gx_w ((m 86 11) + 1))) 86 5 (gx_w ((m 86 5) + 1)))) [((41, .aload_n 0, 1, 0, 0, 0, 0), (0, 0, 0)), ((42, .getfield 26, 3, 10, 15, 5128, 0), (1, 86, 92)), ((45, .aload_n 0, 1, 0, 0, 0, 0), (0, 0, 0)), ((46, .getfield 162, 3, 10, 11, 5124, 0), (0, 86, 0)), ((49, .ldc 158, 2, 0, 0, 6077, 1048576), (0, 0, 0)), ((51, .iload_n 2, 1, 0, 0, 0, 0), (0, 0, 0)), ((52, .imul, 1, 0, 0, 0, 0), (0, 0, 0)), ((53, .iastore, 1, 0, 0, 0, 0), (0, 92, 260)), ((54, .aload_n 0, 1, 0, 0, 0, 0), (0, 0, 0)), ((55, .aload_n 0, 1, 0, 0, 0, 0), (0, 0, 0)), ((56, .getfield 162, 3, 10, 11, 5124, 0), (0, 86, 0)), ((59, .iconst 1, 1, 0, 0, 0, 0), (0, 0, 0)), ((60, .iadd, 1, 0, 0, 0, 0), (0, 0, 0)), ((61, .putfield 162, 3, 10, 11, 5124, 0), (0, 86, 0)), ((64, .aload_n 0, 1, 0, 0, 0, 0), (0, 0, 0)), ((65, .aload_n 0, 1, 0, 0, 0, 0), (0, 0, 0)), ((66, .getfield 132, 3, 10, 5, 5118, 0), (0, 86, 0)), ((69, .iconst 1, 1, 0, 0, 0, 0), (0, 0, 0)), ((70, .iadd, 1, 0, 0, 0, 0), (0, 0, 0)), ((71, .putfield 132, 3, 10, 5, 5118, 0), (0, 86, 0)), ((74, .aload_n 0, 1, 0, 0, 0, 0), (0, 0, 0))] (by decide +kernel) rfl ⟨trivial, (by omega)⟩ ?_
  rw [e1, e2, e4]
  exact gx_callv (E := (75, .invokevirtual 182, 3, 174, 0, 6069, 0)) (M' := yp_m174) (c := 86) [] [] rfl (by decide +kernel) rfl ⟨rfl, rfl⟩ rfl rfl (Nat.le_of_ble_eq_true rfl) (Nat.le_of_ble_eq_true rfl) (by decide +kernel) (gx_to_mono h1 (fun r m' h' => gx_to_pick [0, 1] h'))

/-- readsSum from 78 on -/
theorem gt173_78 {xs : List Int32} {w0 : sx_W} {d : Nat} {Q : gx_Q} {m : gx_M} {x1 s0 : Int}
    (h1 : (s0 ≠ 0) → gx_to xs w0 d yp_m173 14 [(0, .inr 86), (1, .inl x1)] [] m Q)
    (h2 : (s0 = 0) → Q (some 0) m) : gx_to xs w0 d yp_m173 78 [(0, .inr 86), (1, .inl x1)] [.inl s0] m Q := by
  refine gx_if .ne 163 (by decide +kernel) (fun c1 => ?_) (fun c1 => ?_)
  · have c1 : s0 ≠ 0 := c1
    refine gx_blk (C := True) (npc := 14) (L' := [(0, .inr 86), (1, .inl x1)]) (st' := []) (m' := m) [((163, .goto (-149), 3, 0, 0, 0, 0), (0, 0, 0))] (by decide +kernel) rfl trivial ?_
    exact gx_to_pick [0, 1] (h1 c1)
  · have c1 : s0 = 0 := by have h : ¬ (s0 ≠ 0) := c1; omega
    refine gx_blk (C := True) (npc := 82) (L' := [(0, .inr 86), (1, .inl x1)]) (st' := [.inl 0]) (m' := m) [((81, .iconst 0, 1, 0, 0, 0, 0), (0, 0, 0))] (by decide +kernel) rfl trivial ?_
    exact gx_retb (by decide +kernel) (by omega) (h2 c1)

/-- readsSum from 87 on -/
theorem gt173_87 {xs : List Int32} {w0 : sx_W} {d : Nat} {Q : gx_Q} {m : gx_M} {x1 s0 : Int}
    (h1 : (s0 ≠ 93) → gx_to xs w0 d yp_m183 0 [(0, .inr 86), (1, .inl x1)] [] m (fun r m' => gx_to xs w0 (d + 1) yp_m173 143 [(0, .inr 86)] (gx_rs r ++ []) m' Q))
    (h2 : (s0 = 93) → gx_to xs w0 d yp_m183 0 [(0, .inr 86), (1, .inl x1)] [] m (fun r m' => gx_to xs w0 (d + 1) yp_m173 97 [(0, .inr 86), (1, .inl x1)] (gx_rs r ++ []) m' Q)) : gx_to xs w0 (d + 1) yp_m173 87 [(0, .inr 86), (1, .inl x1)] [.inl s0] m Q := by
  refine gx_blk (C := True) (npc := 89) (L' := [(0, .inr 86), (1, .inl x1)]) (st' := [.inl 93, .inl s0]) (m' := m) [((87, .bipush 93, 2, 0, 0, 0, 0), (0, 0, 0))] (by decide +kernel) rfl trivial ?_
  refine gx_cmp .ne 138 (by decide +kernel) (fun c1 => ?_) (fun c1 => ?_)
  · have c1 : s0 ≠ 93 := c1
    refine gx_blk (C := True) (npc := 140) (L' := [(0, .inr 86), (1, .inl x1)]) (st' := [.inl x1, .inr 86]) (m' := m) [((138, .aload_n 0, 1, 0, 0, 0, 0), (0, 0, 0)), ((139, .iload_n 1, 1, 0, 0, 0, 0), (0, 0, 0))] (by decide +kernel) rfl trivial ?_
    exact gx_callv (E := (140, .invokevirtual 192, 3, 183, 0, 6104, 0)) (M' := yp_m183) (c := 86) [.inl x1] [] rfl (by decide +kernel) rfl ⟨rfl, rfl⟩ rfl rfl (Nat.le_of_ble_eq_true rfl) (Nat.le_of_ble_eq_true rfl) (by decide +kernel) (gx_to_mono (h1 c1) (fun r m' h' => gx_to_pick [0] h'))
  · have c1 : s0 = 93 := by have h : ¬ (s0 ≠ 93) := c1; omega
    refine gx_blk (C := True) (npc := 94) (L' := [(0, .inr 86), (1, .inl x1)]) (st' := [.inl x1, .inr 86]) (m' := m) [((92, .aload_n 0, 1, 0, 0, 0, 0), (0, 0, 0)), ((93, .iload_n 1, 1, 0, 0, 0, 0), (0, 0, 0))] (by decide +kernel) rfl trivial ?_
    exact gx_callv (E := (94, .invokevirtual 192, 3, 183, 0, 6104, 0)) (M' := yp_m183) (c := 86) [.inl x1] [] rfl (by decide +kernel) rfl ⟨rfl, rfl⟩ rfl rfl (Nat.le_of_ble_eq_true rfl) (Nat.le_of_ble_eq_true rfl) (by decide +kernel) (gx_to_mono (h2 c1) (fun r m' h' => gx_to_pick [0, 1] h'))

/-- readsSum from 97 on -/
theorem gt173_97 {xs : List Int32} {w0 : sx_W} {d : Nat} {Q : gx_Q} {m : gx_M} {x1 s0 : Int}
    (h1 : (s0 = 0) → gx_to xs w0 d yp_m183 0 [(0, .inr 86), (1, .inl x1)] [] m (fun r m' => gx_to xs w0 (d + 1) yp_m173 143 [(0, .inr 86)] (gx_rs r ++ []) m' Q))
    (h2 : (s0 ≠ 0) → gx_to xs w0 d yp_m181 0 [(0, .inr 86), (1, .inl 1)] [] m (fun r m' => gx_to xs w0 (d + 1) yp_m173 105 [(0, .inr 86), (1, .inl x1)] (gx_rs r ++ []) m' Q)) : gx_to xs w0 (d + 1) yp_m173 97 [(0, .inr 86), (1, .inl x1)] [.inl s0] m Q := by
  refine gx_if .eq 138 (by decide +kernel) (fun c1 => ?_) (fun c1 => ?_)
  · have c1 : s0 = 0 := c1
    refine gx_blk (C := True) (npc := 140) (L' := [(0, .inr 86), (1, .inl x1)]) (st' := [.inl x1, .inr 86]) (m' := m) [((138, .aload_n 0, 1, 0, 0, 0, 0), (0, 0, 0)), ((139, .iload_n 1, 1, 0, 0, 0, 0), (0, 0, 0))] (by decide +kernel) rfl trivial ?_
    exact gx_callv (E := (140, .invokevirtual 192, 3, 183, 0, 6104, 0)) (M' := yp_m183) (c := 86) [.inl x1] [] rfl (by decide +kernel) rfl ⟨rfl, rfl⟩ rfl rfl (Nat.le_of_ble_eq_true rfl) (Nat.le_of_ble_eq_true rfl) (by decide +kernel) (gx_to_mono (h1 c1) (fun r m' h' => gx_to_pick [0] h'))
  · have c1 : s0 ≠ 0 := c1
    refine gx_blk (C := True) (npc := 102) (L' := [(0, .inr 86), (1, .inl x1)]) (st' := [.inl 1, .inr 86]) (m' := m) [((100, .aload_n 0, 1, 0, 0, 0, 0), (0, 0, 0)), ((101, .iconst 1, 1, 0, 0, 0, 0), (0, 0, 0))] (by decide +kernel) rfl trivial ?_
    exact gx_callv (E := (102, .invokevirtual 188, 3, 181, 0, 6096, 0)) (M' := yp_m181) (c := 86) [.inl 1] [] rfl (by decide +kernel) rfl ⟨rfl, rfl⟩ rfl rfl (Nat.le_of_ble_eq_true rfl) (Nat.le_of_ble_eq_true rfl) (by decide +kernel) (gx_to_mono (h2 c1) (fun r m' h' => gx_to_pick [0, 1] h'))

/-- readsSum from 105 on -/
theorem gt173_105 {xs : List Int32} {w0 : sx_W} {d : Nat} {Q : gx_Q} {m : gx_M} {x1 : Int} (hI : gx_I m) (g0 : 0 ≤ (m 86 11) ∧ (m 86 11) ≤ 250)
    (h1 : gx_to xs w0 d yp_m173 14 [(0, .inr 86), (1, .inl x1)] [] (gx_u (gx_u (gx_u m 86 11 ((m 86 11) - 1)) 86 9 (gx_w ((m 86 9) - 1))) 86 5 ((m 86 5) + 1)) Q) : gx_to xs w0 d yp_m173 105 [(0, .inr 86), (1, .inl x1)] [] m Q := by
  have e1 : gx_w ((m 86 11) - 1) = (m 86 11) - 1 := gx_w_id (by omega) (by omega)
  have f2 := gx_I_n hI 86 5 0 260 (by decide +kernel)
  have e3 : gx_w ((m 86 5) + 1) = (m 86 5) + 1 := gx_w_id (by omega) (by omega)
  refine gx_blk (C := True) (npc := 14) (L' := [(0, .inr 86), (1, .inl x1)]) (st' := []) (m' := (gx_u (gx_u (gx_u m 86 11 (gx_w ((m 86 11) - 1))) 86 9 (gx_w ((m 86 9) - 1))) 86 5 (gx_w ((m 86 5) + 1)))) [((105, .aload_n 0, 1, 0, 0, 0, 0), (0, 0, 0)), ((106, .aload_n 0, 1, 0, 0, 0, 0), (0, 0, 0)), ((107, .getfield 162, 3, 10, 11, 5124, 0), (0, 86, 0)), ((110, .iconst 1, 1, 0, 0, 0, 0), (0, 0, 0)), ((111, .isub, 1, 0, 0, 0, 0), (0, 0, 0)), ((112, .putfield 162, 3, 10, 11, 5124, 0), (0, 86, 0)), ((115, .aload_n 0, 1, 0, 0, 0, 0), (0, 0, 0)), ((116, .aload_n 0, 1, 0, 0, 0, 0), (0, 0, 0)), ((117, .getfield 159, 3, 10, 9, 5122, 0), (0, 86, 0)), ((120, .iconst 1, 1, 0, 0, 0, 0), (0, 0, 0)), ((121, .isub, 1, 0, 0, 0, 0), (0, 0, 0)), ((122, .putfield 159, 3, 10, 9, 5122, 0), (0, 86, 0)), ((125, .aload_n 0, 1, 0, 0, 0, 0), (0, 0, 0)), ((126, .aload_n 0, 1, 0, 0, 0, 0), (0, 0, 0)), ((127, .getfield 132, 3, 10, 5, 5118, 0), (0, 86, 0)), ((130, .iconst 1, 1, 0, 0, 0, 0), (0, 0, 0)), ((131, .iadd, 1, 0, 0, 0, 0), (0, 0, 0)), ((132, .putfield 132, 3, 10, 5, 5118, 0), (0, 86, 0)), ((135, .goto 28, 3, 0, 0, 0, 0), (0, 0, 0)), ((163, .goto (-149), 3, 0, 0, 0, 0), (0, 0, 0))] (by decide +kernel) rfl trivial ?_
  rw [e1, e3]
  exact gx_to_pick [0, 1] h1

/-- readsSum from 143 on -/
theorem gt173_143 {xs : List Int32} {w0 : sx_W} {d : Nat} {Q : gx_Q} {m : gx_M} {s0 : Int} (hI : gx_I m)
    (h1 : (s0 = 0) → gx_to xs w0 d yp_m181 0 [(0, .inr 86), (1, .inl 1)] [] m (fun r m' => gx_to xs w0 (d + 1) yp_m173 161 [] (gx_rs r ++ []) m' Q))
    (h2 : (s0 ≠ 0) → gx_to xs w0 d yp_m172 0 [(0, .inr 86), (1, .inl 1), (2, .inl (m 86 5))] [] m (fun r m' => gx_to xs w0 (d + 1) yp_m173 155 [] (gx_rs r ++ []) m' Q)) : gx_to xs w0 (d + 1) yp_m173 143 [(0, .inr 86)] [.inl s0] m Q := by
  refine gx_if .eq 156 (by decide +kernel) (fun c1 => ?_) (fun c1 => ?_)
  · have c1 : s0 = 0 := c1
    refine gx_blk (C := True) (npc := 158) (L' := [(0, .inr 86)]) (st' := [.inl 1, .inr 86]) (m' := m) [((156, .aload_n 0, 1, 0, 0, 0, 0), (0, 0, 0)), ((157, .iconst 1, 1, 0, 0, 0, 0), (0, 0, 0))] (by decide +kernel) rfl trivial ?_
    exact gx_callv (E := (158, .invokevirtual 188, 3, 181, 0, 6096, 0)) (M' := yp_m181) (c := 86) [.inl 1] [] rfl (by decide +kernel) rfl ⟨rfl, rfl⟩ rfl rfl (Nat.le_of_ble_eq_true rfl) (Nat.le_of_ble_eq_true rfl) (by decide +kernel) (gx_to_mono (h1 c1) (fun r m' h' => gx_to_pick [] h'))
  · have c1 : s0 ≠ 0 := c1
    have f1 := gx_I_n hI 86 5 0 260 (by decide +kernel)
    refine gx_blk (C := True) (npc := 152) (L' := [(0, .inr 86)]) (st' := [.inl (m 86 5), .inl 1, .inr 86]) (m' := m) [((146, .aload_n 0, 1, 0, 0, 0, 0), (0, 0, 0)), ((147, .iconst 1, 1, 0, 0, 0, 0), (0, 0, 0)), ((148, .aload_n 0, 1, 0, 0, 0, 0), (0, 0, 0)), ((149, .getfield 132, 3, 10, 5, 5118, 0), (0, 86, 0))] (by decide +kernel) rfl trivial ?_
    exact gx_callv (E := (152, .invokevirtual 145, 3, 172, 0, 6061, 0)) (M' := yp_m172) (c := 86) [.inl 1, .inl (m 86 5)] [] rfl (by decide +kernel) rfl ⟨rfl, rfl⟩ rfl rfl (Nat.le_of_ble_eq_true rfl) (Nat.le_of_ble_eq_true rfl) (by decide +kernel) (gx_to_mono (h2 c1) (fun r m' h' => gx_to_pick [] h'))

/-- readsSum from 155 on -/
theorem gt173_155 {xs : List Int32} {w0 : sx_W} {d : Nat} {Q : gx_Q} {m : gx_M} {s0 : Int}
    (k1 : s0 = 0 ∨ s0 = 1)
    (h1 : Q (some s0) m) : gx_to xs w0 d yp_m173 155 [] [.inl s0] m Q := by
  exact gx_retb (by decide +kernel) (k1) h1

/-- readsSum from 161 on -/
theorem gt173_161 {xs : List Int32} {w0 : sx_W} {d : Nat} {Q : gx_Q} {m : gx_M}
    (h1 : Q (some 1) m) : gx_to xs w0 d yp_m173 161 [] [] m Q := by
  refine gx_blk (C := True) (npc := 162) (L' := []) (st' := [.inl 1]) (m' := m) [((161, .iconst 1, 1, 0, 0, 0, 0), (0, 0, 0))] (by decide +kernel) rfl trivial ?_
  exact gx_retb (by decide +kernel) (by omega) h1

/-- readsCompared from 0 on -/
theorem gt185_0 {xs : List Int32} {w0 : sx_W} {d : Nat} {Q : gx_Q} {m : gx_M}
    (h1 : gx_to xs w0 d yp_m173 0 [(0, .inr 86)] [] m (fun r m' => gx_to xs w0 (d + 1) yp_m185 4 [(0, .inr 86)] (gx_rs r ++ []) m' Q)) : gx_to xs w0 (d + 1) yp_m185 0 [(0, .inr 86)] [] m Q := by
  refine gx_blk (C := True) (npc := 1) (L' := [(0, .inr 86)]) (st' := [.inr 86]) (m' := m) [((0, .aload_n 0, 1, 0, 0, 0, 0), (0, 0, 0))] (by decide +kernel) rfl trivial ?_
  exact gx_callv (E := (1, .invokevirtual 195, 3, 173, 0, 6065, 0)) (M' := yp_m173) (c := 86) [] [] rfl (by decide +kernel) rfl ⟨rfl, rfl⟩ rfl rfl (Nat.le_of_ble_eq_true rfl) (Nat.le_of_ble_eq_true rfl) (by decide +kernel) (gx_to_mono h1 (fun r m' h' => gx_to_pick [0] h'))

/-- readsCompared from 4 on -/
theorem gt185_4 {xs : List Int32} {w0 : sx_W} {d : Nat} {Q : gx_Q} {m : gx_M} {s0 : Int}
    (h1 : (s0 ≠ 0) → gx_to xs w0 d yp_m170 0 [(0, .inr 86)] [] m (fun r m' => gx_to xs w0 (d + 1) yp_m185 13 [(0, .inr 86)] (gx_rs r ++ []) m' Q))
    (h2 : (s0 = 0) → Q (some 0) m) : gx_to xs w0 (d + 1) yp_m185 4 [(0, .inr 86)] [.inl s0] m Q := by
  refine gx_if .ne 9 (by decide +kernel) (fun c1 => ?_) (fun c1 => ?_)
  · have c1 : s0 ≠ 0 := c1
    refine gx_blk (C := True) (npc := 10) (L' := [(0, .inr 86)]) (st' := [.inr 86]) (m' := m) [((9, .aload_n 0, 1, 0, 0, 0, 0), (0, 0, 0))] (by decide +kernel) rfl trivial ?_
    exact gx_callv (E := (10, .invokevirtual 138, 3, 170, 0, 6054, 0)) (M' := yp_m170) (c := 86) [] [] rfl (by decide +kernel) rfl ⟨rfl, rfl⟩ rfl rfl (Nat.le_of_ble_eq_true rfl) (Nat.le_of_ble_eq_true rfl) (by decide +kernel) (gx_to_mono (h1 c1) (fun r m' h' => gx_to_pick [0] h'))
  · have c1 : s0 = 0 := by have h : ¬ (s0 ≠ 0) := c1; omega
    refine gx_blk (C := True) (npc := 8) (L' := [(0, .inr 86)]) (st' := [.inl 0]) (m' := m) [((7, .iconst 0, 1, 0, 0, 0, 0), (0, 0, 0))] (by decide +kernel) rfl trivial ?_
    exact gx_retb (by decide +kernel) (by omega) (h2 c1)

/-- readsCompared from 13 on -/
theorem gt185_13 {xs : List Int32} {w0 : sx_W} {d : Nat} {Q : gx_Q} {m : gx_M} {s0 : Int} (hI : gx_I m)
    (h1 : (s0 ≠ 60) → gx_to xs w0 d yp_m170 0 [(0, .inr 86)] [] m (fun r m' => gx_to xs w0 (d + 1) yp_m185 27 [(0, .inr 86)] (gx_rs r ++ []) m' Q))
    (h2 : (s0 = 60) → gx_to xs w0 d yp_m173 0 [(0, .inr 86)] [] (gx_u m 86 5 ((m 86 5) + 1)) (fun r m' => gx_to xs w0 (d + 1) yp_m185 82 [(0, .inr 86), (1, .inl 7)] (gx_rs r ++ []) m' Q)) : gx_to xs w0 (d + 1) yp_m185 13 [(0, .inr 86)] [.inl s0] m Q := by
  refine gx_blk (C := True) (npc := 15) (L' := [(0, .inr 86)]) (st' := [.inl 60, .inl s0]) (m' := m) [((13, .bipush 60, 2, 0, 0, 0, 0), (0, 0, 0))] (by decide +kernel) rfl trivial ?_
  refine gx_cmp .ne 23 (by decide +kernel) (fun c1 => ?_) (fun c1 => ?_)
  · have c1 : s0 ≠ 60 := c1
    refine gx_blk (C := True) (npc := 24) (L' := [(0, .inr 86)]) (st' := [.inr 86]) (m' := m) [((23, .aload_n 0, 1, 0, 0, 0, 0), (0, 0, 0))] (by decide +kernel) rfl trivial ?_
    exact gx_callv (E := (24, .invokevirtual 138, 3, 170, 0, 6054, 0)) (M' := yp_m170) (c := 86) [] [] rfl (by decide +kernel) rfl ⟨rfl, rfl⟩ rfl rfl (Nat.le_of_ble_eq_true rfl) (Nat.le_of_ble_eq_true rfl) (by decide +kernel) (gx_to_mono (h1 c1) (fun r m' h' => gx_to_pick [0] h'))
  · have c1 : s0 = 60 := by have h : ¬ (s0 ≠ 60) := c1; omega
    refine gx_blk (C := True) (npc := 55) (L' := [(0, .inr 86), (1, .inl 7)]) (st' := [.inl (-1), .inl 7]) (m' := m) [((18, .bipush 7, 2, 0, 0, 0, 0), (0, 0, 0)), ((20, .goto 32, 3, 0, 0, 0, 0), (0, 0, 0)), ((52, .istore_n 1, 1, 0, 0, 0, 0), (0, 0, 0)), ((53, .iload_n 1, 1, 0, 0, 0, 0), (0, 0, 0)), ((54, .iconst (-1), 1, 0, 0, 0, 0), (0, 0, 0))] (by decide +kernel) rfl trivial ?_
    refine gx_cmp .ne 68 (by decide +kernel) (fun c2 => ?_) (fun c2 => ?_)
    · have c2 : (7 : Int) ≠ (-1) := c2
      have f1 := gx_I_n hI 86 5 0 260 (by decide +kernel)
      have e2 : gx_w ((m 86 5) + 1) = (m 86 5) + 1 := gx_w_id (by omega) (by omega)
      refine gx_blk (C := True) (npc := 79) (L' := [(0, .inr 86), (1, .inl 7)]) (st' := [.inr 86]) (m' := (gx_u m 86 5 (gx_w ((m 86 5) + 1)))) [((68, .aload_n 0, 1, 0, 0, 0, 0), (0, 0, 0)), ((69, .aload_n 0, 1, 0, 0, 0, 0), (0, 0, 0)), ((70, .getfield 132, 3, 10, 5, 5118, 0), (0, 86, 0)), ((73, .iconst 1, 1, 0, 0, 0, 0), (0, 0, 0)), ((74, .iadd, 1, 0, 0, 0, 0), (0, 0, 0)), ((75, .putfield 132, 3, 10, 5, 5118, 0), (0, 86, 0)), ((78, .aload_n 0, 1, 0, 0, 0, 0), (0, 0, 0))] (by decide +kernel) rfl trivial ?_
      rw [e2]
      exact gx_callv (E := (79, .invokevirtual 195, 3, 173, 0, 6065, 0)) (M' := yp_m173) (c := 86) [] [] rfl (by decide +kernel) rfl ⟨rfl, rfl⟩ rfl rfl (Nat.le_of_ble_eq_true rfl) (Nat.le_of_ble_eq_true rfl) (by decide +kernel) (gx_to_mono (h2 c1) (fun r m' h' => gx_to_pick [0, 1] h'))
    · have c2 : (7 : Int) = (-1) := by have h : ¬ ((7 : Int) ≠ (-1)) := c2; omega
      exfalso; omega

/-- readsCompared from 27 on -/
theorem gt185_27 {xs : List Int32} {w0 : sx_W} {d : Nat} {Q : gx_Q} {m : gx_M} {s0 : Int} (hI : gx_I m)
    (h1 : (s0 ≠ 62) → gx_to xs w0 d yp_m170 0 [(0, .inr 86)] [] m (fun r m' => gx_to xs w0 (d + 1) yp_m185 41 [(0, .inr 86)] (gx_rs r ++ []) m' Q))
    (h2 : (s0 = 62) → gx_to xs w0 d yp_m173 0 [(0, .inr 86)] [] (gx_u m 86 5 ((m 86 5) + 1)) (fun r m' => gx_to xs w0 (d + 1) yp_m185 82 [(0, .inr 86), (1, .inl 8)] (gx_rs r ++ []) m' Q)) : gx_to xs w0 (d + 1) yp_m185 27 [(0, .inr 86)] [.inl s0] m Q := by
  refine gx_blk (C := True) (npc := 29) (L' := [(0, .inr 86)]) (st' := [.inl 62, .inl s0]) (m' := m) [((27, .bipush 62, 2, 0, 0, 0, 0), (0, 0, 0))] (by decide +kernel) rfl trivial ?_
  refine gx_cmp .ne 37 (by decide +kernel) (fun c1 => ?_) (fun c1 => ?_)
  · have c1 : s0 ≠ 62 := c1
    refine gx_blk (C := True) (npc := 38) (L' := [(0, .inr 86)]) (st' := [.inr 86]) (m' := m) [((37, .aload_n 0, 1, 0, 0, 0, 0), (0, 0, 0))] (by decide +kernel) rfl trivial ?_
    exact gx_callv (E := (38, .invokevirtual 138, 3, 170, 0, 6054, 0)) (M' := yp_m170) (c := 86) [] [] rfl (by decide +kernel) rfl ⟨rfl, rfl⟩ rfl rfl (Nat.le_of_ble_eq_true rfl) (Nat.le_of_ble_eq_true rfl) (by decide +kernel) (gx_to_mono (h1 c1) (fun r m' h' => gx_to_pick [0] h'))
  · have c1 : s0 = 62 := by have h : ¬ (s0 ≠ 62) := c1; omega
    refine gx_blk (C := True) (npc := 55) (L' := [(0, .inr 86), (1, .inl 8)]) (st' := [.inl (-1), .inl 8]) (m' := m) [((32, .bipush 8, 2, 0, 0, 0, 0), (0, 0, 0)), ((34, .goto 18, 3, 0, 0, 0, 0), (0, 0, 0)), ((52, .istore_n 1, 1, 0, 0, 0, 0), (0, 0, 0)), ((53, .iload_n 1, 1, 0, 0, 0, 0), (0, 0, 0)), ((54, .iconst (-1), 1, 0, 0, 0, 0), (0, 0, 0))] (by decide +kernel) rfl trivial ?_
    refine gx_cmp .ne 68 (by decide +kernel) (fun c2 => ?_) (fun c2 => ?_)
    · have c2 : (8 : Int) ≠ (-1) := c2
      have f1 := gx_I_n hI 86 5 0 260 (by decide +kernel)
      have e2 : gx_w ((m 86 5) + 1) = (m 86 5) + 1 := gx_w_id (by omega) (by omega)
      refine gx_blk (C := True) (npc := 79) (L' := [(0, .inr 86), (1, .inl 8)]) (st' := [.inr 86]) (m' := (gx_u m 86 5 (gx_w ((m 86 5) + 1)))) [((68, .aload_n 0, 1, 0, 0, 0, 0), (0, 0, 0)), ((69, .aload_n 0, 1, 0, 0, 0, 0), (0, 0, 0)), ((70, .getfield 132, 3, 10, 5, 5118, 0), (0, 86, 0)), ((73, .iconst 1, 1, 0, 0, 0, 0), (0, 0, 0)), ((74, .iadd, 1, 0, 0, 0, 0), (0, 0, 0)), ((75, .putfield 132, 3, 10, 5, 5118, 0), (0, 86, 0)), ((78, .aload_n 0, 1, 0, 0, 0, 0), (0, 0, 0))] (by decide +kernel) rfl trivial ?_
      rw [e2]
      exact gx_callv (E := (79, .invokevirtual 195, 3, 173, 0, 6065, 0)) (M' := yp_m173) (c := 86) [] [] rfl (by decide +kernel) rfl ⟨rfl, rfl⟩ rfl rfl (Nat.le_of_ble_eq_true rfl) (Nat.le_of_ble_eq_true rfl) (by decide +kernel) (gx_to_mono (h2 c1) (fun r m' h' => gx_to_pick [0, 1] h'))
    · have c2 : (8 : Int) = (-1) := by have h : ¬ ((8 : Int) ≠ (-1)) := c2; omega
      exfalso; omega

/-- readsCompared from 41 on -/
theorem gt185_41 {xs : List Int32} {w0 : sx_W} {d : Nat} {Q : gx_Q} {m : gx_M} {s0 : Int} (hI : gx_I m)
    (h1 : (s0 ≠ 61) → gx_to xs w0 d yp_m172 0 [(0, .inr 86), (1, .inl 1), (2, .inl (m 86 5))] [] m (fun r m' => gx_to xs w0 (d + 1) yp_m185 67 [] (gx_rs r ++ []) m' Q))
    (h2 : (s0 = 61) → gx_to xs w0 d yp_m173 0 [(0, .inr 86)] [] (gx_u m 86 5 ((m 86 5) + 1)) (fun r m' => gx_to xs w0 (d + 1) yp_m185 82 [(0, .inr 86), (1, .inl 9)] (gx_rs r ++ []) m' Q)) : gx_to xs w0 (d + 1) yp_m185 41 [(0, .inr 86)] [.inl s0] m Q := by
  refine gx_blk (C := True) (npc := 43) (L' := [(0, .inr 86)]) (st' := [.inl 61, .inl s0]) (m' := m) [((41, .bipush 61, 2, 0, 0, 0, 0), (0, 0, 0))] (by decide +kernel) rfl trivial ?_
  refine gx_cmp .ne 51 (by decide +kernel) (fun c1 => ?_) (fun c1 => ?_)
  · have c1 : s0 ≠ 61 := c1
    refine gx_blk (C := True) (npc := 55) (L' := [(0, .inr 86), (1, .inl (-1))]) (st' := [.inl (-1), .inl (-1)]) (m' := m) [((51, .iconst (-1), 1, 0, 0, 0, 0), (0, 0, 0)), ((52, .istore_n 1, 1, 0, 0, 0, 0), (0, 0, 0)), ((53, .iload_n 1, 1, 0, 0, 0, 0), (0, 0, 0)), ((54, .iconst (-1), 1, 0, 0, 0, 0), (0, 0, 0))] (by decide +kernel) rfl trivial ?_
    refine gx_cmp .ne 68 (by decide +kernel) (fun c2 => ?_) (fun c2 => ?_)
    · have c2 : (-1 : Int) ≠ (-1) := c2
      exfalso; omega
    · have c2 : (-1 : Int) = (-1) := by have h : ¬ ((-1 : Int) ≠ (-1)) := c2; omega
      have f1 := gx_I_n hI 86 5 0 260 (by decide +kernel)
      refine gx_blk (C := True) (npc := 64) (L' := [(0, .inr 86), (1, .inl (-1))]) (st' := [.inl (m 86 5), .inl 1, .inr 86]) (m' := m) [((58, .aload_n 0, 1, 0, 0, 0, 0), (0, 0, 0)), ((59, .iconst 1, 1, 0, 0, 0, 0), (0, 0, 0)), ((60, .aload_n 0, 1, 0, 0, 0, 0), (0, 0, 0)), ((61, .getfield 132, 3, 10, 5, 5118, 0), (0, 86, 0))] (by decide +kernel) rfl trivial ?_
      exact gx_callv (E := (64, .invokevirtual 145, 3, 172, 0, 6061, 0)) (M' := yp_m172) (c := 86) [.inl 1, .inl (m 86 5)] [] rfl (by decide +kernel) rfl ⟨rfl, rfl⟩ rfl rfl (Nat.le_of_ble_eq_true rfl) (Nat.le_of_ble_eq_true rfl) (by decide +kernel) (gx_to_mono (h1 c1) (fun r m' h' => gx_to_pick [] h'))
  · have c1 : s0 = 61 := by have h : ¬ (s0 ≠ 61) := c1; omega
    refine gx_blk (C := True) (npc := 55) (L' := [(0, .inr 86), (1, .inl 9)]) (st' := [.inl (-1), .inl 9]) (m' := m) [((46, .bipush 9, 2, 0, 0, 0, 0), (0, 0, 0)), ((48, .goto 4, 3, 0, 0, 0, 0), (0, 0, 0)), ((52, .istore_n 1, 1, 0, 0, 0, 0), (0, 0, 0)), ((53, .iload_n 1, 1, 0, 0, 0, 0), (0, 0, 0)), ((54, .iconst (-1), 1, 0, 0, 0, 0), (0, 0, 0))] (by decide +kernel) rfl trivial ?_
    refine gx_cmp .ne 68 (by decide +kernel) (fun c2 => ?_) (fun c2 => ?_)
    · have c2 : (9 : Int) ≠ (-1) := c2
      have f2 := gx_I_n hI 86 5 0 260 (by decide +kernel)
      have e3 : gx_w ((m 86 5) + 1) = (m 86 5) + 1 := gx_w_id (by omega) (by omega)
      refine gx_blk (C := True) (npc := 79) (L' := [(0, .inr 86), (1, .inl 9)]) (st' := [.inr 86]) (m' := (gx_u m 86 5 (gx_w ((m 86 5) + 1)))) [((68, .aload_n 0, 1, 0, 0, 0, 0), (0, 0, 0)), ((69, .aload_n 0, 1, 0, 0, 0, 0), (0, 0, 0)), ((70, .getfield 132, 3, 10, 5, 5118, 0), (0, 86, 0)), ((73, .iconst 1, 1, 0, 0, 0, 0), (0, 0, 0)), ((74, .iadd, 1, 0, 0, 0, 0), (0, 0, 0)), ((75, .putfield 132, 3, 10, 5, 5118, 0), (0, 86, 0)), ((78, .aload_n 0, 1, 0, 0, 0, 0), (0, 0, 0))] (by decide +kernel) rfl trivial ?_
      rw [e3]
      exact gx_callv (E := (79, .invokevirtual 195, 3, 173, 0, 6065, 0)) (M' := yp_m173) (c := 86) [] [] rfl (by decide +kernel) rfl ⟨rfl, rfl⟩ rfl rfl (Nat.le_of_ble_eq_true rfl) (Nat.le_of_ble_eq_true rfl) (by decide +kernel) (gx_to_mono (h2 c1) (fun r m' h' => gx_to_pick [0, 1] h'))
    · have c2 : (9 : Int) = (-1) := by have h : ¬ ((9 : Int) ≠ (-1)) := c2; omega
      exfalso; omega

/-- readsCompared from 67 on -/
theorem gt185_67 {xs : List Int32} {w0 : sx_W} {d : Nat} {Q : gx_Q} {m : gx_M} {s0 : Int}
    (k1 : s0 = 0 ∨ s0 = 1)
    (h1 : Q (some s0) m) : gx_to xs w0 d yp_m185 67 [] [.inl s0] m Q := by
  exact gx_retb (by decide +kernel) (k1) h1

/-- readsCompared from 82 on -/
theorem gt185_82 {xs : List Int32} {w0 : sx_W} {d : Nat} {Q : gx_Q} {m : gx_M} {x1 s0 : Int}
    (h1 : (s0 ≠ 0) → gx_to xs w0 d yp_m178 0 [(0, .inr 86), (1, .inl x1), (2, .inl 0)] [] m (fun r m' => gx_to xs w0 (d + 1) yp_m185 93 [(0, .inr 86)] (gx_rs r ++ []) m' Q))
    (h2 : (s0 = 0) → Q (some 0) m) : gx_to xs w0 (d + 1) yp_m185 82 [(0, .inr 86), (1, .inl x1)] [.inl s0] m Q := by
  refine gx_if .ne 87 (by decide +kernel) (fun c1 => ?_) (fun c1 => ?_)
  · have c1 : s0 ≠ 0 := c1
    refine gx_blk (C := True) (npc := 90) (L' := [(0, .inr 86), (1, .inl x1)]) (st' := [.inl 0, .inl x1, .inr 86]) (m' := m) [((87, .aload_n 0, 1, 0, 0, 0, 0), (0, 0, 0)), ((88, .iload_n 1, 1, 0, 0, 0, 0), (0, 0, 0)), ((89, .iconst 0, 1, 0, 0, 0, 0), (0, 0, 0))] (by decide +kernel) rfl trivial ?_
    exact gx_callv (E := (90, .invokevirtual 168, 3, 178, 0, 6086, 0)) (M' := yp_m178) (c := 86) [.inl x1, .inl 0] [] rfl (by decide +kernel) rfl ⟨rfl, rfl⟩ rfl rfl (Nat.le_of_ble_eq_true rfl) (Nat.le_of_ble_eq_true rfl) (by decide +kernel) (gx_to_mono (h1 c1) (fun r m' h' => gx_to_pick [0] h'))
  · have c1 : s0 = 0 := by have h : ¬ (s0 ≠ 0) := c1; omega
    refine gx_blk (C := True) (npc := 86) (L' := [(0, .inr 86), (1, .inl x1)]) (st' := [.inl 0]) (m' := m) [((85, .iconst 0, 1, 0, 0, 0, 0), (0, 0, 0))] (by decide +kernel) rfl trivial ?_
    exact gx_retb (by decide +kernel) (by omega) (h2 c1)

/-- readsCompared from 93 on -/
theorem gt185_93 {xs : List Int32} {w0 : sx_W} {d : Nat} {Q : gx_Q} {m : gx_M}
    (h1 : gx_to xs w0 d yp_m186 0 [(0, .inr 86)] [] m (fun r m' => gx_to xs w0 (d + 1) yp_m185 97 [] (gx_rs r ++ []) m' Q)) : gx_to xs w0 (d + 1) yp_m185 93 [(0, .inr 86)] [] m Q := by
  refine gx_blk (C := True) (npc := 94) (L' := [(0, .inr 86)]) (st' := [.inr 86]) (m' := m) [((93, .aload_n 0, 1, 0, 0, 0, 0), (0, 0, 0))] (by decide +kernel) rfl trivial ?_
  exact gx_callv (E := (94, .invokevirtual 198, 3, 186, 0, 6116, 0)) (M' := yp_m186) (c := 86) [] [] rfl (by decide +kernel) rfl ⟨rfl, rfl⟩ rfl rfl (Nat.le_of_ble_eq_true rfl) (Nat.le_of_ble_eq_true rfl) (by decide +kernel) (gx_to_mono h1 (fun r m' h' => gx_to_pick [] h'))

/-- readsCompared from 97 on -/
theorem gt185_97 {xs : List Int32} {w0 : sx_W} {d : Nat} {Q : gx_Q} {m : gx_M}
    (h1 : Q (some 1) m) : gx_to xs w0 d yp_m185 97 [] [] m Q := by
  refine gx_blk (C := True) (npc := 98) (L' := []) (st' := [.inl 1]) (m' := m) [((97, .iconst 1, 1, 0, 0, 0, 0), (0, 0, 0))] (by decide +kernel) rfl trivial ?_
  exact gx_retb (by decide +kernel) (by omega) h1

/-- readsCondition from 0 on -/
theorem gt184_0 {xs : List Int32} {w0 : sx_W} {d : Nat} {Q : gx_Q} {m : gx_M}
    (h1 : gx_to xs w0 d yp_m170 0 [(0, .inr 86)] [] m (fun r m' => gx_to xs w0 (d + 1) yp_m184 4 [(0, .inr 86)] (gx_rs r ++ []) m' Q)) : gx_to xs w0 (d + 1) yp_m184 0 [(0, .inr 86)] [] m Q := by
  refine gx_blk (C := True) (npc := 1) (L' := [(0, .inr 86)]) (st' := [.inr 86]) (m' := m) [((0, .aload_n 0, 1, 0, 0, 0, 0), (0, 0, 0))] (by decide +kernel) rfl trivial ?_
  exact gx_callv (E := (1, .invokevirtual 138, 3, 170, 0, 6054, 0)) (M' := yp_m170) (c := 86) [] [] rfl (by decide +kernel) rfl ⟨rfl, rfl⟩ rfl rfl (Nat.le_of_ble_eq_true rfl) (Nat.le_of_ble_eq_true rfl) (by decide +kernel) (gx_to_mono h1 (fun r m' h' => gx_to_pick [0] h'))

/-- readsCondition from 4 on -/
theorem gt184_4 {xs : List Int32} {w0 : sx_W} {d : Nat} {Q : gx_Q} {m : gx_M} {s0 : Int} (hI : gx_I m)
    (h1 : (s0 = 40) → gx_to xs w0 d yp_m175 0 [(0, .inr 86), (1, .inl 13)] [] (gx_u (gx_u m 86 9 0) 86 11 0) (fun r m' => gx_to xs w0 (d + 1) yp_m184 35 [(0, .inr 86)] (gx_rs r ++ []) m' Q))
    (h2 : (s0 ≠ 40) → gx_to xs w0 d yp_m172 0 [(0, .inr 86), (1, .inl 1), (2, .inl (m 86 5))] [] m (fun r m' => gx_to xs w0 (d + 1) yp_m184 18 [] (gx_rs r ++ []) m' Q)) : gx_to xs w0 (d + 1) yp_m184 4 [(0, .inr 86)] [.inl s0] m Q := by
  refine gx_blk (C := True) (npc := 6) (L' := [(0, .inr 86)]) (st' := [.inl 40, .inl s0]) (m' := m) [((4, .bipush 40, 2, 0, 0, 0, 0), (0, 0, 0))] (by decide +kernel) rfl trivial ?_
  refine gx_cmp .eq 19 (by decide +kernel) (fun c1 => ?_) (fun c1 => ?_)
  · have c1 : s0 = 40 := c1
    refine gx_blk (C := True) (npc := 32) (L' := [(0, .inr 86)]) (st' := [.inl 13, .inr 86]) (m' := (gx_u (gx_u m 86 9 0) 86 11 0)) [((19, .aload_n 0, 1, 0, 0, 0, 0), (0, 0, 0)), ((20, .iconst 0, 1, 0, 0, 0, 0), (0, 0, 0)), ((21, .putfield 159, 3, 10, 9, 5122, 0), (0, 86, 0)), ((24, .aload_n 0, 1, 0, 0, 0, 0), (0, 0, 0)), ((25, .iconst 0, 1, 0, 0, 0, 0), (0, 0, 0)), ((26, .putfield 162, 3, 10, 11, 5124, 0), (0, 86, 0)), ((29, .aload_n 0, 1, 0, 0, 0, 0), (0, 0, 0)), ((30, .bipush 13, 2, 0, 0, 0, 0), (0, 0, 0))] (by decide +kernel) rfl trivial ?_
    exact gx_callv (E := (32, .invokevirtual 172, 3, 175, 0, 6073, 0)) (M' := yp_m175) (c := 86) [.inl 13] [] rfl (by decide +kernel) rfl ⟨rfl, rfl⟩ rfl rfl (Nat.le_of_ble_eq_true rfl) (Nat.le_of_ble_eq_true rfl) (by decide +kernel) (gx_to_mono (h1 c1) (fun r m' h' => gx_to_pick [0] h'))
  · have c1 : s0 ≠ 40 := c1
    have f1 := gx_I_n hI 86 5 0 260 (by decide +kernel)
    refine gx_blk (C := True) (npc := 15) (L' := [(0, .inr 86)]) (st' := [.inl (m 86 5), .inl 1, .inr 86]) (m' := m) [((9, .aload_n 0, 1, 0, 0, 0, 0), (0, 0, 0)), ((10, .iconst 1, 1, 0, 0, 0, 0), (0, 0, 0)), ((11, .aload_n 0, 1, 0, 0, 0, 0), (0, 0, 0)), ((12, .getfield 132, 3, 10, 5, 5118, 0), (0, 86, 0))] (by decide +kernel) rfl trivial ?_
    exact gx_callv (E := (15, .invokevirtual 145, 3, 172, 0, 6061, 0)) (M' := yp_m172) (c := 86) [.inl 1, .inl (m 86 5)] [] rfl (by decide +kernel) rfl ⟨rfl, rfl⟩ rfl rfl (Nat.le_of_ble_eq_true rfl) (Nat.le_of_ble_eq_true rfl) (by decide +kernel) (gx_to_mono (h2 c1) (fun r m' h' => gx_to_pick [] h'))

/-- readsCondition from 18 on -/
theorem gt184_18 {xs : List Int32} {w0 : sx_W} {d : Nat} {Q : gx_Q} {m : gx_M} {s0 : Int}
    (k1 : s0 = 0 ∨ s0 = 1)
    (h1 : Q (some s0) m) : gx_to xs w0 d yp_m184 18 [] [.inl s0] m Q := by
  exact gx_retb (by decide +kernel) (k1) h1

/-- readsCondition from 35 on -/
theorem gt184_35 {xs : List Int32} {w0 : sx_W} {d : Nat} {Q : gx_Q} {m : gx_M} {s0 : Int}
    (h1 : (s0 ≠ 0) → gx_to xs w0 d yp_m184 40 [(0, .inr 86)] [] m Q)
    (h2 : (s0 = 0) → Q (some 0) m) : gx_to xs w0 d yp_m184 35 [(0, .inr 86)] [.inl s0] m Q := by
  refine gx_if .ne 40 (by decide +kernel) (fun c1 => ?_) (fun c1 => ?_)
  · have c1 : s0 ≠ 0 := c1
    exact gx_to_pick [0] (h1 c1)
  · have c1 : s0 = 0 := by have h : ¬ (s0 ≠ 0) := c1; omega
    refine gx_blk (C := True) (npc := 39) (L' := [(0, .inr 86)]) (st' := [.inl 0]) (m' := m) [((38, .iconst 0, 1, 0, 0, 0, 0), (0, 0, 0))] (by decide +kernel) rfl trivial ?_
    exact gx_retb (by decide +kernel) (by omega) (h2 c1)

/-- readsCondition from 40 on -/
theorem gt184_40 {xs : List Int32} {w0 : sx_W} {d : Nat} {Q : gx_Q} {m : gx_M}
    (h1 : gx_to xs w0 d yp_m170 0 [(0, .inr 86)] [] m (fun r m' => gx_to xs w0 (d + 1) yp_m184 44 [(0, .inr 86)] (gx_rs r ++ []) m' Q)) : gx_to xs w0 (d + 1) yp_m184 40 [(0, .inr 86)] [] m Q := by
  refine gx_blk (C := True) (npc := 41) (L' := [(0, .inr 86)]) (st' := [.inr 86]) (m' := m) [((40, .aload_n 0, 1, 0, 0, 0, 0), (0, 0, 0))] (by decide +kernel) rfl trivial ?_
  exact gx_callv (E := (41, .invokevirtual 138, 3, 170, 0, 6054, 0)) (M' := yp_m170) (c := 86) [] [] rfl (by decide +kernel) rfl ⟨rfl, rfl⟩ rfl rfl (Nat.le_of_ble_eq_true rfl) (Nat.le_of_ble_eq_true rfl) (by decide +kernel) (gx_to_mono h1 (fun r m' h' => gx_to_pick [0] h'))

/-- readsCondition from 44 on -/
theorem gt184_44 {xs : List Int32} {w0 : sx_W} {d : Nat} {Q : gx_Q} {m : gx_M} {s0 : Int}
    (h1 : (s0 = 33) → gx_to xs w0 d yp_m170 0 [(0, .inr 86)] [] m (fun r m' => gx_to xs w0 (d + 1) yp_m184 63 [(0, .inr 86)] (gx_rs r ++ [.inr 86]) m' Q))
    (h2 : (s0 ≠ 33) → gx_to xs w0 d yp_m170 0 [(0, .inr 86)] [] m (fun r m' => gx_to xs w0 (d + 1) yp_m184 53 [(0, .inr 86)] (gx_rs r ++ []) m' Q)) : gx_to xs w0 (d + 1) yp_m184 44 [(0, .inr 86)] [.inl s0] m Q := by
  refine gx_blk (C := True) (npc := 46) (L' := [(0, .inr 86)]) (st' := [.inl 33, .inl s0]) (m' := m) [((44, .bipush 33, 2, 0, 0, 0, 0), (0, 0, 0))] (by decide +kernel) rfl trivial ?_
  refine gx_cmp .eq 58 (by decide +kernel) (fun c1 => ?_) (fun c1 => ?_)
  · have c1 : s0 = 33 := c1
    refine gx_blk (C := True) (npc := 60) (L' := [(0, .inr 86)]) (st' := [.inr 86, .inr 86]) (m' := m) [((58, .aload_n 0, 1, 0, 0, 0, 0), (0, 0, 0)), ((59, .aload_n 0, 1, 0, 0, 0, 0), (0, 0, 0))] (by decide +kernel) rfl trivial ?_
    exact gx_callv (E := (60, .invokevirtual 138, 3, 170, 0, 6054, 0)) (M' := yp_m170) (c := 86) [] [.inr 86] rfl (by decide +kernel) rfl ⟨rfl, rfl⟩ rfl rfl (Nat.le_of_ble_eq_true rfl) (Nat.le_of_ble_eq_true rfl) (by decide +kernel) (gx_to_mono (h1 c1) (fun r m' h' => gx_to_pick [0] h'))
  · have c1 : s0 ≠ 33 := c1
    refine gx_blk (C := True) (npc := 50) (L' := [(0, .inr 86)]) (st' := [.inr 86]) (m' := m) [((49, .aload_n 0, 1, 0, 0, 0, 0), (0, 0, 0))] (by decide +kernel) rfl trivial ?_
    exact gx_callv (E := (50, .invokevirtual 138, 3, 170, 0, 6054, 0)) (M' := yp_m170) (c := 86) [] [] rfl (by decide +kernel) rfl ⟨rfl, rfl⟩ rfl rfl (Nat.le_of_ble_eq_true rfl) (Nat.le_of_ble_eq_true rfl) (by decide +kernel) (gx_to_mono (h2 c1) (fun r m' h' => gx_to_pick [0] h'))

/-- readsCondition from 53 on -/
theorem gt184_53 {xs : List Int32} {w0 : sx_W} {d : Nat} {Q : gx_Q} {m : gx_M} {s0 : Int}
    (h1 : (s0 ≠ 40) → gx_to xs w0 d yp_m185 0 [(0, .inr 86)] [] m (fun r m' => gx_to xs w0 (d + 1) yp_m184 87 [(0, .inr 86)] (gx_rs r ++ []) m' Q))
    (h2 : (s0 = 40) → gx_to xs w0 d yp_m170 0 [(0, .inr 86)] [] m (fun r m' => gx_to xs w0 (d + 1) yp_m184 63 [(0, .inr 86)] (gx_rs r ++ [.inr 86]) m' Q)) : gx_to xs w0 (d + 1) yp_m184 53 [(0, .inr 86)] [.inl s0] m Q := by
  refine gx_blk (C := True) (npc := 55) (L' := [(0, .inr 86)]) (st' := [.inl 40, .inl s0]) (m' := m) [((53, .bipush 40, 2, 0, 0, 0, 0), (0, 0, 0))] (by decide +kernel) rfl trivial ?_
  refine gx_cmp .ne 83 (by decide +kernel) (fun c1 => ?_) (fun c1 => ?_)
  · have c1 : s0 ≠ 40 := c1
    refine gx_blk (C := True) (npc := 84) (L' := [(0, .inr 86)]) (st' := [.inr 86]) (m' := m) [((83, .aload_n 0, 1, 0, 0, 0, 0), (0, 0, 0))] (by decide +kernel) rfl trivial ?_
    exact gx_callv (E := (84, .invokevirtual 201, 3, 185, 0, 6112, 0)) (M' := yp_m185) (c := 86) [] [] rfl (by decide +kernel) rfl ⟨rfl, rfl⟩ rfl rfl (Nat.le_of_ble_eq_true rfl) (Nat.le_of_ble_eq_true rfl) (by decide +kernel) (gx_to_mono (h1 c1) (fun r m' h' => gx_to_pick [0] h'))
  · have c1 : s0 = 40 := by have h : ¬ (s0 ≠ 40) := c1; omega
    refine gx_blk (C := True) (npc := 60) (L' := [(0, .inr 86)]) (st' := [.inr 86, .inr 86]) (m' := m) [((58, .aload_n 0, 1, 0, 0, 0, 0), (0, 0, 0)), ((59, .aload_n 0, 1, 0, 0, 0, 0), (0, 0, 0))] (by decide +kernel) rfl trivial ?_
    exact gx_callv (E := (60, .invokevirtual 138, 3, 170, 0, 6054, 0)) (M' := yp_m170) (c := 86) [] [.inr 86] rfl (by decide +kernel) rfl ⟨rfl, rfl⟩ rfl rfl (Nat.le_of_ble_eq_true rfl) (Nat.le_of_ble_eq_true rfl) (by decide +kernel) (gx_to_mono (h2 c1) (fun r m' h' => gx_to_pick [0] h'))

/-- readsCondition from 63 on -/
theorem gt184_63 {xs : List Int32} {w0 : sx_W} {d : Nat} {Q : gx_Q} {m : gx_M} {s1 : Int}
    (h1 : (s1 ≠ 33) → gx_to xs w0 d yp_m175 0 [(0, .inr 86), (1, .inl 13)] [] m (fun r m' => gx_to xs w0 (d + 1) yp_m184 78 [(0, .inr 86)] (gx_rs r ++ []) m' Q))
    (h2 : (s1 = 33) → gx_to xs w0 d yp_m175 0 [(0, .inr 86), (1, .inl 10)] [] m (fun r m' => gx_to xs w0 (d + 1) yp_m184 78 [(0, .inr 86)] (gx_rs r ++ []) m' Q)) : gx_to xs w0 (d + 1) yp_m184 63 [(0, .inr 86)] [.inl s1, .inr 86] m Q := by
  refine gx_blk (C := True) (npc := 65) (L' := [(0, .inr 86)]) (st' := [.inl 33, .inl s1, .inr 86]) (m' := m) [((63, .bipush 33, 2, 0, 0, 0, 0), (0, 0, 0))] (by decide +kernel) rfl trivial ?_
  refine gx_cmp .ne 73 (by decide +kernel) (fun c1 => ?_) (fun c1 => ?_)
  · have c1 : s1 ≠ 33 := c1
    refine gx_blk (C := True) (npc := 75) (L' := [(0, .inr 86)]) (st' := [.inl 13, .inr 86]) (m' := m) [((73, .bipush 13, 2, 0, 0, 0, 0), (0, 0, 0))] (by decide +kernel) rfl trivial ?_
    exact gx_callv (E := (75, .invokevirtual 172, 3, 175, 0, 6073, 0)) (M' := yp_m175) (c := 86) [.inl 13] [] rfl (by decide +kernel) rfl ⟨rfl, rfl⟩ rfl rfl (Nat.le_of_ble_eq_true rfl) (Nat.le_of_ble_eq_true rfl) (by decide +kernel) (gx_to_mono (h1 c1) (fun r m' h' => gx_to_pick [0] h'))
  · have c1 : s1 = 33 := by have h : ¬ (s1 ≠ 33) := c1; omega
    refine gx_blk (C := True) (npc := 75) (L' := [(0, .inr 86)]) (st' := [.inl 10, .inr 86]) (m' := m) [((68, .bipush 10, 2, 0, 0, 0, 0), (0, 0, 0)), ((70, .goto 5, 3, 0, 0, 0, 0), (0, 0, 0))] (by decide +kernel) rfl trivial ?_
    exact gx_callv (E := (75, .invokevirtual 172, 3, 175, 0, 6073, 0)) (M' := yp_m175) (c := 86) [.inl 10] [] rfl (by decide +kernel) rfl ⟨rfl, rfl⟩ rfl rfl (Nat.le_of_ble_eq_true rfl) (Nat.le_of_ble_eq_true rfl) (by decide +kernel) (gx_to_mono (h2 c1) (fun r m' h' => gx_to_pick [0] h'))

/-- readsCondition from 78 on -/
theorem gt184_78 {xs : List Int32} {w0 : sx_W} {d : Nat} {Q : gx_Q} {m : gx_M} {s0 : Int}
    (h1 : (s0 ≠ 0) → gx_to xs w0 d yp_m184 40 [(0, .inr 86)] [] m Q)
    (h2 : (s0 = 0) → Q (some 0) m) : gx_to xs w0 d yp_m184 78 [(0, .inr 86)] [.inl s0] m Q := by
  refine gx_if .ne 40 (by decide +kernel) (fun c1 => ?_) (fun c1 => ?_)
  · have c1 : s0 ≠ 0 := c1
    exact gx_to_pick [0] (h1 c1)
  · have c1 : s0 = 0 := by have h : ¬ (s0 ≠ 0) := c1; omega
    refine gx_blk (C := True) (npc := 82) (L' := [(0, .inr 86)]) (st' := [.inl 0]) (m' := m) [((81, .iconst 0, 1, 0, 0, 0, 0), (0, 0, 0))] (by decide +kernel) rfl trivial ?_
    exact gx_retb (by decide +kernel) (by omega) (h2 c1)

/-- readsCondition from 87 on -/
theorem gt184_87 {xs : List Int32} {w0 : sx_W} {d : Nat} {Q : gx_Q} {m : gx_M} {s0 : Int}
    (h1 : (s0 ≠ 0) → gx_to xs w0 d yp_m184 92 [(0, .inr 86)] [] m Q)
    (h2 : (s0 = 0) → Q (some 0) m) : gx_to xs w0 d yp_m184 87 [(0, .inr 86)] [.inl s0] m Q := by
  refine gx_if .ne 92 (by decide +kernel) (fun c1 => ?_) (fun c1 => ?_)
  · have c1 : s0 ≠ 0 := c1
    exact gx_to_pick [0] (h1 c1)
  · have c1 : s0 = 0 := by have h : ¬ (s0 ≠ 0) := c1; omega
    refine gx_blk (C := True) (npc := 91) (L' := [(0, .inr 86)]) (st' := [.inl 0]) (m' := m) [((90, .iconst 0, 1, 0, 0, 0, 0), (0, 0, 0))] (by decide +kernel) rfl trivial ?_
    exact gx_retb (by decide +kernel) (by omega) (h2 c1)

/-- readsCondition from 92 on -/
theorem gt184_92 {xs : List Int32} {w0 : sx_W} {d : Nat} {Q : gx_Q} {m : gx_M}
    (h1 : gx_to xs w0 d yp_m170 0 [(0, .inr 86)] [] m (fun r m' => gx_to xs w0 (d + 1) yp_m184 96 [(0, .inr 86)] (gx_rs r ++ []) m' Q)) : gx_to xs w0 (d + 1) yp_m184 92 [(0, .inr 86)] [] m Q := by
  refine gx_blk (C := True) (npc := 93) (L' := [(0, .inr 86)]) (st' := [.inr 86]) (m' := m) [((92, .aload_n 0, 1, 0, 0, 0, 0), (0, 0, 0))] (by decide +kernel) rfl trivial ?_
  exact gx_callv (E := (93, .invokevirtual 138, 3, 170, 0, 6054, 0)) (M' := yp_m170) (c := 86) [] [] rfl (by decide +kernel) rfl ⟨rfl, rfl⟩ rfl rfl (Nat.le_of_ble_eq_true rfl) (Nat.le_of_ble_eq_true rfl) (by decide +kernel) (gx_to_mono h1 (fun r m' h' => gx_to_pick [0] h'))

/-- readsCondition from 96 on -/
theorem gt184_96 {xs : List Int32} {w0 : sx_W} {d : Nat} {Q : gx_Q} {m : gx_M} {s0 : Int}
    (h1 : (s0 ≠ 41) → gx_to xs w0 d yp_m170 0 [(0, .inr 86)] [] m (fun r m' => gx_to xs w0 (d + 1) yp_m184 156 [(0, .inr 86)] (gx_rs r ++ []) m' Q))
    (h2 : (s0 = 41) → gx_to xs w0 d yp_m187 0 [(0, .inr 86), (1, .inl 1)] [] m (fun r m' => gx_to xs w0 (d + 1) yp_m184 106 [(0, .inr 86)] (gx_rs r ++ []) m' Q)) : gx_to xs w0 (d + 1) yp_m184 96 [(0, .inr 86)] [.inl s0] m Q := by
  refine gx_blk (C := True) (npc := 98) (L' := [(0, .inr 86)]) (st' := [.inl 41, .inl s0]) (m' := m) [((96, .bipush 41, 2, 0, 0, 0, 0), (0, 0, 0))] (by decide +kernel) rfl trivial ?_
  refine gx_cmp .ne 152 (by decide +kernel) (fun c1 => ?_) (fun c1 => ?_)
  · have c1 : s0 ≠ 41 := c1
    refine gx_blk (C := True) (npc := 153) (L' := [(0, .inr 86)]) (st' := [.inr 86]) (m' := m) [((152, .aload_n 0, 1, 0, 0, 0, 0), (0, 0, 0))] (by decide +kernel) rfl trivial ?_
    exact gx_callv (E := (153, .invokevirtual 138, 3, 170, 0, 6054, 0)) (M' := yp_m170) (c := 86) [] [] rfl (by decide +kernel) rfl ⟨rfl, rfl⟩ rfl rfl (Nat.le_of_ble_eq_true rfl) (Nat.le_of_ble_eq_true rfl) (by decide +kernel) (gx_to_mono (h1 c1) (fun r m' h' => gx_to_pick [0] h'))
  · have c1 : s0 = 41 := by have h : ¬ (s0 ≠ 41) := c1; omega
    refine gx_blk (C := True) (npc := 103) (L' := [(0, .inr 86)]) (st' := [.inl 1, .inr 86]) (m' := m) [((101, .aload_n 0, 1, 0, 0, 0, 0), (0, 0, 0)), ((102, .iconst 1, 1, 0, 0, 0, 0), (0, 0, 0))] (by decide +kernel) rfl trivial ?_
    exact gx_callv (E := (103, .invokevirtual 204, 3, 187, 0, 6120, 0)) (M' := yp_m187) (c := 86) [.inl 1] [] rfl (by decide +kernel) rfl ⟨rfl, rfl⟩ rfl rfl (Nat.le_of_ble_eq_true rfl) (Nat.le_of_ble_eq_true rfl) (by decide +kernel) (gx_to_mono (h2 c1) (fun r m' h' => gx_to_pick [0] h'))

/-- readsCondition from 106 on -/
theorem gt184_106 {xs : List Int32} {w0 : sx_W} {d : Nat} {Q : gx_Q} {m : gx_M} (hI : gx_I m) (g0 : 0 ≤ (m 86 11) ∧ (m 86 11) ≤ 250)
    (h1 : (((m 86 11) - 1) ≠ 0) → gx_to xs w0 d yp_m186 0 [(0, .inr 86)] [] (gx_u (gx_u (gx_u m 86 11 ((m 86 11) - 1)) 86 9 (gx_w ((m 86 9) - 1))) 86 5 ((m 86 5) + 1)) (fun r m' => gx_to xs w0 (d + 1) yp_m184 149 [(0, .inr 86)] (gx_rs r ++ []) m' Q))
    (h2 : (((m 86 11) - 1) = 0) → Q (some 1) (gx_u (gx_u (gx_u m 86 11 ((m 86 11) - 1)) 86 9 (gx_w ((m 86 9) - 1))) 86 5 ((m 86 5) + 1))) : gx_to xs w0 (d + 1) yp_m184 106 [(0, .inr 86)] [] m Q := by
  have e1 : gx_w ((m 86 11) - 1) = (m 86 11) - 1 := gx_w_id (by omega) (by omega)
  have f2 := gx_I_n hI 86 5 0 260 (by decide +kernel)
  have e3 : gx_w ((m 86 5) + 1) = (m 86 5) + 1 := gx_w_id (by omega) (by omega)
  refine gx_blk (C := True) (npc := 140) (L' := [(0, .inr 86)]) (st' := [.inl (gx_w ((m 86 11) - 1))]) (m' := (gx_u (gx_u (gx_u m 86 11 (gx_w ((m 86 11) - 1))) 86 9 (gx_w ((m 86 9) - 1))) 86 5 (gx_w ((m 86 5) + 1)))) [((106, .aload_n 0, 1, 0, 0, 0, 0), (0, 0, 0)), ((107, .aload_n 0, 1, 0, 0, 0, 0), (0, 0, 0)), ((108, .getfield 162, 3, 10, 11, 5124, 0), (0, 86, 0)), ((111, .iconst 1, 1, 0, 0, 0, 0), (0, 0, 0)), ((112, .isub, 1, 0, 0, 0, 0), (0, 0, 0)), ((113, .putfield 162, 3, 10, 11, 5124, 0), (0, 86, 0)), ((116, .aload_n 0, 1, 0, 0, 0, 0), (0, 0, 0)), ((117, .aload_n 0, 1, 0, 0, 0, 0), (0, 0, 0)), ((118, .getfield 159, 3, 10, 9, 5122, 0), (0, 86, 0)), ((121, .iconst 1, 1, 0, 0, 0, 0), (0, 0, 0)), ((122, .isub, 1, 0, 0, 0, 0), (0, 0, 0)), ((123, .putfield 159, 3, 10, 9, 5122, 0), (0, 86, 0)), ((126, .aload_n 0, 1, 0, 0, 0, 0), (0, 0, 0)), ((127, .aload_n 0, 1, 0, 0, 0, 0), (0, 0, 0)), ((128, .getfield 132, 3, 10, 5, 5118, 0), (0, 86, 0)), ((131, .iconst 1, 1, 0, 0, 0, 0), (0, 0, 0)), ((132, .iadd, 1, 0, 0, 0, 0), (0, 0, 0)), ((133, .putfield 132, 3, 10, 5, 5118, 0), (0, 86, 0)), ((136, .aload_n 0, 1, 0, 0, 0, 0), (0, 0, 0)), ((137, .getfield 162, 3, 10, 11, 5124, 0), (0, 86, 0))] (by decide +kernel) rfl trivial ?_
  rw [e1, e3]
  refine gx_if .ne 145 (by decide +kernel) (fun c1 => ?_) (fun c1 => ?_)
  · have c1 : ((m 86 11) - 1) ≠ 0 := c1
    refine gx_blk (C := True) (npc := 146) (L' := [(0, .inr 86)]) (st' := [.inr 86]) (m' := (gx_u (gx_u (gx_u m 86 11 ((m 86 11) - 1)) 86 9 (gx_w ((m 86 9) - 1))) 86 5 ((m 86 5) + 1))) [((145, .aload_n 0, 1, 0, 0, 0, 0), (0, 0, 0))] (by decide +kernel) rfl trivial ?_
    exact gx_callv (E := (146, .invokevirtual 198, 3, 186, 0, 6116, 0)) (M' := yp_m186) (c := 86) [] [] rfl (by decide +kernel) rfl ⟨rfl, rfl⟩ rfl rfl (Nat.le_of_ble_eq_true rfl) (Nat.le_of_ble_eq_true rfl) (by decide +kernel) (gx_to_mono (h1 c1) (fun r m' h' => gx_to_pick [0] h'))
  · have c1 : ((m 86 11) - 1) = 0 := by have h : ¬ (((m 86 11) - 1) ≠ 0) := c1; omega
    refine gx_blk (C := True) (npc := 144) (L' := [(0, .inr 86)]) (st' := [.inl 1]) (m' := (gx_u (gx_u (gx_u m 86 11 ((m 86 11) - 1)) 86 9 (gx_w ((m 86 9) - 1))) 86 5 ((m 86 5) + 1))) [((143, .iconst 1, 1, 0, 0, 0, 0), (0, 0, 0))] (by decide +kernel) rfl trivial ?_
    exact gx_retb (by decide +kernel) (by omega) (h2 c1)

/-- readsCondition from 149 on -/
theorem gt184_149 {xs : List Int32} {w0 : sx_W} {d : Nat} {Q : gx_Q} {m : gx_M}
    (h1 : gx_to xs w0 d yp_m184 92 [(0, .inr 86)] [] m Q) : gx_to xs w0 d yp_m184 149 [(0, .inr 86)] [] m Q := by
  refine gx_blk (C := True) (npc := 92) (L' := [(0, .inr 86)]) (st' := []) (m' := m) [((149, .goto (-57), 3, 0, 0, 0, 0), (0, 0, 0))] (by decide +kernel) rfl trivial ?_
  exact gx_to_pick [0] h1

/-- readsCondition from 156 on -/
theorem gt184_156 {xs : List Int32} {w0 : sx_W} {d : Nat} {Q : gx_Q} {m : gx_M} {s0 : Int}
    (h1 : (s0 = 38) → gx_to xs w0 d yp_m170 0 [(0, .inr 86)] [] m (fun r m' => gx_to xs w0 (d + 1) yp_m184 185 [(0, .inr 86)] (gx_rs r ++ [.inr 86]) m' Q))
    (h2 : (s0 ≠ 38) → gx_to xs w0 d yp_m170 0 [(0, .inr 86)] [] m (fun r m' => gx_to xs w0 (d + 1) yp_m184 165 [(0, .inr 86)] (gx_rs r ++ []) m' Q)) : gx_to xs w0 (d + 1) yp_m184 156 [(0, .inr 86)] [.inl s0] m Q := by
  refine gx_blk (C := True) (npc := 158) (L' := [(0, .inr 86)]) (st' := [.inl 38, .inl s0]) (m' := m) [((156, .bipush 38, 2, 0, 0, 0, 0), (0, 0, 0))] (by decide +kernel) rfl trivial ?_
  refine gx_cmp .eq 180 (by decide +kernel) (fun c1 => ?_) (fun c1 => ?_)
  · have c1 : s0 = 38 := c1
    refine gx_blk (C := True) (npc := 182) (L' := [(0, .inr 86)]) (st' := [.inr 86, .inr 86]) (m' := m) [((180, .aload_n 0, 1, 0, 0, 0, 0), (0, 0, 0)), ((181, .aload_n 0, 1, 0, 0, 0, 0), (0, 0, 0))] (by decide +kernel) rfl trivial ?_
    exact gx_callv (E := (182, .invokevirtual 138, 3, 170, 0, 6054, 0)) (M' := yp_m170) (c := 86) [] [.inr 86] rfl (by decide +kernel) rfl ⟨rfl, rfl⟩ rfl rfl (Nat.le_of_ble_eq_true rfl) (Nat.le_of_ble_eq_true rfl) (by decide +kernel) (gx_to_mono (h1 c1) (fun r m' h' => gx_to_pick [0] h'))
  · have c1 : s0 ≠ 38 := c1
    refine gx_blk (C := True) (npc := 162) (L' := [(0, .inr 86)]) (st' := [.inr 86]) (m' := m) [((161, .aload_n 0, 1, 0, 0, 0, 0), (0, 0, 0))] (by decide +kernel) rfl trivial ?_
    exact gx_callv (E := (162, .invokevirtual 138, 3, 170, 0, 6054, 0)) (M' := yp_m170) (c := 86) [] [] rfl (by decide +kernel) rfl ⟨rfl, rfl⟩ rfl rfl (Nat.le_of_ble_eq_true rfl) (Nat.le_of_ble_eq_true rfl) (by decide +kernel) (gx_to_mono (h2 c1) (fun r m' h' => gx_to_pick [0] h'))

/-- readsCondition from 165 on -/
theorem gt184_165 {xs : List Int32} {w0 : sx_W} {d : Nat} {Q : gx_Q} {m : gx_M} {s0 : Int} (hI : gx_I m)
    (h1 : (s0 = 124) → gx_to xs w0 d yp_m170 0 [(0, .inr 86)] [] m (fun r m' => gx_to xs w0 (d + 1) yp_m184 185 [(0, .inr 86)] (gx_rs r ++ [.inr 86]) m' Q))
    (h2 : (s0 ≠ 124) → gx_to xs w0 d yp_m172 0 [(0, .inr 86), (1, .inl 1), (2, .inl (m 86 5))] [] m (fun r m' => gx_to xs w0 (d + 1) yp_m184 179 [] (gx_rs r ++ []) m' Q)) : gx_to xs w0 (d + 1) yp_m184 165 [(0, .inr 86)] [.inl s0] m Q := by
  refine gx_blk (C := True) (npc := 167) (L' := [(0, .inr 86)]) (st' := [.inl 124, .inl s0]) (m' := m) [((165, .bipush 124, 2, 0, 0, 0, 0), (0, 0, 0))] (by decide +kernel) rfl trivial ?_
  refine gx_cmp .eq 180 (by decide +kernel) (fun c1 => ?_) (fun c1 => ?_)
  · have c1 : s0 = 124 := c1
    refine gx_blk (C := True) (npc := 182) (L' := [(0, .inr 86)]) (st' := [.inr 86, .inr 86]) (m' := m) [((180, .aload_n 0, 1, 0, 0, 0, 0), (0, 0, 0)), ((181, .aload_n 0, 1, 0, 0, 0, 0), (0, 0, 0))] (by decide +kernel) rfl trivial ?_
    exact gx_callv (E := (182, .invokevirtual 138, 3, 170, 0, 6054, 0)) (M' := yp_m170) (c := 86) [] [.inr 86] rfl (by decide +kernel) rfl ⟨rfl, rfl⟩ rfl rfl (Nat.le_of_ble_eq_true rfl) (Nat.le_of_ble_eq_true rfl) (by decide +kernel) (gx_to_mono (h1 c1) (fun r m' h' => gx_to_pick [0] h'))
  · have c1 : s0 ≠ 124 := c1
    have f1 := gx_I_n hI 86 5 0 260 (by decide +kernel)
    refine gx_blk (C := True) (npc := 176) (L' := [(0, .inr 86)]) (st' := [.inl (m 86 5), .inl 1, .inr 86]) (m' := m) [((170, .aload_n 0, 1, 0, 0, 0, 0), (0, 0, 0)), ((171, .iconst 1, 1, 0, 0, 0, 0), (0, 0, 0)), ((172, .aload_n 0, 1, 0, 0, 0, 0), (0, 0, 0)), ((173, .getfield 132, 3, 10, 5, 5118, 0), (0, 86, 0))] (by decide +kernel) rfl trivial ?_
    exact gx_callv (E := (176, .invokevirtual 145, 3, 172, 0, 6061, 0)) (M' := yp_m172) (c := 86) [.inl 1, .inl (m 86 5)] [] rfl (by decide +kernel) rfl ⟨rfl, rfl⟩ rfl rfl (Nat.le_of_ble_eq_true rfl) (Nat.le_of_ble_eq_true rfl) (by decide +kernel) (gx_to_mono (h2 c1) (fun r m' h' => gx_to_pick [] h'))

/-- readsCondition from 179 on -/
theorem gt184_179 {xs : List Int32} {w0 : sx_W} {d : Nat} {Q : gx_Q} {m : gx_M} {s0 : Int}
    (k1 : s0 = 0 ∨ s0 = 1)
    (h1 : Q (some s0) m) : gx_to xs w0 d yp_m184 179 [] [.inl s0] m Q := by
  exact gx_retb (by decide +kernel) (k1) h1

/-- readsCondition from 185 on -/
theorem gt184_185 {xs : List Int32} {w0 : sx_W} {d : Nat} {Q : gx_Q} {m : gx_M} {s1 : Int}
    (h1 : (s1 ≠ 124) → gx_to xs w0 d yp_m187 0 [(0, .inr 86), (1, .inl 0)] [] m (fun r m' => gx_to xs w0 (d + 1) yp_m184 198 [(0, .inr 86)] (gx_rs r ++ []) m' Q))
    (h2 : (s1 = 124) → gx_to xs w0 d yp_m187 0 [(0, .inr 86), (1, .inl 1)] [] m (fun r m' => gx_to xs w0 (d + 1) yp_m184 198 [(0, .inr 86)] (gx_rs r ++ []) m' Q)) : gx_to xs w0 (d + 1) yp_m184 185 [(0, .inr 86)] [.inl s1, .inr 86] m Q := by
  refine gx_blk (C := True) (npc := 187) (L' := [(0, .inr 86)]) (st' := [.inl 124, .inl s1, .inr 86]) (m' := m) [((185, .bipush 124, 2, 0, 0, 0, 0), (0, 0, 0))] (by decide +kernel) rfl trivial ?_
  refine gx_cmp .ne 194 (by decide +kernel) (fun c1 => ?_) (fun c1 => ?_)
  · have c1 : s1 ≠ 124 := c1
    refine gx_blk (C := True) (npc := 195) (L' := [(0, .inr 86)]) (st' := [.inl 0, .inr 86]) (m' := m) [((194, .iconst 0, 1, 0, 0, 0, 0), (0, 0, 0))] (by decide +kernel) rfl trivial ?_
    exact gx_callv (E := (195, .invokevirtual 204, 3, 187, 0, 6120, 0)) (M' := yp_m187) (c := 86) [.inl 0] [] rfl (by decide +kernel) rfl ⟨rfl, rfl⟩ rfl rfl (Nat.le_of_ble_eq_true rfl) (Nat.le_of_ble_eq_true rfl) (by decide +kernel) (gx_to_mono (h1 c1) (fun r m' h' => gx_to_pick [0] h'))
  · have c1 : s1 = 124 := by have h : ¬ (s1 ≠ 124) := c1; omega
    refine gx_blk (C := True) (npc := 195) (L' := [(0, .inr 86)]) (st' := [.inl 1, .inr 86]) (m' := m) [((190, .iconst 1, 1, 0, 0, 0, 0), (0, 0, 0)), ((191, .goto 4, 3, 0, 0, 0, 0), (0, 0, 0))] (by decide +kernel) rfl trivial ?_
    exact gx_callv (E := (195, .invokevirtual 204, 3, 187, 0, 6120, 0)) (M' := yp_m187) (c := 86) [.inl 1] [] rfl (by decide +kernel) rfl ⟨rfl, rfl⟩ rfl rfl (Nat.le_of_ble_eq_true rfl) (Nat.le_of_ble_eq_true rfl) (by decide +kernel) (gx_to_mono (h2 c1) (fun r m' h' => gx_to_pick [0] h'))

/-- readsCondition from 198 on -/
theorem gt184_198 {xs : List Int32} {w0 : sx_W} {d : Nat} {Q : gx_Q} {m : gx_M}
    (h1 : gx_to xs w0 d yp_m170 0 [(0, .inr 86)] [] m (fun r m' => gx_to xs w0 (d + 1) yp_m184 203 [(0, .inr 86)] (gx_rs r ++ [.inr 86]) m' Q)) : gx_to xs w0 (d + 1) yp_m184 198 [(0, .inr 86)] [] m Q := by
  refine gx_blk (C := True) (npc := 200) (L' := [(0, .inr 86)]) (st' := [.inr 86, .inr 86]) (m' := m) [((198, .aload_n 0, 1, 0, 0, 0, 0), (0, 0, 0)), ((199, .aload_n 0, 1, 0, 0, 0, 0), (0, 0, 0))] (by decide +kernel) rfl trivial ?_
  exact gx_callv (E := (200, .invokevirtual 138, 3, 170, 0, 6054, 0)) (M' := yp_m170) (c := 86) [] [.inr 86] rfl (by decide +kernel) rfl ⟨rfl, rfl⟩ rfl rfl (Nat.le_of_ble_eq_true rfl) (Nat.le_of_ble_eq_true rfl) (by decide +kernel) (gx_to_mono h1 (fun r m' h' => gx_to_pick [0] h'))

/-- readsCondition from 203 on -/
theorem gt184_203 {xs : List Int32} {w0 : sx_W} {d : Nat} {Q : gx_Q} {m : gx_M} {s1 : Int}
    (h1 : (s1 ≠ 38) → gx_to xs w0 d yp_m188 0 [(0, .inr 86), (1, .inl 12)] [] m (fun r m' => gx_to xs w0 (d + 1) yp_m184 218 [(0, .inr 86)] (gx_rs r ++ []) m' Q))
    (h2 : (s1 = 38) → gx_to xs w0 d yp_m188 0 [(0, .inr 86), (1, .inl 11)] [] m (fun r m' => gx_to xs w0 (d + 1) yp_m184 218 [(0, .inr 86)] (gx_rs r ++ []) m' Q)) : gx_to xs w0 (d + 1) yp_m184 203 [(0, .inr 86)] [.inl s1, .inr 86] m Q := by
  refine gx_blk (C := True) (npc := 205) (L' := [(0, .inr 86)]) (st' := [.inl 38, .inl s1, .inr 86]) (m' := m) [((203, .bipush 38, 2, 0, 0, 0, 0), (0, 0, 0))] (by decide +kernel) rfl trivial ?_
  refine gx_cmp .ne 213 (by decide +kernel) (fun c1 => ?_) (fun c1 => ?_)
  · have c1 : s1 ≠ 38 := c1
    refine gx_blk (C := True) (npc := 215) (L' := [(0, .inr 86)]) (st' := [.inl 12, .inr 86]) (m' := m) [((213, .bipush 12, 2, 0, 0, 0, 0), (0, 0, 0))] (by decide +kernel) rfl trivial ?_
    exact gx_callv (E := (215, .invokevirtual 207, 3, 188, 0, 6124, 0)) (M' := yp_m188) (c := 86) [.inl 12] [] rfl (by decide +kernel) rfl ⟨rfl, rfl⟩ rfl rfl (Nat.le_of_ble_eq_true rfl) (Nat.le_of_ble_eq_true rfl) (by decide +kernel) (gx_to_mono (h1 c1) (fun r m' h' => gx_to_pick [0] h'))
  · have c1 : s1 = 38 := by have h : ¬ (s1 ≠ 38) := c1; omega
    refine gx_blk (C := True) (npc := 215) (L' := [(0, .inr 86)]) (st' := [.inl 11, .inr 86]) (m' := m) [((208, .bipush 11, 2, 0, 0, 0, 0), (0, 0, 0)), ((210, .goto 5, 3, 0, 0, 0, 0), (0, 0, 0))] (by decide +kernel) rfl trivial ?_
    exact gx_callv (E := (215, .invokevirtual 207, 3, 188, 0, 6124, 0)) (M' := yp_m188) (c := 86) [.inl 11] [] rfl (by decide +kernel) rfl ⟨rfl, rfl⟩ rfl rfl (Nat.le_of_ble_eq_true rfl) (Nat.le_of_ble_eq_true rfl) (by decide +kernel) (gx_to_mono (h2 c1) (fun r m' h' => gx_to_pick [0] h'))

/-- readsCondition from 218 on -/
theorem gt184_218 {xs : List Int32} {w0 : sx_W} {d : Nat} {Q : gx_Q} {m : gx_M}
    (h1 : gx_to xs w0 d yp_m184 40 [(0, .inr 86)] [] m Q) : gx_to xs w0 d yp_m184 218 [(0, .inr 86)] [] m Q := by
  refine gx_blk (C := True) (npc := 40) (L' := [(0, .inr 86)]) (st' := []) (m' := m) [((218, .goto (-178), 3, 0, 0, 0, 0), (0, 0, 0))] (by decide +kernel) rfl trivial ?_
  exact gx_to_pick [0] h1

/-- readsClause from 0 on -/
theorem gt169_0 {xs : List Int32} {w0 : sx_W} {d : Nat} {Q : gx_Q} {m : gx_M}
    (h1 : gx_to xs w0 d yp_m170 0 [(0, .inr 86)] [] m (fun r m' => gx_to xs w0 (d + 1) yp_m169 4 [(0, .inr 86)] (gx_rs r ++ []) m' Q)) : gx_to xs w0 (d + 1) yp_m169 0 [(0, .inr 86)] [] m Q := by
  refine gx_blk (C := True) (npc := 1) (L' := [(0, .inr 86)]) (st' := [.inr 86]) (m' := m) [((0, .aload_n 0, 1, 0, 0, 0, 0), (0, 0, 0))] (by decide +kernel) rfl trivial ?_
  exact gx_callv (E := (1, .invokevirtual 138, 3, 170, 0, 6054, 0)) (M' := yp_m170) (c := 86) [] [] rfl (by decide +kernel) rfl ⟨rfl, rfl⟩ rfl rfl (Nat.le_of_ble_eq_true rfl) (Nat.le_of_ble_eq_true rfl) (by decide +kernel) (gx_to_mono h1 (fun r m' h' => gx_to_pick [0] h'))

/-- readsClause from 4 on -/
theorem gt169_4 {xs : List Int32} {w0 : sx_W} {d : Nat} {Q : gx_Q} {m : gx_M} {s0 : Int}
    (h1 : gx_to xs w0 d yp_m171 0 [(0, .inl s0)] [] m (fun r m' => gx_to xs w0 (d + 1) yp_m169 9 [(0, .inr 86), (1, .inl s0)] (gx_rs r ++ []) m' Q)) : gx_to xs w0 (d + 1) yp_m169 4 [(0, .inr 86)] [.inl s0] m Q := by
  refine gx_blk (C := True) (npc := 6) (L' := [(0, .inr 86), (1, .inl s0)]) (st' := [.inl s0]) (m' := m) [((4, .istore_n 1, 1, 0, 0, 0, 0), (0, 0, 0)), ((5, .iload_n 1, 1, 0, 0, 0, 0), (0, 0, 0))] (by decide +kernel) rfl trivial ?_
  exact gx_calls (E := (6, .invokestatic 210, 3, 171, 0, 6058, 0)) (M' := yp_m171) [.inl s0] [] rfl (by decide +kernel) rfl ⟨rfl, rfl⟩ rfl rfl (Nat.le_of_ble_eq_true rfl) (Nat.le_of_ble_eq_true rfl) rfl (gx_to_mono h1 (fun r m' h' => gx_to_pick [0, 1] h'))

/-- readsClause from 9 on -/
theorem gt169_9 {xs : List Int32} {w0 : sx_W} {d : Nat} {Q : gx_Q} {m : gx_M} {x1 s0 : Int} (hI : gx_I m) (g0 : 0 ≤ (m 86 12) ∧ (m 86 12) ≤ 16)
    (h1 : (s0 ≠ 0) → ((m 86 12) ≠ 16) → (x1 = 110) → gx_to xs w0 d yp_m184 0 [(0, .inr 86)] [] (gx_u (gx_u (gx_u (gx_u (gx_u (gx_u m 93 (m 86 12).toNat x1) 86 5 ((m 86 5) + 1)) 94 (m 86 12).toNat (m 86 10)) 86 9 0) 86 11 0) 95 (m 86 12).toNat (m 86 10)) (fun r m' => gx_to xs w0 (d + 1) yp_m169 116 [(0, .inr 86)] (gx_rs r ++ []) m' Q))
    (h2 : (s0 ≠ 0) → ((m 86 12) ≠ 16) → (x1 ≠ 110) → gx_to xs w0 d yp_m173 0 [(0, .inr 86)] [] (gx_u (gx_u (gx_u (gx_u (gx_u m 93 (m 86 12).toNat x1) 86 5 ((m 86 5) + 1)) 94 (m 86 12).toNat (m 86 10)) 86 9 0) 86 11 0) (fun r m' => gx_to xs w0 (d + 1) yp_m169 94 [(0, .inr 86)] (gx_rs r ++ []) m' Q))
    (h3 : (s0 ≠ 0) → ((m 86 12) = 16) → gx_to xs w0 d yp_m172 0 [(0, .inr 86), (1, .inl 4), (2, .inl (m 86 5))] [] m (fun r m' => gx_to xs w0 (d + 1) yp_m169 40 [] (gx_rs r ++ []) m' Q))
    (h4 : (s0 = 0) → gx_to xs w0 d yp_m172 0 [(0, .inr 86), (1, .inl 1), (2, .inl (m 86 5))] [] m (fun r m' => gx_to xs w0 (d + 1) yp_m169 21 [] (gx_rs r ++ []) m' Q)) : gx_to xs w0 (d + 1) yp_m169 9 [(0, .inr 86), (1, .inl x1)] [.inl s0] m Q := by
  refine gx_if .ne 22 (by decide +kernel) (fun c1 => ?_) (fun c1 => ?_)
  · have c1 : s0 ≠ 0 := c1
    refine gx_blk (C := True) (npc := 28) (L' := [(0, .inr 86), (1, .inl x1)]) (st' := [.inl 16, .inl (m 86 12)]) (m' := m) [((22, .aload_n 0, 1, 0, 0, 0, 0), (0, 0, 0)), ((23, .getfield 213, 3, 10, 12, 5125, 0), (0, 86, 0)), ((26, .bipush 16, 2, 0, 0, 0, 0), (0, 0, 0))] (by decide +kernel) rfl trivial ?_
    refine gx_cmp .ne 41 (by decide +kernel) (fun c2 => ?_) (fun c2 => ?_)
    · have c2 : (m 86 12) ≠ 16 := c2
      have f1 := gx_I_n hI 86 5 0 260 (by decide +kernel)
      have e2 : gx_w ((m 86 5) + 1) = (m 86 5) + 1 := gx_w_id (by omega) (by omega)
      refine gx_blk (C := (((True ∧ (0 ≤ (m 86 12) ∧ (m 86 12) < 16))) ∧ (0 ≤ (m 86 12) ∧ (m 86 12) < 16))) (npc := 87) (L' := [(0, .inr 86), (1, .inl x1)]) (st' := [.inl 110, .inl x1]) (m' := (gx_u (gx_u (gx_u (gx_u (gx_u m 93 (m 86 12).toNat x1) 86 5 (gx_w ((m 86 5) + 1))) 94 (m 86 12).toNat (m 86 10)) 86 9 0) 86 11 0)) [((41, .aload_n 0, 1, 0, 0, 0, 0), (0, 0, 0)), ((42, .getfield 29, 3, 10, 16, 5129, 0), (1, 86, 93)), ((45, .aload_n 0, 1, 0, 0, 0, 0), (0, 0, 0)), ((46, .getfield 213, 3, 10, 12, 5125, 0), (0, 86, 0)), ((49, .iload_n 1, 1, 0, 0, 0, 0), (0, 0, 0)), ((50, .iastore, 1, 0, 0, 0, 0), (0, 93, 16)), ((51, .aload_n 0, 1, 0, 0, 0, 0), (0, 0, 0)), ((52, .aload_n 0, 1, 0, 0, 0, 0), (0, 0, 0)), ((53, .getfield 132, 3, 10, 5, 5118, 0), (0, 86, 0)), ((56, .iconst 1, 1, 0, 0, 0, 0), (0, 0, 0)), ((57, .iadd, 1, 0, 0, 0, 0), (0, 0, 0)), ((58, .putfield 132, 3, 10, 5, 5118, 0), (0, 86, 0)), ((61, .aload_n 0, 1, 0, 0, 0, 0), (0, 0, 0)), ((62, .getfield 32, 3, 10, 17, 5130, 0), (1, 86, 94)), ((65, .aload_n 0, 1, 0, 0, 0, 0), (0, 0, 0)), ((66, .getfield 213, 3, 10, 12, 5125, 0), (0, 86, 0)), ((69, .aload_n 0, 1, 0, 0, 0, 0), (0, 0, 0)), ((70, .getfield 155, 3, 10, 10, 5123, 0), (0, 86, 0)), ((73, .iastore, 1, 0, 0, 0, 0), (0, 94, 16)), ((74, .aload_n 0, 1, 0, 0, 0, 0), (0, 0, 0)), ((75, .iconst 0, 1, 0, 0, 0, 0), (0, 0, 0)), ((76, .putfield 159, 3, 10, 9, 5122, 0), (0, 86, 0)), ((79, .aload_n 0, 1, 0, 0, 0, 0), (0, 0, 0)), ((80, .iconst 0, 1, 0, 0, 0, 0), (0, 0, 0)), ((81, .putfield 162, 3, 10, 11, 5124, 0), (0, 86, 0)), ((84, .iload_n 1, 1, 0, 0, 0, 0), (0, 0, 0)), ((85, .bipush 110, 2, 0, 0, 0, 0), (0, 0, 0))] (by decide +kernel) rfl ⟨⟨trivial, (by omega)⟩, (by omega)⟩ ?_
      rw [e2]
      refine gx_cmp .eq 99 (by decide +kernel) (fun c3 => ?_) (fun c3 => ?_)
      · have c3 : x1 = 110 := c3
        refine gx_blk (C := (True ∧ (0 ≤ (m 86 12) ∧ (m 86 12) < 16))) (npc := 113) (L' := [(0, .inr 86), (1, .inl x1)]) (st' := [.inr 86]) (m' := (gx_u (gx_u (gx_u (gx_u (gx_u (gx_u m 93 (m 86 12).toNat x1) 86 5 ((m 86 5) + 1)) 94 (m 86 12).toNat (m 86 10)) 86 9 0) 86 11 0) 95 (m 86 12).toNat (m 86 10))) [((99, .aload_n 0, 1, 0, 0, 0, 0), (0, 0, 0)), ((100, .getfield 35, 3, 10, 18, 5131, 0), (1, 86, 95)), ((103, .aload_n 0, 1, 0, 0, 0, 0), (0, 0, 0)), ((104, .getfield 213, 3, 10, 12, 5125, 0), (0, 86, 0)), ((107, .aload_n 0, 1, 0, 0, 0, 0), (0, 0, 0)), ((108, .getfield 155, 3, 10, 10, 5123, 0), (0, 86, 0)), ((111, .iastore, 1, 0, 0, 0, 0), (0, 95, 16)), ((112, .aload_n 0, 1, 0, 0, 0, 0), (0, 0, 0))] (by decide +kernel) rfl ⟨trivial, (by omega)⟩ ?_
        exact gx_callv (E := (113, .invokevirtual 216, 3, 184, 0, 6108, 0)) (M' := yp_m184) (c := 86) [] [] rfl (by decide +kernel) rfl ⟨rfl, rfl⟩ rfl rfl (Nat.le_of_ble_eq_true rfl) (Nat.le_of_ble_eq_true rfl) (by decide +kernel) (gx_to_mono (h1 c1 c2 c3) (fun r m' h' => gx_to_pick [0] h'))
      · have c3 : x1 ≠ 110 := c3
        refine gx_blk (C := True) (npc := 91) (L' := [(0, .inr 86), (1, .inl x1)]) (st' := [.inr 86]) (m' := (gx_u (gx_u (gx_u (gx_u (gx_u m 93 (m 86 12).toNat x1) 86 5 ((m 86 5) + 1)) 94 (m 86 12).toNat (m 86 10)) 86 9 0) 86 11 0)) [((90, .aload_n 0, 1, 0, 0, 0, 0), (0, 0, 0))] (by decide +kernel) rfl trivial ?_
        exact gx_callv (E := (91, .invokevirtual 195, 3, 173, 0, 6065, 0)) (M' := yp_m173) (c := 86) [] [] rfl (by decide +kernel) rfl ⟨rfl, rfl⟩ rfl rfl (Nat.le_of_ble_eq_true rfl) (Nat.le_of_ble_eq_true rfl) (by decide +kernel) (gx_to_mono (h2 c1 c2 c3) (fun r m' h' => gx_to_pick [0] h'))
    · have c2 : (m 86 12) = 16 := by have h : ¬ ((m 86 12) ≠ 16) := c2; omega
      have f3 := gx_I_n hI 86 5 0 260 (by decide +kernel)
      refine gx_blk (C := True) (npc := 37) (L' := [(0, .inr 86), (1, .inl x1)]) (st' := [.inl (m 86 5), .inl 4, .inr 86]) (m' := m) [((31, .aload_n 0, 1, 0, 0, 0, 0), (0, 0, 0)), ((32, .iconst 4, 1, 0, 0, 0, 0), (0, 0, 0)), ((33, .aload_n 0, 1, 0, 0, 0, 0), (0, 0, 0)), ((34, .getfield 132, 3, 10, 5, 5118, 0), (0, 86, 0))] (by decide +kernel) rfl trivial ?_
      exact gx_callv (E := (37, .invokevirtual 145, 3, 172, 0, 6061, 0)) (M' := yp_m172) (c := 86) [.inl 4, .inl (m 86 5)] [] rfl (by decide +kernel) rfl ⟨rfl, rfl⟩ rfl rfl (Nat.le_of_ble_eq_true rfl) (Nat.le_of_ble_eq_true rfl) (by decide +kernel) (gx_to_mono (h3 c1 c2) (fun r m' h' => gx_to_pick [] h'))
  · have c1 : s0 = 0 := by have h : ¬ (s0 ≠ 0) := c1; omega
    have f4 := gx_I_n hI 86 5 0 260 (by decide +kernel)
    refine gx_blk (C := True) (npc := 18) (L' := [(0, .inr 86), (1, .inl x1)]) (st' := [.inl (m 86 5), .inl 1, .inr 86]) (m' := m) [((12, .aload_n 0, 1, 0, 0, 0, 0), (0, 0, 0)), ((13, .iconst 1, 1, 0, 0, 0, 0), (0, 0, 0)), ((14, .aload_n 0, 1, 0, 0, 0, 0), (0, 0, 0)), ((15, .getfield 132, 3, 10, 5, 5118, 0), (0, 86, 0))] (by decide +kernel) rfl trivial ?_
    exact gx_callv (E := (18, .invokevirtual 145, 3, 172, 0, 6061, 0)) (M' := yp_m172) (c := 86) [.inl 1, .inl (m 86 5)] [] rfl (by decide +kernel) rfl ⟨rfl, rfl⟩ rfl rfl (Nat.le_of_ble_eq_true rfl) (Nat.le_of_ble_eq_true rfl) (by decide +kernel) (gx_to_mono (h4 c1) (fun r m' h' => gx_to_pick [] h'))

/-- readsClause from 21 on -/
theorem gt169_21 {xs : List Int32} {w0 : sx_W} {d : Nat} {Q : gx_Q} {m : gx_M} {s0 : Int}
    (k1 : s0 = 0 ∨ s0 = 1)
    (h1 : Q (some s0) m) : gx_to xs w0 d yp_m169 21 [] [.inl s0] m Q := by
  exact gx_retb (by decide +kernel) (k1) h1

/-- readsClause from 40 on -/
theorem gt169_40 {xs : List Int32} {w0 : sx_W} {d : Nat} {Q : gx_Q} {m : gx_M} {s0 : Int}
    (k1 : s0 = 0 ∨ s0 = 1)
    (h1 : Q (some s0) m) : gx_to xs w0 d yp_m169 40 [] [.inl s0] m Q := by
  exact gx_retb (by decide +kernel) (k1) h1

/-- readsClause from 94 on -/
theorem gt169_94 {xs : List Int32} {w0 : sx_W} {d : Nat} {Q : gx_Q} {m : gx_M} {s0 : Int} (g0 : 0 ≤ (m 86 12) ∧ (m 86 12) ≤ 16)
    (k1 : (s0 ≠ 0) → 0 ≤ (m 86 12) ∧ (m 86 12) < 16)
    (h1 : (s0 ≠ 0) → gx_to xs w0 d yp_m184 0 [(0, .inr 86)] [] (gx_u m 95 (m 86 12).toNat (m 86 10)) (fun r m' => gx_to xs w0 (d + 1) yp_m169 116 [(0, .inr 86)] (gx_rs r ++ []) m' Q))
    (h2 : (s0 = 0) → Q (some 0) m) : gx_to xs w0 (d + 1) yp_m169 94 [(0, .inr 86)] [.inl s0] m Q := by
  refine gx_if .ne 99 (by decide +kernel) (fun c1 => ?_) (fun c1 => ?_)
  · have c1 : s0 ≠ 0 := c1
    refine gx_blk (C := (True ∧ (0 ≤ (m 86 12) ∧ (m 86 12) < 16))) (npc := 113) (L' := [(0, .inr 86)]) (st' := [.inr 86]) (m' := (gx_u m 95 (m 86 12).toNat (m 86 10))) [((99, .aload_n 0, 1, 0, 0, 0, 0), (0, 0, 0)), ((100, .getfield 35, 3, 10, 18, 5131, 0), (1, 86, 95)), ((103, .aload_n 0, 1, 0, 0, 0, 0), (0, 0, 0)), ((104, .getfield 213, 3, 10, 12, 5125, 0), (0, 86, 0)), ((107, .aload_n 0, 1, 0, 0, 0, 0), (0, 0, 0)), ((108, .getfield 155, 3, 10, 10, 5123, 0), (0, 86, 0)), ((111, .iastore, 1, 0, 0, 0, 0), (0, 95, 16)), ((112, .aload_n 0, 1, 0, 0, 0, 0), (0, 0, 0))] (by decide +kernel) rfl ⟨trivial, (k1 c1)⟩ ?_
    exact gx_callv (E := (113, .invokevirtual 216, 3, 184, 0, 6108, 0)) (M' := yp_m184) (c := 86) [] [] rfl (by decide +kernel) rfl ⟨rfl, rfl⟩ rfl rfl (Nat.le_of_ble_eq_true rfl) (Nat.le_of_ble_eq_true rfl) (by decide +kernel) (gx_to_mono (h1 c1) (fun r m' h' => gx_to_pick [0] h'))
  · have c1 : s0 = 0 := by have h : ¬ (s0 ≠ 0) := c1; omega
    refine gx_blk (C := True) (npc := 98) (L' := [(0, .inr 86)]) (st' := [.inl 0]) (m' := m) [((97, .iconst 0, 1, 0, 0, 0, 0), (0, 0, 0))] (by decide +kernel) rfl trivial ?_
    exact gx_retb (by decide +kernel) (by omega) (h2 c1)

/-- readsClause from 116 on -/
theorem gt169_116 {xs : List Int32} {w0 : sx_W} {d : Nat} {Q : gx_Q} {m : gx_M} {s0 : Int} (g0 : 0 ≤ (m 86 12) ∧ (m 86 12) ≤ 16)
    (k1 : (s0 ≠ 0) → 0 ≤ (m 86 12) ∧ (m 86 12) < 16)
    (h1 : (s0 ≠ 0) → Q (some 1) (gx_u (gx_u m 96 (m 86 12).toNat (m 86 10)) 86 12 ((m 86 12) + 1)))
    (h2 : (s0 = 0) → Q (some 0) m) : gx_to xs w0 d yp_m169 116 [(0, .inr 86)] [.inl s0] m Q := by
  refine gx_if .ne 121 (by decide +kernel) (fun c1 => ?_) (fun c1 => ?_)
  · have c1 : s0 ≠ 0 := c1
    have e1 : gx_w ((m 86 12) + 1) = (m 86 12) + 1 := gx_w_id (by omega) (by omega)
    refine gx_blk (C := (True ∧ (0 ≤ (m 86 12) ∧ (m 86 12) < 16))) (npc := 145) (L' := [(0, .inr 86)]) (st' := [.inl 1]) (m' := (gx_u (gx_u m 96 (m 86 12).toNat (m 86 10)) 86 12 (gx_w ((m 86 12) + 1)))) [((121, .aload_n 0, 1, 0, 0, 0, 0), (0, 0, 0)), ((122, .getfield 38, 3, 10, 19, 5132, 0), (1, 86, 96)), ((125, .aload_n 0, 1, 0, 0, 0, 0), (0, 0, 0)), ((126, .getfield 213, 3, 10, 12, 5125, 0), (0, 86, 0)), ((129, .aload_n 0, 1, 0, 0, 0, 0), (0, 0, 0)), ((130, .getfield 155, 3, 10, 10, 5123, 0), (0, 86, 0)), ((133, .iastore, 1, 0, 0, 0, 0), (0, 96, 16)), ((134, .aload_n 0, 1, 0, 0, 0, 0), (0, 0, 0)), ((135, .aload_n 0, 1, 0, 0, 0, 0), (0, 0, 0)), ((136, .getfield 213, 3, 10, 12, 5125, 0), (0, 86, 0)), ((139, .iconst 1, 1, 0, 0, 0, 0), (0, 0, 0)), ((140, .iadd, 1, 0, 0, 0, 0), (0, 0, 0)), ((141, .putfield 213, 3, 10, 12, 5125, 0), (0, 86, 0)), ((144, .iconst 1, 1, 0, 0, 0, 0), (0, 0, 0))] (by decide +kernel) rfl ⟨trivial, (k1 c1)⟩ ?_
    rw [e1]
    exact gx_retb (by decide +kernel) (by omega) (h1 c1)
  · have c1 : s0 = 0 := by have h : ¬ (s0 ≠ 0) := c1; omega
    refine gx_blk (C := True) (npc := 120) (L' := [(0, .inr 86)]) (st' := [.inl 0]) (m' := m) [((119, .iconst 0, 1, 0, 0, 0, 0), (0, 0, 0))] (by decide +kernel) rfl trivial ?_
    exact gx_retb (by decide +kernel) (by omega) (h2 c1)

/-- law from 0 on -/
theorem gt168_0 {xs : List Int32} {w0 : sx_W} {d : Nat} {Q : gx_Q} {m : gx_M} {x1 : Int}
    (h1 : gx_to xs w0 d yp_m162 0 [(0, .inl x1), (1, .inl 1), (2, .inl 240)] [] m (fun r m' => gx_to xs w0 (d + 1) yp_m168 8 [(0, .inr 86), (1, .inl x1)] (gx_rs r ++ []) m' Q)) : gx_to xs w0 (d + 1) yp_m168 0 [(0, .inr 86), (1, .inl x1)] [] m Q := by
  refine gx_blk (C := True) (npc := 5) (L' := [(0, .inr 86), (1, .inl x1)]) (st' := [.inl 240, .inl 1, .inl x1]) (m' := m) [((0, .iload_n 1, 1, 0, 0, 0, 0), (0, 0, 0)), ((1, .iconst 1, 1, 0, 0, 0, 0), (0, 0, 0)), ((2, .sipush 240, 3, 0, 0, 0, 0), (0, 0, 0))] (by decide +kernel) rfl trivial ?_
  exact gx_calls (E := (5, .invokestatic 108, 3, 162, 0, 6023, 0)) (M' := yp_m162) [.inl x1, .inl 1, .inl 240] [] rfl (by decide +kernel) rfl ⟨rfl, rfl⟩ rfl rfl (Nat.le_of_ble_eq_true rfl) (Nat.le_of_ble_eq_true rfl) rfl (gx_to_mono h1 (fun r m' h' => gx_to_pick [0, 1] h'))

/-- law from 8 on -/
theorem gt168_8 {xs : List Int32} {w0 : sx_W} {d : Nat} {Q : gx_Q} {m : gx_M} {x1 s0 : Int} (hI : gx_I m)
    (h1 : (s0 = 0) → Q (some (-1)) m)
    (h2 : (s0 ≠ 0) → (x1 ≤ (m 86 4)) → gx_to xs w0 d yp_m169 0 [(0, .inr 86)] [] (gx_u (gx_u (gx_u (gx_u m 86 5 0) 86 6 x1) 86 10 0) 86 12 0) (fun r m' => gx_to xs w0 (d + 1) yp_m168 45 [(0, .inr 86)] (gx_rs r ++ []) m' Q))
    (h3 : (s0 ≠ 0) → ((m 86 4) < x1) → Q (some (-1)) m) : gx_to xs w0 (d + 1) yp_m168 8 [(0, .inr 86), (1, .inl x1)] [.inl s0] m Q := by
  refine gx_if .eq 19 (by decide +kernel) (fun c1 => ?_) (fun c1 => ?_)
  · have c1 : s0 = 0 := c1
    refine gx_blk (C := True) (npc := 20) (L' := [(0, .inr 86), (1, .inl x1)]) (st' := [.inl (-1)]) (m' := m) [((19, .iconst (-1), 1, 0, 0, 0, 0), (0, 0, 0))] (by decide +kernel) rfl trivial ?_
    exact gx_reti (by decide +kernel) (h1 c1)
  · have c1 : s0 ≠ 0 := c1
    have f1 := gx_I_n hI 86 4 0 260 (by decide +kernel)
    refine gx_blk (C := True) (npc := 16) (L' := [(0, .inr 86), (1, .inl x1)]) (st' := [.inl (m 86 4), .inl x1]) (m' := m) [((11, .iload_n 1, 1, 0, 0, 0, 0), (0, 0, 0)), ((12, .aload_n 0, 1, 0, 0, 0, 0), (0, 0, 0)), ((13, .getfield 124, 3, 10, 4, 5117, 0), (0, 86, 0))] (by decide +kernel) rfl trivial ?_
    refine gx_cmp .le 21 (by decide +kernel) (fun c2 => ?_) (fun c2 => ?_)
    · have c2 : x1 ≤ (m 86 4) := c2
      refine gx_blk (C := True) (npc := 42) (L' := [(0, .inr 86), (1, .inl x1)]) (st' := [.inr 86]) (m' := (gx_u (gx_u (gx_u (gx_u m 86 5 0) 86 6 x1) 86 10 0) 86 12 0)) [((21, .aload_n 0, 1, 0, 0, 0, 0), (0, 0, 0)), ((22, .iconst 0, 1, 0, 0, 0, 0), (0, 0, 0)), ((23, .putfield 132, 3, 10, 5, 5118, 0), (0, 86, 0)), ((26, .aload_n 0, 1, 0, 0, 0, 0), (0, 0, 0)), ((27, .iload_n 1, 1, 0, 0, 0, 0), (0, 0, 0)), ((28, .putfield 135, 3, 10, 6, 5119, 0), (0, 86, 0)), ((31, .aload_n 0, 1, 0, 0, 0, 0), (0, 0, 0)), ((32, .iconst 0, 1, 0, 0, 0, 0), (0, 0, 0)), ((33, .putfield 155, 3, 10, 10, 5123, 0), (0, 86, 0)), ((36, .aload_n 0, 1, 0, 0, 0, 0), (0, 0, 0)), ((37, .iconst 0, 1, 0, 0, 0, 0), (0, 0, 0)), ((38, .putfield 213, 3, 10, 12, 5125, 0), (0, 86, 0)), ((41, .aload_n 0, 1, 0, 0, 0, 0), (0, 0, 0))] (by decide +kernel) rfl trivial ?_
      exact gx_callv (E := (42, .invokevirtual 219, 3, 169, 0, 6050, 0)) (M' := yp_m169) (c := 86) [] [] rfl (by decide +kernel) rfl ⟨rfl, rfl⟩ rfl rfl (Nat.le_of_ble_eq_true rfl) (Nat.le_of_ble_eq_true rfl) (by decide +kernel) (gx_to_mono (h2 c1 c2) (fun r m' h' => gx_to_pick [0] h'))
    · have c2 : (m 86 4) < x1 := by have h : ¬ (x1 ≤ (m 86 4)) := c2; omega
      refine gx_blk (C := True) (npc := 20) (L' := [(0, .inr 86), (1, .inl x1)]) (st' := [.inl (-1)]) (m' := m) [((19, .iconst (-1), 1, 0, 0, 0, 0), (0, 0, 0))] (by decide +kernel) rfl trivial ?_
      exact gx_reti (by decide +kernel) (h3 c1 c2)

/-- law from 45 on -/
theorem gt168_45 {xs : List Int32} {w0 : sx_W} {d : Nat} {Q : gx_Q} {m : gx_M} {s0 : Int}
    (h1 : gx_to xs w0 d yp_m168 46 [(0, .inr 86), (2, .inl s0)] [] m Q) : gx_to xs w0 d yp_m168 45 [(0, .inr 86)] [.inl s0] m Q := by
  refine gx_blk (C := True) (npc := 46) (L' := [(0, .inr 86), (2, .inl s0)]) (st' := []) (m' := m) [((45, .istore_n 2, 1, 0, 0, 0, 0), (0, 0, 0))] (by decide +kernel) rfl trivial ?_
  exact gx_to_pick [0, 2] h1

/-- law from 46 on -/
theorem gt168_46 {xs : List Int32} {w0 : sx_W} {d : Nat} {Q : gx_Q} {m : gx_M} {x2 : Int} (hI : gx_I m)
    (h1 : (x2 = 0) → (x2 = 0) → Q (some (m 86 7)) (gx_u m 86 4 0))
    (h2 : (x2 ≠ 0) → ((m 86 6) ≤ (m 86 5)) → (x2 ≠ 0) → gx_to xs w0 (d + 1) yp_m168 110 [(0, .inr 86), (3, .inl 0)] [] (gx_u (gx_u m 86 4 0) 86 13 (m 86 12)) Q)
    (h3 : (x2 ≠ 0) → ((m 86 6) ≤ (m 86 5)) → (x2 = 0) → Q (some (m 86 7)) (gx_u m 86 4 0))
    (h4 : (x2 ≠ 0) → ((m 86 5) < (m 86 6)) → gx_to xs w0 d yp_m189 0 [(0, .inr 86), (1, .inl 59)] [] m (fun r m' => gx_to xs w0 (d + 1) yp_m168 67 [(0, .inr 86)] (gx_rs r ++ []) m' Q)) : gx_to xs w0 (d + 1) yp_m168 46 [(0, .inr 86), (2, .inl x2)] [] m Q := by
  refine gx_blk (C := True) (npc := 47) (L' := [(0, .inr 86), (2, .inl x2)]) (st' := [.inl x2]) (m' := m) [((46, .iload_n 2, 1, 0, 0, 0, 0), (0, 0, 0))] (by decide +kernel) rfl trivial ?_
  refine gx_if .eq 86 (by decide +kernel) (fun c1 => ?_) (fun c1 => ?_)
  · have c1 : x2 = 0 := c1
    refine gx_blk (C := True) (npc := 92) (L' := [(0, .inr 86), (2, .inl x2)]) (st' := [.inl x2]) (m' := (gx_u m 86 4 0)) [((86, .aload_n 0, 1, 0, 0, 0, 0), (0, 0, 0)), ((87, .iconst 0, 1, 0, 0, 0, 0), (0, 0, 0)), ((88, .putfield 124, 3, 10, 4, 5117, 0), (0, 86, 0)), ((91, .iload_n 2, 1, 0, 0, 0, 0), (0, 0, 0))] (by decide +kernel) rfl trivial ?_
    refine gx_if .ne 100 (by decide +kernel) (fun c2 => ?_) (fun c2 => ?_)
    · have c2 : x2 ≠ 0 := c2
      exfalso; omega
    · have c2 : x2 = 0 := by have h : ¬ (x2 ≠ 0) := c2; omega
      refine gx_blk (C := True) (npc := 99) (L' := [(0, .inr 86), (2, .inl x2)]) (st' := [.inl (m 86 7)]) (m' := (gx_u m 86 4 0)) [((95, .aload_n 0, 1, 0, 0, 0, 0), (0, 0, 0)), ((96, .getfield 142, 3, 10, 7, 5120, 0), (0, 86, 0))] (by decide +kernel) rfl trivial ?_
      exact gx_reti (by decide +kernel) (h1 c1 c2)
  · have c1 : x2 ≠ 0 := c1
    have f1 := gx_I_n hI 86 5 0 260 (by decide +kernel)
    have f2 := gx_I_n hI 86 6 0 260 (by decide +kernel)
    refine gx_blk (C := True) (npc := 58) (L' := [(0, .inr 86), (2, .inl x2)]) (st' := [.inl (m 86 6), .inl (m 86 5)]) (m' := m) [((50, .aload_n 0, 1, 0, 0, 0, 0), (0, 0, 0)), ((51, .getfield 132, 3, 10, 5, 5118, 0), (0, 86, 0)), ((54, .aload_n 0, 1, 0, 0, 0, 0), (0, 0, 0)), ((55, .getfield 135, 3, 10, 6, 5119, 0), (0, 86, 0))] (by decide +kernel) rfl trivial ?_
    refine gx_cmp .ge 86 (by decide +kernel) (fun c2 => ?_) (fun c2 => ?_)
    · have c2 : (m 86 6) ≤ (m 86 5) := c2
      refine gx_blk (C := True) (npc := 92) (L' := [(0, .inr 86), (2, .inl x2)]) (st' := [.inl x2]) (m' := (gx_u m 86 4 0)) [((86, .aload_n 0, 1, 0, 0, 0, 0), (0, 0, 0)), ((87, .iconst 0, 1, 0, 0, 0, 0), (0, 0, 0)), ((88, .putfield 124, 3, 10, 4, 5117, 0), (0, 86, 0)), ((91, .iload_n 2, 1, 0, 0, 0, 0), (0, 0, 0))] (by decide +kernel) rfl trivial ?_
      refine gx_if .ne 100 (by decide +kernel) (fun c3 => ?_) (fun c3 => ?_)
      · have c3 : x2 ≠ 0 := c3
        refine gx_blk (C := True) (npc := 110) (L' := [(0, .inr 86), (2, .inl x2), (3, .inl 0)]) (st' := []) (m' := (gx_u (gx_u m 86 4 0) 86 13 (m 86 12))) [((100, .aload_n 0, 1, 0, 0, 0, 0), (0, 0, 0)), ((101, .aload_n 0, 1, 0, 0, 0, 0), (0, 0, 0)), ((102, .getfield 213, 3, 10, 12, 5125, 0), (0, 86, 0)), ((105, .putfield 225, 3, 10, 13, 5126, 0), (0, 86, 0)), ((108, .iconst 0, 1, 0, 0, 0, 0), (0, 0, 0)), ((109, .istore_n 3, 1, 0, 0, 0, 0), (0, 0, 0))] (by decide +kernel) rfl trivial ?_
        exact gx_to_pick [0, 3] (h2 c1 c2 c3)
      · have c3 : x2 = 0 := by have h : ¬ (x2 ≠ 0) := c3; omega
        refine gx_blk (C := True) (npc := 99) (L' := [(0, .inr 86), (2, .inl x2)]) (st' := [.inl (m 86 7)]) (m' := (gx_u m 86 4 0)) [((95, .aload_n 0, 1, 0, 0, 0, 0), (0, 0, 0)), ((96, .getfield 142, 3, 10, 7, 5120, 0), (0, 86, 0))] (by decide +kernel) rfl trivial ?_
        exact gx_reti (by decide +kernel) (h3 c1 c2 c3)
    · have c2 : (m 86 5) < (m 86 6) := by have h : ¬ ((m 86 6) ≤ (m 86 5)) := c2; omega
      refine gx_blk (C := True) (npc := 64) (L' := [(0, .inr 86), (2, .inl x2)]) (st' := [.inl 59, .inr 86]) (m' := m) [((61, .aload_n 0, 1, 0, 0, 0, 0), (0, 0, 0)), ((62, .bipush 59, 2, 0, 0, 0, 0), (0, 0, 0))] (by decide +kernel) rfl trivial ?_
      exact gx_callv (E := (64, .invokevirtual 222, 3, 189, 0, 6128, 0)) (M' := yp_m189) (c := 86) [.inl 59] [] rfl (by decide +kernel) rfl ⟨rfl, rfl⟩ rfl rfl (Nat.le_of_ble_eq_true rfl) (Nat.le_of_ble_eq_true rfl) (by decide +kernel) (gx_to_mono (h4 c1 c2) (fun r m' h' => gx_to_pick [0] h'))

/-- law from 67 on -/
theorem gt168_67 {xs : List Int32} {w0 : sx_W} {d : Nat} {Q : gx_Q} {m : gx_M} {s0 : Int}
    (h1 : (s0 = 0) → gx_to xs w0 (d + 1) yp_m168 46 [(0, .inr 86), (2, .inl 0)] [] m Q)
    (h2 : (s0 ≠ 0) → gx_to xs w0 d yp_m169 0 [(0, .inr 86)] [] m (fun r m' => gx_to xs w0 (d + 1) yp_m168 74 [(0, .inr 86)] (gx_rs r ++ []) m' Q)) : gx_to xs w0 (d + 1) yp_m168 67 [(0, .inr 86)] [.inl s0] m Q := by
  refine gx_if .eq 81 (by decide +kernel) (fun c1 => ?_) (fun c1 => ?_)
  · have c1 : s0 = 0 := c1
    refine gx_blk (C := True) (npc := 46) (L' := [(0, .inr 86), (2, .inl 0)]) (st' := []) (m' := m) [((81, .iconst 0, 1, 0, 0, 0, 0), (0, 0, 0)), ((82, .istore_n 2, 1, 0, 0, 0, 0), (0, 0, 0)), ((83, .goto (-37), 3, 0, 0, 0, 0), (0, 0, 0))] (by decide +kernel) rfl trivial ?_
    exact gx_to_pick [0, 2] (h1 c1)
  · have c1 : s0 ≠ 0 := c1
    refine gx_blk (C := True) (npc := 71) (L' := [(0, .inr 86)]) (st' := [.inr 86]) (m' := m) [((70, .aload_n 0, 1, 0, 0, 0, 0), (0, 0, 0))] (by decide +kernel) rfl trivial ?_
    exact gx_callv (E := (71, .invokevirtual 219, 3, 169, 0, 6050, 0)) (M' := yp_m169) (c := 86) [] [] rfl (by decide +kernel) rfl ⟨rfl, rfl⟩ rfl rfl (Nat.le_of_ble_eq_true rfl) (Nat.le_of_ble_eq_true rfl) (by decide +kernel) (gx_to_mono (h2 c1) (fun r m' h' => gx_to_pick [0] h'))

/-- law from 74 on -/
theorem gt168_74 {xs : List Int32} {w0 : sx_W} {d : Nat} {Q : gx_Q} {m : gx_M} {s0 : Int}
    (h1 : (s0 = 0) → gx_to xs w0 d yp_m168 46 [(0, .inr 86), (2, .inl 0)] [] m Q)
    (h2 : (s0 ≠ 0) → gx_to xs w0 d yp_m168 46 [(0, .inr 86), (2, .inl 1)] [] m Q) : gx_to xs w0 d yp_m168 74 [(0, .inr 86)] [.inl s0] m Q := by
  refine gx_if .eq 81 (by decide +kernel) (fun c1 => ?_) (fun c1 => ?_)
  · have c1 : s0 = 0 := c1
    refine gx_blk (C := True) (npc := 46) (L' := [(0, .inr 86), (2, .inl 0)]) (st' := []) (m' := m) [((81, .iconst 0, 1, 0, 0, 0, 0), (0, 0, 0)), ((82, .istore_n 2, 1, 0, 0, 0, 0), (0, 0, 0)), ((83, .goto (-37), 3, 0, 0, 0, 0), (0, 0, 0))] (by decide +kernel) rfl trivial ?_
    exact gx_to_pick [0, 2] (h1 c1)
  · have c1 : s0 ≠ 0 := c1
    refine gx_blk (C := True) (npc := 46) (L' := [(0, .inr 86), (2, .inl 1)]) (st' := []) (m' := m) [((77, .iconst 1, 1, 0, 0, 0, 0), (0, 0, 0)), ((78, .goto 4, 3, 0, 0, 0, 0), (0, 0, 0)), ((82, .istore_n 2, 1, 0, 0, 0, 0), (0, 0, 0)), ((83, .goto (-37), 3, 0, 0, 0, 0), (0, 0, 0))] (by decide +kernel) rfl trivial ?_
    exact gx_to_pick [0, 2] (h2 c1)

/-- law from 110 on -/
theorem gt168_110 {xs : List Int32} {w0 : sx_W} {d : Nat} {Q : gx_Q} {m : gx_M} {x3 : Int} (r_x3 : 0 ≤ x3 ∧ x3 ≤ 250) (g1 : 0 ≤ (m 86 10) ∧ (m 86 10) ≤ 250)
    (h1 : ((m 86 10) ≤ x3) → gx_to xs w0 d yp_m168 138 [(0, .inr 86), (3, .inl 0)] [] m Q)
    (h2 : (x3 < (m 86 10)) → gx_to xs w0 d yp_m168 110 [(0, .inr 86), (3, .inl (x3 + 1))] [] (gx_u m 97 (x3).toNat (m 91 (x3).toNat)) Q) : gx_to xs w0 d yp_m168 110 [(0, .inr 86), (3, .inl x3)] [] m Q := by
  refine gx_blk (C := True) (npc := 115) (L' := [(0, .inr 86), (3, .inl x3)]) (st' := [.inl (m 86 10), .inl x3]) (m' := m) [((110, .iload_n 3, 1, 0, 0, 0, 0), (0, 0, 0)), ((111, .aload_n 0, 1, 0, 0, 0, 0), (0, 0, 0)), ((112, .getfield 155, 3, 10, 10, 5123, 0), (0, 86, 0))] (by decide +kernel) rfl trivial ?_
  refine gx_cmp .ge 136 (by decide +kernel) (fun c1 => ?_) (fun c1 => ?_)
  · have c1 : (m 86 10) ≤ x3 := c1
    refine gx_blk (C := True) (npc := 138) (L' := [(0, .inr 86), (3, .inl 0)]) (st' := []) (m' := m) [((136, .iconst 0, 1, 0, 0, 0, 0), (0, 0, 0)), ((137, .istore_n 3, 1, 0, 0, 0, 0), (0, 0, 0))] (by decide +kernel) rfl trivial ?_
    exact gx_to_pick [0, 3] (h1 c1)
  · have c1 : x3 < (m 86 10) := by have h : ¬ ((m 86 10) ≤ x3) := c1; omega
    have e1 : gx_w (x3 + 1) = x3 + 1 := gx_w_id (by omega) (by omega)
    refine gx_blk (C := (((True ∧ (0 ≤ x3 ∧ x3 < 260))) ∧ (0 ≤ x3 ∧ x3 < 260))) (npc := 110) (L' := [(0, .inr 86), (3, .inl (gx_w (x3 + 1)))]) (st' := []) (m' := (gx_u m 97 (x3).toNat (m 91 (x3).toNat))) [((118, .aload_n 0, 1, 0, 0, 0, 0), (0, 0, 0)), ((119, .getfield 41, 3, 10, 20, 5133, 0), (1, 86, 97)), ((122, .iload_n 3, 1, 0, 0, 0, 0), (0, 0, 0)), ((123, .aload_n 0, 1, 0, 0, 0, 0), (0, 0, 0)), ((124, .getfield 23, 3, 10, 14, 5127, 0), (1, 86, 91)), ((127, .iload_n 3, 1, 0, 0, 0, 0), (0, 0, 0)), ((128, .iaload, 1, 0, 0, 0, 0), (0, 91, 260)), ((129, .iastore, 1, 0, 0, 0, 0), (0, 97, 260)), ((130, .iinc 3 1, 3, 0, 0, 0, 0), (0, 0, 0)), ((133, .goto (-23), 3, 0, 0, 0, 0), (0, 0, 0))] (by decide +kernel) rfl ⟨⟨trivial, (by omega)⟩, (by omega)⟩ ?_
    rw [e1]
    exact gx_to_pick [0, 3] (h2 c1)

/-- law from 138 on -/
theorem gt168_138 {xs : List Int32} {w0 : sx_W} {d : Nat} {Q : gx_Q} {m : gx_M} {x3 : Int} (r_x3 : 0 ≤ x3 ∧ x3 ≤ 16) (g1 : 0 ≤ (m 86 12) ∧ (m 86 12) ≤ 16)
    (h1 : ((m 86 12) ≤ x3) → Q (some (m 86 12)) m)
    (h2 : (x3 < (m 86 12)) → gx_to xs w0 d yp_m168 138 [(0, .inr 86), (3, .inl (x3 + 1))] [] (gx_u (gx_u (gx_u (gx_u m 98 (x3).toNat (m 93 (x3).toNat)) 99 (x3).toNat (m 94 (x3).toNat)) 100 (x3).toNat (m 95 (x3).toNat)) 101 (x3).toNat (m 96 (x3).toNat)) Q) : gx_to xs w0 d yp_m168 138 [(0, .inr 86), (3, .inl x3)] [] m Q := by
  refine gx_blk (C := True) (npc := 143) (L' := [(0, .inr 86), (3, .inl x3)]) (st' := [.inl (m 86 12), .inl x3]) (m' := m) [((138, .iload_n 3, 1, 0, 0, 0, 0), (0, 0, 0)), ((139, .aload_n 0, 1, 0, 0, 0, 0), (0, 0, 0)), ((140, .getfield 213, 3, 10, 12, 5125, 0), (0, 86, 0))] (by decide +kernel) rfl trivial ?_
  refine gx_cmp .ge 200 (by decide +kernel) (fun c1 => ?_) (fun c1 => ?_)
  · have c1 : (m 86 12) ≤ x3 := c1
    refine gx_blk (C := True) (npc := 204) (L' := [(0, .inr 86), (3, .inl x3)]) (st' := [.inl (m 86 12)]) (m' := m) [((200, .aload_n 0, 1, 0, 0, 0, 0), (0, 0, 0)), ((201, .getfield 213, 3, 10, 12, 5125, 0), (0, 86, 0))] (by decide +kernel) rfl trivial ?_
    exact gx_reti (by decide +kernel) (h1 c1)
  · have c1 : x3 < (m 86 12) := by have h : ¬ ((m 86 12) ≤ x3) := c1; omega
    have e1 : gx_w (x3 + 1) = x3 + 1 := gx_w_id (by omega) (by omega)
    refine gx_blk (C := (((((((((((((((True ∧ (0 ≤ x3 ∧ x3 < 16))) ∧ (0 ≤ x3 ∧ x3 < 16))) ∧ (0 ≤ x3 ∧ x3 < 16))) ∧ (0 ≤ x3 ∧ x3 < 16))) ∧ (0 ≤ x3 ∧ x3 < 16))) ∧ (0 ≤ x3 ∧ x3 < 16))) ∧ (0 ≤ x3 ∧ x3 < 16))) ∧ (0 ≤ x3 ∧ x3 < 16))) (npc := 138) (L' := [(0, .inr 86), (3, .inl (gx_w (x3 + 1)))]) (st' := []) (m' := (gx_u (gx_u (gx_u (gx_u m 98 (x3).toNat (m 93 (x3).toNat)) 99 (x3).toNat (m 94 (x3).toNat)) 100 (x3).toNat (m 95 (x3).toNat)) 101 (x3).toNat (m 96 (x3).toNat))) [((146, .aload_n 0, 1, 0, 0, 0, 0), (0, 0, 0)), ((147, .getfield 44, 3, 10, 21, 5134, 0), (1, 86, 98)), ((150, .iload_n 3, 1, 0, 0, 0, 0), (0, 0, 0)), ((151, .aload_n 0, 1, 0, 0, 0, 0), (0, 0, 0)), ((152, .getfield 29, 3, 10, 16, 5129, 0), (1, 86, 93)), ((155, .iload_n 3, 1, 0, 0, 0, 0), (0, 0, 0)), ((156, .iaload, 1, 0, 0, 0, 0), (0, 93, 16)), ((157, .iastore, 1, 0, 0, 0, 0), (0, 98, 16)), ((158, .aload_n 0, 1, 0, 0, 0, 0), (0, 0, 0)), ((159, .getfield 47, 3, 10, 22, 5135, 0), (1, 86, 99)), ((162, .iload_n 3, 1, 0, 0, 0, 0), (0, 0, 0)), ((163, .aload_n 0, 1, 0, 0, 0, 0), (0, 0, 0)), ((164, .getfield 32, 3, 10, 17, 5130, 0), (1, 86, 94)), ((167, .iload_n 3, 1, 0, 0, 0, 0), (0, 0, 0)), ((168, .iaload, 1, 0, 0, 0, 0), (0, 94, 16)), ((169, .iastore, 1, 0, 0, 0, 0), (0, 99, 16)), ((170, .aload_n 0, 1, 0, 0, 0, 0), (0, 0, 0)), ((171, .getfield 50, 3, 10, 23, 5136, 0), (1, 86, 100)), ((174, .iload_n 3, 1, 0, 0, 0, 0), (0, 0, 0)), ((175, .aload_n 0, 1, 0, 0, 0, 0), (0, 0, 0)), ((176, .getfield 35, 3, 10, 18, 5131, 0), (1, 86, 95)), ((179, .iload_n 3, 1, 0, 0, 0, 0), (0, 0, 0)), ((180, .iaload, 1, 0, 0, 0, 0), (0, 95, 16)), ((181, .iastore, 1, 0, 0, 0, 0), (0, 100, 16)), ((182, .aload_n 0, 1, 0, 0, 0, 0), (0, 0, 0)), ((183, .getfield 53, 3, 10, 24, 5137, 0), (1, 86, 101)), ((186, .iload_n 3, 1, 0, 0, 0, 0), (0, 0, 0)), ((187, .aload_n 0, 1, 0, 0, 0, 0), (0, 0, 0)), ((188, .getfield 38, 3, 10, 19, 5132, 0), (1, 86, 96)), ((191, .iload_n 3, 1, 0, 0, 0, 0), (0, 0, 0)), ((192, .iaload, 1, 0, 0, 0, 0), (0, 96, 16)), ((193, .iastore, 1, 0, 0, 0, 0), (0, 101, 16)), ((194, .iinc 3 1, 3, 0, 0, 0, 0), (0, 0, 0)), ((197, .goto (-59), 3, 0, 0, 0, 0), (0, 0, 0))] (by decide +kernel) rfl ⟨⟨⟨⟨⟨⟨⟨⟨trivial, (by omega)⟩, (by omega)⟩, (by omega)⟩, (by omega)⟩, (by omega)⟩, (by omega)⟩, (by omega)⟩, (by omega)⟩ ?_
    rw [e1]
    exact gx_to_pick [0, 3] (h2 c1)
end
