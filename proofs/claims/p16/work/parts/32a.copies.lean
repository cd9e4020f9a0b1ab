/-! rows copied as a whole, by both -/
theorem hcopy_step {m : gx_M} {f t k : Nat} (hne : f ≠ t) : gx_u (hcopy m f 0 t 0 k) t k (hcopy m f 0 t 0 k f k) = hcopy m f 0 t 0 (k + 1) := by
  funext c j
  unfold gx_u hcopy
  by_cases hc : c = t
  · subst hc
    by_cases hj : j = k
    · subst hj
      rw [if_pos ⟨rfl, rfl⟩, if_neg (fun h => hne h.1), if_pos ⟨rfl, by omega, by omega⟩]
      rfl
    · rw [if_neg (fun h => hj h.2)]
      by_cases hk : j < k
      · rw [if_pos ⟨rfl, by omega, by omega⟩, if_pos ⟨rfl, by omega, by omega⟩]
      · rw [if_neg (by omega), if_neg (by omega)]
  · rw [if_neg (fun h => hc h.1), if_neg (fun h => hc h.1), if_neg (fun h => hc h.1)]
theorem hcopy_zero {m : gx_M} {f t : Nat} : hcopy m f 0 t 0 0 = m := by
  funext c j
  unfold hcopy
  rw [if_neg (by omega)]
theorem hcopy_at {m : gx_M} {f t n j : Nat} (h : j < n) : hcopy m f 0 t 0 n t j = m f j := by
  unfold hcopy
  rw [if_pos ⟨rfl, by omega, by omega⟩]
  rfl
theorem hcopy_ne {m : gx_M} {f t n c j : Nat} (h : c ≠ t) : hcopy m f 0 t 0 n c j = m c j := if_neg (fun e => h e.1)
/-- copies from 0 on -/
theorem hr212_0_87_88 {xs : List Int32} {n : Nat} {Q : hQ} {m : gx_M}
    (h1 : hxn xs n yp_m212 2 [(0, .inr (.inl 87)), (1, .inr (.inl 88)), (2, .inl 0)] [] m Q) : hxn xs (n + 1) yp_m212 0 [(0, .inr (.inl 87)), (1, .inr (.inl 88))] [] m Q := by
  refine hx_blks (npc := 2) (L' := [(0, .inr (.inl 87)), (1, .inr (.inl 88)), (2, .inl 0)]) (st' := []) (m' := m) ((0, .iconst 0, 1, 0, 0, 0, 0), (0, 0, 0)) [((1, .istore_n 2, 1, 0, 0, 0, 0), (0, 0, 0))] (by decide +kernel) rfl ?_
  exact hx_pick [0, 1, 2] h1

/-- copies from 2 on -/
theorem hr212_2_87_88 {xs : List Int32} {n : Nat} {Q : hQ} {m : gx_M} {x2 : Int} (r_x2 : 0 ≤ x2 ∧ x2 ≤ 1131)
    (h1 : (1131 ≤ x2) → Q none m)
    (h2 : (x2 < 1131) → hxn xs n yp_m212 2 [(0, .inr (.inl 87)), (1, .inr (.inl 88)), (2, .inl (x2 + 1))] [] (gx_u m 88 (x2).toNat (m 87 (x2).toNat)) Q) : hxn xs (n + 1) yp_m212 2 [(0, .inr (.inl 87)), (1, .inr (.inl 88)), (2, .inl x2)] [] m Q := by
  refine hx_blks (npc := 6) (L' := [(0, .inr (.inl 87)), (1, .inr (.inl 88)), (2, .inl x2)]) (st' := [.inl 1131, .inl x2]) (m' := m) ((2, .iload_n 2, 1, 0, 0, 0, 0), (0, 0, 0)) [((3, .sipush 1131, 3, 0, 0, 0, 0), (0, 0, 0))] (by decide +kernel) rfl ?_
  refine hx_cmp .ge 21 (by decide +kernel) (fun c1 => ?_) (fun c1 => ?_)
  · have c1 : 1131 ≤ x2 := c1
    exact hx_ret0 (by decide +kernel) (h1 c1)
  · have c1 : x2 < 1131 := by have h : ¬ (1131 ≤ x2) := c1; omega
    have e1 : gx_w (x2 + 1) = x2 + 1 := gx_w_id (by omega) (by omega)
    refine hx_blk (npc := 2) (L' := [(0, .inr (.inl 87)), (1, .inr (.inl 88)), (2, .inl (gx_w (x2 + 1)))]) (st' := []) (m' := (gx_u m 88 (x2).toNat (m 87 (x2).toNat))) [((9, .aload_n 1, 1, 0, 0, 0, 0), (0, 0, 0)), ((10, .iload_n 2, 1, 0, 0, 0, 0), (0, 0, 0)), ((11, .aload_n 0, 1, 0, 0, 0, 0), (0, 0, 0)), ((12, .iload_n 2, 1, 0, 0, 0, 0), (0, 0, 0)), ((13, .iaload, 1, 0, 0, 0, 0), (0, 87, 0)), ((14, .iastore, 1, 0, 0, 0, 0), (0, 88, 0)), ((15, .iinc 2 1, 3, 0, 0, 0, 0), (0, 0, 0)), ((18, .goto (-16), 3, 0, 0, 0, 0), (0, 0, 0))] (by decide +kernel) rfl ?_
    rw [e1]
    exact hx_pick [0, 1, 2] (h2 c1)

theorem hl212_87_88 {xs : List Int32} {n : Nat} {Q : hQ} {m : gx_M} (h : Q none (hcopy m 87 0 88 0 1131)) : ∀ d k : Nat, k + d = 1131 → hxn xs n yp_m212 2 [(0, .inr (.inl 87)), (1, .inr (.inl 88)), (2, .inl (k : Int))] [] (hcopy m 87 0 88 0 k) Q
  | 0, k, hk => by
    have e : k = 1131 := by omega
    subst e
    exact hx_dn (hr212_2_87_88 (by omega) (fun _ => h) (fun c => absurd c (by omega)))
  | d + 1, k, hk => by
    refine hx_dn (hr212_2_87_88 (by omega) (fun c => absurd c (by omega)) (fun _ => ?_))
    rw [Int.toNat_natCast, hcopy_step (by decide)]
    exact hl212_87_88 h d (k + 1) (by omega)
theorem hs212_87_88 {xs : List Int32} {n : Nat} {Q : hQ} {m : gx_M} (h : Q none (hcopy m 87 0 88 0 1131)) : hxn xs n yp_m212 0 [(0, .inr (.inl 87)), (1, .inr (.inl 88))] [] m Q := by
  refine hx_dn (hr212_0_87_88 ?_)
  have := hl212_87_88 (xs := xs) (n := n) h 1131 0 rfl
  rw [hcopy_zero] at this
  exact this
/-- copies from 0 on -/
theorem hr212_0_88_87 {xs : List Int32} {n : Nat} {Q : hQ} {m : gx_M}
    (h1 : hxn xs n yp_m212 2 [(0, .inr (.inl 88)), (1, .inr (.inl 87)), (2, .inl 0)] [] m Q) : hxn xs (n + 1) yp_m212 0 [(0, .inr (.inl 88)), (1, .inr (.inl 87))] [] m Q := by
  refine hx_blks (npc := 2) (L' := [(0, .inr (.inl 88)), (1, .inr (.inl 87)), (2, .inl 0)]) (st' := []) (m' := m) ((0, .iconst 0, 1, 0, 0, 0, 0), (0, 0, 0)) [((1, .istore_n 2, 1, 0, 0, 0, 0), (0, 0, 0))] (by decide +kernel) rfl ?_
  exact hx_pick [0, 1, 2] h1

/-- copies from 2 on -/
theorem hr212_2_88_87 {xs : List Int32} {n : Nat} {Q : hQ} {m : gx_M} {x2 : Int} (r_x2 : 0 ≤ x2 ∧ x2 ≤ 1131)
    (h1 : (1131 ≤ x2) → Q none m)
    (h2 : (x2 < 1131) → hxn xs n yp_m212 2 [(0, .inr (.inl 88)), (1, .inr (.inl 87)), (2, .inl (x2 + 1))] [] (gx_u m 87 (x2).toNat (m 88 (x2).toNat)) Q) : hxn xs (n + 1) yp_m212 2 [(0, .inr (.inl 88)), (1, .inr (.inl 87)), (2, .inl x2)] [] m Q := by
  refine hx_blks (npc := 6) (L' := [(0, .inr (.inl 88)), (1, .inr (.inl 87)), (2, .inl x2)]) (st' := [.inl 1131, .inl x2]) (m' := m) ((2, .iload_n 2, 1, 0, 0, 0, 0), (0, 0, 0)) [((3, .sipush 1131, 3, 0, 0, 0, 0), (0, 0, 0))] (by decide +kernel) rfl ?_
  refine hx_cmp .ge 21 (by decide +kernel) (fun c1 => ?_) (fun c1 => ?_)
  · have c1 : 1131 ≤ x2 := c1
    exact hx_ret0 (by decide +kernel) (h1 c1)
  · have c1 : x2 < 1131 := by have h : ¬ (1131 ≤ x2) := c1; omega
    have e1 : gx_w (x2 + 1) = x2 + 1 := gx_w_id (by omega) (by omega)
    refine hx_blk (npc := 2) (L' := [(0, .inr (.inl 88)), (1, .inr (.inl 87)), (2, .inl (gx_w (x2 + 1)))]) (st' := []) (m' := (gx_u m 87 (x2).toNat (m 88 (x2).toNat))) [((9, .aload_n 1, 1, 0, 0, 0, 0), (0, 0, 0)), ((10, .iload_n 2, 1, 0, 0, 0, 0), (0, 0, 0)), ((11, .aload_n 0, 1, 0, 0, 0, 0), (0, 0, 0)), ((12, .iload_n 2, 1, 0, 0, 0, 0), (0, 0, 0)), ((13, .iaload, 1, 0, 0, 0, 0), (0, 88, 0)), ((14, .iastore, 1, 0, 0, 0, 0), (0, 87, 0)), ((15, .iinc 2 1, 3, 0, 0, 0, 0), (0, 0, 0)), ((18, .goto (-16), 3, 0, 0, 0, 0), (0, 0, 0))] (by decide +kernel) rfl ?_
    rw [e1]
    exact hx_pick [0, 1, 2] (h2 c1)

theorem hl212_88_87 {xs : List Int32} {n : Nat} {Q : hQ} {m : gx_M} (h : Q none (hcopy m 88 0 87 0 1131)) : ∀ d k : Nat, k + d = 1131 → hxn xs n yp_m212 2 [(0, .inr (.inl 88)), (1, .inr (.inl 87)), (2, .inl (k : Int))] [] (hcopy m 88 0 87 0 k) Q
  | 0, k, hk => by
    have e : k = 1131 := by omega
    subst e
    exact hx_dn (hr212_2_88_87 (by omega) (fun _ => h) (fun c => absurd c (by omega)))
  | d + 1, k, hk => by
    refine hx_dn (hr212_2_88_87 (by omega) (fun c => absurd c (by omega)) (fun _ => ?_))
    rw [Int.toNat_natCast, hcopy_step (by decide)]
    exact hl212_88_87 h d (k + 1) (by omega)
theorem hs212_88_87 {xs : List Int32} {n : Nat} {Q : hQ} {m : gx_M} (h : Q none (hcopy m 88 0 87 0 1131)) : hxn xs n yp_m212 0 [(0, .inr (.inl 88)), (1, .inr (.inl 87))] [] m Q := by
  refine hx_dn (hr212_0_88_87 ?_)
  have := hl212_88_87 (xs := xs) (n := n) h 1131 0 rfl
  rw [hcopy_zero] at this
  exact this
/-- copies from 0 on -/
theorem hr212_0_87_89 {xs : List Int32} {n : Nat} {Q : hQ} {m : gx_M}
    (h1 : hxn xs n yp_m212 2 [(0, .inr (.inl 87)), (1, .inr (.inl 89)), (2, .inl 0)] [] m Q) : hxn xs (n + 1) yp_m212 0 [(0, .inr (.inl 87)), (1, .inr (.inl 89))] [] m Q := by
  refine hx_blks (npc := 2) (L' := [(0, .inr (.inl 87)), (1, .inr (.inl 89)), (2, .inl 0)]) (st' := []) (m' := m) ((0, .iconst 0, 1, 0, 0, 0, 0), (0, 0, 0)) [((1, .istore_n 2, 1, 0, 0, 0, 0), (0, 0, 0))] (by decide +kernel) rfl ?_
  exact hx_pick [0, 1, 2] h1

/-- copies from 2 on -/
theorem hr212_2_87_89 {xs : List Int32} {n : Nat} {Q : hQ} {m : gx_M} {x2 : Int} (r_x2 : 0 ≤ x2 ∧ x2 ≤ 1131)
    (h1 : (1131 ≤ x2) → Q none m)
    (h2 : (x2 < 1131) → hxn xs n yp_m212 2 [(0, .inr (.inl 87)), (1, .inr (.inl 89)), (2, .inl (x2 + 1))] [] (gx_u m 89 (x2).toNat (m 87 (x2).toNat)) Q) : hxn xs (n + 1) yp_m212 2 [(0, .inr (.inl 87)), (1, .inr (.inl 89)), (2, .inl x2)] [] m Q := by
  refine hx_blks (npc := 6) (L' := [(0, .inr (.inl 87)), (1, .inr (.inl 89)), (2, .inl x2)]) (st' := [.inl 1131, .inl x2]) (m' := m) ((2, .iload_n 2, 1, 0, 0, 0, 0), (0, 0, 0)) [((3, .sipush 1131, 3, 0, 0, 0, 0), (0, 0, 0))] (by decide +kernel) rfl ?_
  refine hx_cmp .ge 21 (by decide +kernel) (fun c1 => ?_) (fun c1 => ?_)
  · have c1 : 1131 ≤ x2 := c1
    exact hx_ret0 (by decide +kernel) (h1 c1)
  · have c1 : x2 < 1131 := by have h : ¬ (1131 ≤ x2) := c1; omega
    have e1 : gx_w (x2 + 1) = x2 + 1 := gx_w_id (by omega) (by omega)
    refine hx_blk (npc := 2) (L' := [(0, .inr (.inl 87)), (1, .inr (.inl 89)), (2, .inl (gx_w (x2 + 1)))]) (st' := []) (m' := (gx_u m 89 (x2).toNat (m 87 (x2).toNat))) [((9, .aload_n 1, 1, 0, 0, 0, 0), (0, 0, 0)), ((10, .iload_n 2, 1, 0, 0, 0, 0), (0, 0, 0)), ((11, .aload_n 0, 1, 0, 0, 0, 0), (0, 0, 0)), ((12, .iload_n 2, 1, 0, 0, 0, 0), (0, 0, 0)), ((13, .iaload, 1, 0, 0, 0, 0), (0, 87, 0)), ((14, .iastore, 1, 0, 0, 0, 0), (0, 89, 0)), ((15, .iinc 2 1, 3, 0, 0, 0, 0), (0, 0, 0)), ((18, .goto (-16), 3, 0, 0, 0, 0), (0, 0, 0))] (by decide +kernel) rfl ?_
    rw [e1]
    exact hx_pick [0, 1, 2] (h2 c1)

theorem hl212_87_89 {xs : List Int32} {n : Nat} {Q : hQ} {m : gx_M} (h : Q none (hcopy m 87 0 89 0 1131)) : ∀ d k : Nat, k + d = 1131 → hxn xs n yp_m212 2 [(0, .inr (.inl 87)), (1, .inr (.inl 89)), (2, .inl (k : Int))] [] (hcopy m 87 0 89 0 k) Q
  | 0, k, hk => by
    have e : k = 1131 := by omega
    subst e
    exact hx_dn (hr212_2_87_89 (by omega) (fun _ => h) (fun c => absurd c (by omega)))
  | d + 1, k, hk => by
    refine hx_dn (hr212_2_87_89 (by omega) (fun c => absurd c (by omega)) (fun _ => ?_))
    rw [Int.toNat_natCast, hcopy_step (by decide)]
    exact hl212_87_89 h d (k + 1) (by omega)
theorem hs212_87_89 {xs : List Int32} {n : Nat} {Q : hQ} {m : gx_M} (h : Q none (hcopy m 87 0 89 0 1131)) : hxn xs n yp_m212 0 [(0, .inr (.inl 87)), (1, .inr (.inl 89))] [] m Q := by
  refine hx_dn (hr212_0_87_89 ?_)
  have := hl212_87_89 (xs := xs) (n := n) h 1131 0 rfl
  rw [hcopy_zero] at this
  exact this
/-- copies from 0 on -/
theorem hr212_0_89_87 {xs : List Int32} {n : Nat} {Q : hQ} {m : gx_M}
    (h1 : hxn xs n yp_m212 2 [(0, .inr (.inl 89)), (1, .inr (.inl 87)), (2, .inl 0)] [] m Q) : hxn xs (n + 1) yp_m212 0 [(0, .inr (.inl 89)), (1, .inr (.inl 87))] [] m Q := by
  refine hx_blks (npc := 2) (L' := [(0, .inr (.inl 89)), (1, .inr (.inl 87)), (2, .inl 0)]) (st' := []) (m' := m) ((0, .iconst 0, 1, 0, 0, 0, 0), (0, 0, 0)) [((1, .istore_n 2, 1, 0, 0, 0, 0), (0, 0, 0))] (by decide +kernel) rfl ?_
  exact hx_pick [0, 1, 2] h1

/-- copies from 2 on -/
theorem hr212_2_89_87 {xs : List Int32} {n : Nat} {Q : hQ} {m : gx_M} {x2 : Int} (r_x2 : 0 ≤ x2 ∧ x2 ≤ 1131)
    (h1 : (1131 ≤ x2) → Q none m)
    (h2 : (x2 < 1131) → hxn xs n yp_m212 2 [(0, .inr (.inl 89)), (1, .inr (.inl 87)), (2, .inl (x2 + 1))] [] (gx_u m 87 (x2).toNat (m 89 (x2).toNat)) Q) : hxn xs (n + 1) yp_m212 2 [(0, .inr (.inl 89)), (1, .inr (.inl 87)), (2, .inl x2)] [] m Q := by
  refine hx_blks (npc := 6) (L' := [(0, .inr (.inl 89)), (1, .inr (.inl 87)), (2, .inl x2)]) (st' := [.inl 1131, .inl x2]) (m' := m) ((2, .iload_n 2, 1, 0, 0, 0, 0), (0, 0, 0)) [((3, .sipush 1131, 3, 0, 0, 0, 0), (0, 0, 0))] (by decide +kernel) rfl ?_
  refine hx_cmp .ge 21 (by decide +kernel) (fun c1 => ?_) (fun c1 => ?_)
  · have c1 : 1131 ≤ x2 := c1
    exact hx_ret0 (by decide +kernel) (h1 c1)
  · have c1 : x2 < 1131 := by have h : ¬ (1131 ≤ x2) := c1; omega
    have e1 : gx_w (x2 + 1) = x2 + 1 := gx_w_id (by omega) (by omega)
    refine hx_blk (npc := 2) (L' := [(0, .inr (.inl 89)), (1, .inr (.inl 87)), (2, .inl (gx_w (x2 + 1)))]) (st' := []) (m' := (gx_u m 87 (x2).toNat (m 89 (x2).toNat))) [((9, .aload_n 1, 1, 0, 0, 0, 0), (0, 0, 0)), ((10, .iload_n 2, 1, 0, 0, 0, 0), (0, 0, 0)), ((11, .aload_n 0, 1, 0, 0, 0, 0), (0, 0, 0)), ((12, .iload_n 2, 1, 0, 0, 0, 0), (0, 0, 0)), ((13, .iaload, 1, 0, 0, 0, 0), (0, 89, 0)), ((14, .iastore, 1, 0, 0, 0, 0), (0, 87, 0)), ((15, .iinc 2 1, 3, 0, 0, 0, 0), (0, 0, 0)), ((18, .goto (-16), 3, 0, 0, 0, 0), (0, 0, 0))] (by decide +kernel) rfl ?_
    rw [e1]
    exact hx_pick [0, 1, 2] (h2 c1)

theorem hl212_89_87 {xs : List Int32} {n : Nat} {Q : hQ} {m : gx_M} (h : Q none (hcopy m 89 0 87 0 1131)) : ∀ d k : Nat, k + d = 1131 → hxn xs n yp_m212 2 [(0, .inr (.inl 89)), (1, .inr (.inl 87)), (2, .inl (k : Int))] [] (hcopy m 89 0 87 0 k) Q
  | 0, k, hk => by
    have e : k = 1131 := by omega
    subst e
    exact hx_dn (hr212_2_89_87 (by omega) (fun _ => h) (fun c => absurd c (by omega)))
  | d + 1, k, hk => by
    refine hx_dn (hr212_2_89_87 (by omega) (fun c => absurd c (by omega)) (fun _ => ?_))
    rw [Int.toNat_natCast, hcopy_step (by decide)]
    exact hl212_89_87 h d (k + 1) (by omega)
theorem hs212_89_87 {xs : List Int32} {n : Nat} {Q : hQ} {m : gx_M} (h : Q none (hcopy m 89 0 87 0 1131)) : hxn xs n yp_m212 0 [(0, .inr (.inl 89)), (1, .inr (.inl 87))] [] m Q := by
  refine hx_dn (hr212_0_89_87 ?_)
  have := hl212_89_87 (xs := xs) (n := n) h 1131 0 rfl
  rw [hcopy_zero] at this
  exact this
