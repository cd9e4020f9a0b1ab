section
/-! the whole state, by both -/
theorem sBk_ag {b : Nat} {s : Nat → Int} {m m' : gx_M} (h0 : ∀ k, k < 5 → m' b k = m b k) (h1 : ∀ p, p < 8 → m' (b + 1) p = m (b + 1) p) (h2 : ∀ j y, 2 ≤ j → j ≤ 11 → y < 40 → m' (b + j) y = m (b + j) y) (h3 : ∀ k, k < 640 → m' (b + 12) k = m (b + 12) k) (hB : sBk b s m) : sBk b s m' := by
  obtain ⟨⟨a1, a2, a3, a4, a5⟩, b2, b3, b4⟩ := hB
  refine ⟨⟨by rw [h0 0 (by decide)]; exact a1, by rw [h0 1 (by decide)]; exact a2, by rw [h0 2 (by decide)]; exact a3, by rw [h0 3 (by decide)]; exact a4, by rw [h0 4 (by decide)]; exact a5⟩, fun p hp => by rw [h1 p hp]; exact b2 p hp, fun y hy => ?_, fun k hk => by rw [h3 k hk]; exact b4 k hk⟩
  rw [h2 2 y (by decide) (by decide) hy, h2 3 y (by decide) (by decide) hy, h2 4 y (by decide) (by decide) hy, h2 5 y (by decide) (by decide) hy, h2 6 y (by decide) (by decide) hy, h2 7 y (by decide) (by decide) hy, h2 8 y (by decide) (by decide) hy, h2 9 y (by decide) (by decide) hy, h2 10 y (by decide) (by decide) hy, h2 11 y (by decide) (by decide) hy]
  exact b3 y hy
noncomputable def hWs (xs : List Int32) (s t : Nat → Int) (m : gx_M) : Prop := sOK s ∧ sBk 5 s m ∧ m 0 12 = m 86 47 ∧ (m 86 47 ≠ 0 → sOK t ∧ sBk 18 t m) ∧ (∃ W, lawR xs W m) ∧ m 0 13 = m 86 44
noncomputable def hWr (xs : List Int32) (m : gx_M) : Prop := hWs xs (m 87) (m 89) m
def hPR : List (Nat × Nat × Nat) := [(0, 12, 14), (5, 0, 5), (6, 0, 8), (7, 0, 40), (8, 0, 40), (9, 0, 40), (10, 0, 40), (11, 0, 40), (12, 0, 40), (13, 0, 40), (14, 0, 40), (15, 0, 40), (16, 0, 40), (17, 0, 640), (18, 0, 5), (19, 0, 8), (20, 0, 40), (21, 0, 40), (22, 0, 40), (23, 0, 40), (24, 0, 40), (25, 0, 40), (26, 0, 40), (27, 0, 40), (28, 0, 40), (29, 0, 40), (30, 0, 640), (86, 44, 45), (86, 47, 48), (87, 0, 1131), (89, 0, 1131)] ++ hPL
theorem hAg.mono {P P' : List (Nat × Nat × Nat)} {m m' : gx_M} (h : hAg P m m') (hs : ∀ q ∈ P', q ∈ P) : hAg P' m m' := fun q hq => h q (hs q hq)
theorem hPR_L {m m' : gx_M} (h : hAg hPR m m') : hAg hPL m m' := h.mono (fun q hq => List.mem_append.mpr (.inr hq))
theorem sBk5_c {s : Nat → Int} {m m' : gx_M} (h : hAg hPR m m') (hB : sBk 5 s m) : sBk 5 s m' := by
  refine sBk_ag (fun k hk => h.at 5 0 5 (by decide) (by omega) hk) (fun p hp => h.at 6 0 8 (by decide) (by omega) hp) (fun j y h1 h2 hy => ?_) (fun k hk => h.at 17 0 640 (by decide) (by omega) hk) hB
  have : j = 2 ∨ j = 3 ∨ j = 4 ∨ j = 5 ∨ j = 6 ∨ j = 7 ∨ j = 8 ∨ j = 9 ∨ j = 10 ∨ j = 11 := by omega
  rcases this with rfl | rfl | rfl | rfl | rfl | rfl | rfl | rfl | rfl | rfl
  · exact h.at 7 0 40 (by decide) (by omega) hy
  · exact h.at 8 0 40 (by decide) (by omega) hy
  · exact h.at 9 0 40 (by decide) (by omega) hy
  · exact h.at 10 0 40 (by decide) (by omega) hy
  · exact h.at 11 0 40 (by decide) (by omega) hy
  · exact h.at 12 0 40 (by decide) (by omega) hy
  · exact h.at 13 0 40 (by decide) (by omega) hy
  · exact h.at 14 0 40 (by decide) (by omega) hy
  · exact h.at 15 0 40 (by decide) (by omega) hy
  · exact h.at 16 0 40 (by decide) (by omega) hy
theorem sBk18_c {s : Nat → Int} {m m' : gx_M} (h : hAg hPR m m') (hB : sBk 18 s m) : sBk 18 s m' := by
  refine sBk_ag (fun k hk => h.at 18 0 5 (by decide) (by omega) hk) (fun p hp => h.at 19 0 8 (by decide) (by omega) hp) (fun j y h1 h2 hy => ?_) (fun k hk => h.at 30 0 640 (by decide) (by omega) hk) hB
  have : j = 2 ∨ j = 3 ∨ j = 4 ∨ j = 5 ∨ j = 6 ∨ j = 7 ∨ j = 8 ∨ j = 9 ∨ j = 10 ∨ j = 11 := by omega
  rcases this with rfl | rfl | rfl | rfl | rfl | rfl | rfl | rfl | rfl | rfl
  · exact h.at 20 0 40 (by decide) (by omega) hy
  · exact h.at 21 0 40 (by decide) (by omega) hy
  · exact h.at 22 0 40 (by decide) (by omega) hy
  · exact h.at 23 0 40 (by decide) (by omega) hy
  · exact h.at 24 0 40 (by decide) (by omega) hy
  · exact h.at 25 0 40 (by decide) (by omega) hy
  · exact h.at 26 0 40 (by decide) (by omega) hy
  · exact h.at 27 0 40 (by decide) (by omega) hy
  · exact h.at 28 0 40 (by decide) (by omega) hy
  · exact h.at 29 0 40 (by decide) (by omega) hy
theorem hWr_c {xs : List Int32} {m m' : gx_M} (h : hAg hPR m m') (hR : hWr xs m) : hWr xs m' := by
  obtain ⟨h1, h2, h3, h4, ⟨W, h5⟩, h6⟩ := hR
  have e87 : ∀ k, k < 1131 → m' 87 k = m 87 k := fun k hk => h.at 87 0 1131 (by decide) (by omega) hk
  have e89 : ∀ k, k < 1131 → m' 89 k = m 89 k := fun k hk => h.at 89 0 1131 (by decide) (by omega) hk
  have f47 : m' 86 47 = m 86 47 := h.at 86 47 48 (by decide) (by omega) (by omega)
  refine ⟨sOK_s e87 h1, sBk_s e87 (sBk5_c h h2), ?_, fun hk => ?_, ⟨W, lawR_c (hPR_L h) h5⟩, ?_⟩
  · rw [f47, h.at 0 12 14 (by decide) (by omega) (by omega)]
    exact h3
  · obtain ⟨k1, k2⟩ := h4 (by rw [← f47]; exact hk)
    exact ⟨sOK_s e89 k1, sBk_s e89 (sBk18_c h k2)⟩
  · rw [h.at 0 12 14 (by decide) (by omega) (by omega), h.at 86 44 45 (by decide) (by omega) (by omega)]
    exact h6
/-- another state in its place -/
theorem hWs_mk {xs : List Int32} {s s' t : Nat → Int} {m m' : gx_M} (h : hWs xs s t m) (h1 : sOK s') (h2 : sBk 5 s' m') (f0 : m' 0 12 = m 0 12) (f01 : m' 0 13 = m 0 13) (f1 : m' 86 47 = m 86 47) (f2 : m' 86 44 = m 86 44) (f3 : ∀ c, 18 ≤ c → c ≤ 30 → m' c = m c) (f4 : hAg hPL m m') : hWs xs s' t m' := by
  obtain ⟨-, -, a3, a4, ⟨W, a5⟩, a6⟩ := h
  refine ⟨h1, h2, by rw [f0, f1]; exact a3, fun hk => ?_, ⟨W, lawR_c f4 a5⟩, by rw [f01, f2]; exact a6⟩
  obtain ⟨k1, k2⟩ := a4 (by rw [← f1]; exact hk)
  exact ⟨k1, sBk_c (fun c c1 c2 => f3 c c1 c2) k2⟩
noncomputable def hW (xs : List Int32) (m : gx_M) : Prop := hTp m ∧ hWr xs m
/-! two relations at once; ways that are only kept up -/
theorem hway_and {gX R1 R2 : gx_M → Prop} {xs : List Int32} {M1 M2 : sx_M} {L1 L2 : hLs} {C C' : hV → hV → Prop} (h1 : hWay gX R1 xs M1 M2 L1 L2 C) (h2 : hWay gX R2 xs M1 M2 L1 L2 C') : hWay gX (fun m => R1 m ∧ R2 m) xs M1 M2 L1 L2 (fun a b => C a b ∧ C' a b) := fun n m j r =>
  hx_and (h1 n m j r.1) (h2 n m j r.2) (fun r1 m1 ⟨v1, e1, k1⟩ ⟨w1, e1', k2⟩ => ⟨v1, e1, hx_and k1 k2 (fun r2 m2 ⟨v2, e2, j2, q1, c1⟩ ⟨w2, e2', _, q2, c2⟩ => by
    have a := e1.symm.trans e1'
    have b := e2.symm.trans e2'
    cases a
    cases b
    exact ⟨v2, e2, j2, ⟨q1, q2⟩, c1, c2⟩)⟩)
theorem hway_up {gX R : gx_M → Prop} {xs : List Int32} {M1 M2 : sx_M} {L1 L2 : hLs} {mods1 mods2 : bx_M} {T T' : hV → Prop} (c1 : hCon gX xs M1 L1 mods1 T) (c2 : hCon gX xs M2 L2 mods2 T') (sp : ∀ n m, hJ gX m → R m → hxn xs n M1 0 L1 [] m (fun _ m1 => hxn xs n M2 0 L2 [] m1 (fun _ m2 => R m2))) : hWay gX R xs M1 M2 L1 L2 (fun a b => T a ∧ T' b) := fun n m j r =>
  hx_and (sp n m j r) (c1 n m j) (fun r1 m1 h1 ⟨⟨v, e1, t⟩, j1, _⟩ => ⟨v, e1, hx_and h1 (c2 n m1 j1) (fun r2 m2 r2' ⟨⟨v2, e2, t2⟩, j2, _⟩ => ⟨v2, e2, j2, r2', t, t2⟩)⟩)
/-- a question: both answer G of the state -/
theorem hway_q {gX : gx_M → Prop} {xs : List Int32} {M1 M2 : sx_M} {L1 L2 : hLs} {mods1 mods2 : bx_M} {T : hV → Prop} (c1 : hCon gX xs M1 L1 mods1 T) (c2 : hCon gX xs M2 L2 mods2 T) (d1 : hDisj mods1 hPR = true) (d2 : hDisj mods2 hPR = true) (d3 : mods1.all (fun x => decide (x.1 ≠ 87)) = true) (G : (Nat → Int) → hV) (q1 : ∀ n m, hJ gX m → hWr xs m → hxn xs n M1 0 L1 [] m (fun r _ => r = some (G (m 87)))) (q2 : ∀ n m, hJ gX m → hWr xs m → hxn xs n M2 0 L2 [] m (fun r _ => r = some (G (m 87)))) : hWay gX (hWr xs) xs M1 M2 L1 L2 (hCe T) := fun n m j r =>
  hx_and (q1 n m j r) (c1 n m j) (fun r1 m1 e1 ⟨⟨v, e, t⟩, j1, f1⟩ => ⟨v, e, by
    have e87 : m1 87 = m 87 := funext (fun k => f1 87 k (fun x hx hc => of_decide_eq_true (List.all_eq_true.mp d3 x hx) hc.1))
    have r1' : hWr xs m1 := hWr_c (hDisj_ok f1 d1) r
    refine hx_and (q2 n m1 j1 r1') (c2 n m1 j1) (fun r2 m2 e2 ⟨⟨v2, e', t2⟩, j2, f2⟩ => ⟨v2, e', j2, hWr_c (hDisj_ok f2 d2) r1', t, ?_⟩)
    rw [e87] at e2
    have a := e.symm.trans e1
    have b := e'.symm.trans e2
    cases a
    cases b
    rfl⟩)
end
section
/-! the seed: a road -/
/-- seed from 0 on -/
theorem hr153_0 {xs : List Int32} {n : Nat} {Q : hQ} {m : gx_M} {x1 : Int}
    (h1 : (x1 < 0) → Q (some (.inl 0)) m)
    (h2 : (0 ≤ x1) → (x1 ≤ 65535) → Q (some (.inl 1)) (gx_u m 5 4 x1))
    (h3 : (0 ≤ x1) → (65535 < x1) → Q (some (.inl 0)) m) : hxn xs (n + 1) yp_m153 0 [(0, .inr (.inl 0)), (1, .inl x1)] [] m Q := by
  refine hx_blks (npc := 1) (L' := [(0, .inr (.inl 0)), (1, .inl x1)]) (st' := [.inl x1]) (m' := m) ((0, .iload_n 1, 1, 0, 0, 0, 0), (0, 0, 0)) [] (by decide +kernel) rfl ?_
  refine hx_if .lt 11 (by decide +kernel) (fun c1 => ?_) (fun c1 => ?_)
  · have c1 : x1 < 0 := c1
    refine hx_blk (npc := 12) (L' := [(0, .inr (.inl 0)), (1, .inl x1)]) (st' := [.inl 0]) (m' := m) [((11, .iconst 0, 1, 0, 0, 0, 0), (0, 0, 0))] (by decide +kernel) rfl ?_
    exact hx_reti (by decide +kernel) (h1 c1)
  · have c1 : 0 ≤ x1 := by have h : ¬ (x1 < 0) := c1; omega
    refine hx_blk (npc := 8) (L' := [(0, .inr (.inl 0)), (1, .inl x1)]) (st' := [.inl 65535, .inl x1]) (m' := m) [((4, .iload_n 1, 1, 0, 0, 0, 0), (0, 0, 0)), ((5, .ldc_w 329, 3, 0, 0, 5082, 65535), (0, 0, 0))] (by decide +kernel) rfl ?_
    refine hx_cmp .le 13 (by decide +kernel) (fun c2 => ?_) (fun c2 => ?_)
    · have c2 : x1 ≤ 65535 := c2
      refine hx_blk (npc := 22) (L' := [(0, .inr (.inl 0)), (1, .inl x1)]) (st' := [.inl 1]) (m' := (gx_u m 5 4 x1)) [((13, .aload_n 0, 1, 0, 0, 0, 0), (0, 0, 0)), ((14, .getfield 26, 3, 9, 2, 2121, 0), (1, 0, 5)), ((17, .iload_n 1, 1, 0, 0, 0, 0), (0, 0, 0)), ((18, .putfield 330, 3, 2, 4, 1088, 0), (0, 5, 0)), ((21, .iconst 1, 1, 0, 0, 0, 0), (0, 0, 0))] (by decide +kernel) rfl ?_
      exact hx_reti (by decide +kernel) (h2 c1 c2)
    · have c2 : 65535 < x1 := by have h : ¬ (x1 ≤ 65535) := c2; omega
      refine hx_blk (npc := 12) (L' := [(0, .inr (.inl 0)), (1, .inl x1)]) (st' := [.inl 0]) (m' := m) [((11, .iconst 0, 1, 0, 0, 0, 0), (0, 0, 0))] (by decide +kernel) rfl ?_
      exact hx_reti (by decide +kernel) (h3 c1 c2)
end
section
/-! persons, years, the seed, days: the whole state behind both -/
section WB
variable {xs : List Int32} {n : Nat} {m : gx_M}
theorem hPL_x {m m' : gx_M} (h : ∀ c k, c ≠ 0 → (c < 5 ∨ 17 < c) → c ≠ 87 → m' c k = m c k) : hAg hPL m m' := by
  intro q hq k h1 h2
  simp only [hPL, List.mem_cons, List.not_mem_nil, or_false] at hq
  rcases hq with rfl | rfl | rfl | rfl | rfl | rfl | rfl | rfl | rfl | rfl | rfl | rfl | rfl <;> exact h _ _ (by decide) (by decide) (by decide)
/-- a new state, where the book and the row alone were written -/
theorem hWr_s {s' : Nat → Int} {m' : gx_M} (h : hWr xs m) (f : ∀ c k, c ≠ 0 → (c < 5 ∨ 17 < c) → c ≠ 87 → m' c k = m c k) (f0 : ∀ k, m' 0 k = m 0 k) (h1 : sOK s') (h2 : sBk 5 s' m') (e : m' 87 = s') : hWr xs m' := by
  unfold hWr
  have e89 : m' 89 = m 89 := funext (fun k => f 89 k (by decide) (by decide) (by decide))
  rw [e, e89]
  exact hWs_mk h h1 h2 (f0 12) (f0 13) (f 86 47 (by decide) (by decide) (by decide)) (f 86 44 (by decide) (by decide) (by decide)) (fun c c1 c2 => funext (fun k => f c k (by omega) (by omega) (by omega))) (hPL_x f)
theorem or_bit {X P p : Nat} (hX : X < 256) (hP : P < 8) (hp : p < 8) : gx_and (gx_shr (gx_or (X : Int) (gx_shl 1 (P : Int))) (p : Int)) 1 = if (X.testBit p || decide (P = p)) = true then 1 else 0 := by
  have h2 : 2 ^ P < 256 := by
    have : P = 0 ∨ P = 1 ∨ P = 2 ∨ P = 3 ∨ P = 4 ∨ P = 5 ∨ P = 6 ∨ P = 7 := by omega
    rcases this with rfl | rfl | rfl | rfl | rfl | rfl | rfl | rfl <;> decide
  have h3 : X ||| 2 ^ P < 2 ^ 8 := Nat.or_lt_two_pow hX h2
  rw [hshl_one P (by omega), hor_nat (by omega) (by omega), hibit (by omega) (by omega), Nat.testBit_or, Nat.testBit_two_pow]
theorem or_bd {X P : Nat} (hX : X < 256) (hP : P < 8) : 0 ≤ gx_or (X : Int) (gx_shl 1 (P : Int)) ∧ gx_or (X : Int) (gx_shl 1 (P : Int)) ≤ 255 := by
  have h2 : 2 ^ P < 256 := by
    have : P = 0 ∨ P = 1 ∨ P = 2 ∨ P = 3 ∨ P = 4 ∨ P = 5 ∨ P = 6 ∨ P = 7 := by omega
    rcases this with rfl | rfl | rfl | rfl | rfl | rfl | rfl | rfl <;> decide
  have h3 : X ||| 2 ^ P < 2 ^ 8 := Nat.or_lt_two_pow hX h2
  rw [hshl_one P (by omega), hor_nat (by omega) (by omega)]
  omega
theorem ww_person {x1 x2 : Int} (hR : hWr xs m) : hxn xs n yp_m11 0 [(0, .inr (.inl 0)), (1, .inl x1), (2, .inl x2)] [] m (fun _ m1 => hxn xs n yp_m161 0 [(0, .inr (.inl 86)), (1, .inl x1), (2, .inl x2)] [] m1 (fun _ m2 => hWr xs m2)) := by
  have hno : (¬ (0 ≤ x1 ∧ x1 ≤ 7) ∨ ¬ (0 ≤ x2 ∧ x2 ≤ 99999)) → hxn xs n yp_m161 0 [(0, .inr (.inl 86)), (1, .inl x1), (2, .inl x2)] [] m (fun _ m2 => hWr xs m2) := fun hn =>
    hx_dn (hr161_0 (fun a b => absurd hn (by omega)) (fun _ _ => hR) (fun _ => hR))
  refine hx_dn (hr11_0 (fun _ => hno (by omega)) (fun _ _ => hno (by omega)) (fun _ _ _ => hno (by omega)) (fun a b c d => ?_) (fun _ _ _ _ => hno (by omega)))
  refine hx_dn (hr161_0 (fun _ _ => ?_) (fun _ hn => absurd hn (by omega)) (fun hn => absurd hn (by omega)))
  obtain ⟨P, rfl⟩ : ∃ P : Nat, x1 = (P : Int) := ⟨x1.toNat, by omega⟩
  have hP : P < 8 := by omega
  rw [Int.toNat_natCast, w1120 hP]
  have hs := hR.1
  have hB := hR.2.1
  have hT := hs.2.2.2.1
  obtain ⟨X, hX⟩ : ∃ X : Nat, m 87 1128 = (X : Int) := ⟨(m 87 1128).toNat, by omega⟩
  have hX2 : X < 256 := by omega
  have e5 : m 5 0 = m 87 1128 := sB5_ppl hB
  have e6 : gx_u (gx_u m 5 0 (gx_or (m 5 0) (gx_shl 1 (P : Int)))) 6 P x2 87 1128 = m 87 1128 := by
    rw [gx_u_ne (by omega), gx_u_ne (by omega)]
  rw [e6, e5]
  have k1 : sOK (su (m 87) 1128 (gx_or (m 87 1128) (gx_shl 1 (P : Int)))) := by
    refine sK_ppl (by rw [hX]; exact or_bd hX2 hP) (fun p hp c => ?_) hs
    rw [hX, or_bit hX2 hP hp] at c
    left
    rw [hX, hibit (by omega) (by omega)]
    cases hb : X.testBit p with
    | false => rfl
    | true =>
      rw [hb, Bool.true_or] at c
      exact absurd c (by decide)
  refine hWr_s hR (fun c k b1 b2 b3 => ?_) (fun k => ?_) (sK_coin hP (by omega) (fun c => ?_) k1) ?_ (by rw [gx_su, gx_su, gx_u_off (by decide), gx_u_off (by decide)])
  · rw [gx_u_off b3, gx_u_off b3, gx_u_off (by omega), gx_u_off (by omega)]
  · rw [gx_u_off (by decide), gx_u_off (by decide), gx_u_off (by decide), gx_u_off (by decide)]
  · rw [su_self, hX, or_bit hX2 hP hP, decide_eq_true (rfl : P = P), Bool.or_true] at c
    exact absurd c (by decide)
  · refine sBk_c (m := gx_u (gx_u m 5 0 (gx_or (m 87 1128) (gx_shl 1 (P : Int)))) 6 P x2) (fun c c1 c2 => ?_) (sU_coin (b := 5) hP (sU_ppl (b := 5) hB))
    rw [gx_u_off (by omega), gx_u_off (by omega)]
/-! a year -/
def yearS (s : Nat → Int) (Y : Nat) (x2 x3 x4 x5 x6 x7 : Int) : Nat → Int := su (su (su (su (su (su (su (su (su (su (su (su (su s (440 + Y) 1) (0 + Y) x2) (40 + Y) x3) (80 + Y) x4) (120 + Y) x5) (160 + Y) x6) (200 + Y) x7) (240 + Y) x3) (280 + Y) (-2)) (320 + Y) 0) (360 + Y) 0) (400 + Y) 1) (480 + 16 * Y) x3
theorem yearS_at {s : Nat → Int} {Y : Nat} (hY : Y < 40) {x2 x3 x4 x5 x6 x7 : Int} (k : Nat) : yearS s Y x2 x3 x4 x5 x6 x7 k = if k = 480 + 16 * Y then x3 else if k = 400 + Y then 1 else if k = 360 + Y then 0 else if k = 320 + Y then 0 else if k = 280 + Y then -2 else if k = 240 + Y then x3 else if k = 200 + Y then x7 else if k = 160 + Y then x6 else if k = 120 + Y then x5 else if k = 80 + Y then x4 else if k = 40 + Y then x3 else if k = Y then x2 else if k = 440 + Y then 1 else s k := by
  unfold yearS su
  rw [Nat.zero_add]
theorem yearS_c {s : Nat → Int} {Y : Nat} (hY : Y < 40) {g x2 x3 x4 x5 x6 x7 : Int} : sGo (su (su (su (su (su (su (su (su (su s (280 + Y) g) Y x2) (80 + Y) x4) (120 + Y) x5) (200 + Y) x7) (440 + Y) 1) (160 + Y) x6) (40 + Y) x3) (400 + Y) 0) Y x3 = yearS s Y x2 x3 x4 x5 x6 x7 := by
  unfold sGo
  rw [su_self, if_neg (by decide)]
  funext k
  rw [yearS_at hY]
  unfold sPwn
  have e0 : (0 : Int).toNat = 0 := rfl
  rw [e0]
  by_cases c1 : k = 480 + 16 * Y
  · rw [if_pos c1, su_ne (by omega), c1, Nat.add_zero, su_self]
  rw [if_neg c1]
  by_cases c2 : k = 400 + Y
  · rw [if_pos c2, c2, su_self]
    rfl
  rw [if_neg c2, su_ne c2, su_ne (by omega)]
  by_cases c3 : k = 360 + Y
  · rw [if_pos c3, c3, su_self]
  rw [if_neg c3, su_ne c3]
  by_cases c4 : k = 320 + Y
  · rw [if_pos c4, c4, su_self]
  rw [if_neg c4, su_ne c4]
  by_cases c5 : k = 280 + Y
  · rw [if_pos c5, c5, su_self]
  rw [if_neg c5, su_ne c5]
  by_cases c6 : k = 240 + Y
  · rw [if_pos c6, c6, su_self]
  rw [if_neg c6, su_ne c6, su_ne c2]
  by_cases c7 : k = 200 + Y
  · rw [if_pos c7, c7, su_ne (by omega), su_ne (by omega), su_ne (by omega), su_self]
  rw [if_neg c7]
  by_cases c8 : k = 160 + Y
  · rw [if_pos c8, c8, su_ne (by omega), su_self]
  rw [if_neg c8]
  by_cases c9 : k = 120 + Y
  · rw [if_pos c9, c9, su_ne (by omega), su_ne (by omega), su_ne (by omega), su_ne (by omega), su_self]
  rw [if_neg c9]
  by_cases c10 : k = 80 + Y
  · rw [if_pos c10, c10, su_ne (by omega), su_ne (by omega), su_ne (by omega), su_ne (by omega), su_ne (by omega), su_self]
  rw [if_neg c10]
  by_cases c11 : k = 40 + Y
  · rw [if_pos c11, c11, su_self]
  rw [if_neg c11, su_ne c11, su_ne c8]
  by_cases c12 : k = Y
  · rw [if_pos c12, c12, su_ne (by omega), su_ne (by omega), su_ne (by omega), su_ne (by omega), su_self]
  rw [if_neg c12]
  by_cases c13 : k = 440 + Y
  · rw [if_pos c13, c13, su_self]
  rw [if_neg c13, su_ne c13, su_ne c7, su_ne c9, su_ne c10, su_ne c12, su_ne c5]
theorem yearS_ok {s : Nat → Int} (hs : sOK s) {Y : Nat} (hY : Y < 40) {x2 x3 x4 x5 x6 x7 : Int} (h2 : 0 ≤ x2 ∧ x2 ≤ 99) (h3 : 0 ≤ x3 ∧ x3 ≤ 7) (h4 : 0 ≤ x4 ∧ x4 ≤ 4095) (h5 : 0 ≤ x5 ∧ x5 ≤ 255) (h6 : x6 = 0 ∨ x6 = 1) (h7 : 0 ≤ x7 ∧ x7 ≤ 9) : sOK (yearS s Y x2 x3 x4 x5 x6 x7) := by
  unfold yearS
  rw [Nat.zero_add]
  exact sK_hand (by omega) h3 (sK_many hY (by decide) (sK_due hY (by decide) (sK_lent hY (by decide) (sK_hold hY (.inl rfl) (sK_own hY h3 (sK_mark hY h7 (sK_deed hY h6 (sK_met hY h5 (sK_skl hY h4 (sK_livr hY h3 (sK_date hY h2 (sK_there hY (.inr rfl) hs))))))))))))
theorem c12W {Q : hQ} {s : Nat → Int} (hs : sOK s) (hB : sBk 5 s m) {x1 x2 x3 x4 x5 x6 x7 : Int} (h1 : ∀ (Y : Nat) (m1 : gx_M), x1 = Y → Y < 40 → yrOK s x1 x2 x3 x4 x5 x7 → sBk 5 (yearS s Y x2 x3 x4 x5 (if x6 = 0 then 0 else 1) x7) m1 → bFr 5 m m1 → Q (some (.inl 1)) m1) (h0 : ¬ yrOK s x1 x2 x3 x4 x5 x7 → Q (some (.inl 0)) m) : hxn xs n yp_m12 0 [(0, .inr (.inl 0)), (1, .inl x1), (2, .inl x2), (3, .inl x3), (4, .inl x4), (5, .inl x5), (6, .inl x6), (7, .inl x7)] [] m Q := by
  have hs' : m 5 0 = s 1128 := sB5_ppl hB
  have hp : cPers 5 m x3 ↔ aPers s x3 := cP_iff hB
  have no : ∀ {P : Prop}, P → (yrOK s x1 x2 x3 x4 x5 x7 → ¬ P) → Q (some (.inl 0)) m := fun hP h => h0 (fun ok => h ok hP)
  refine hx_dn (hr12_0 (fun c => no c (fun ok => by have := ok.1; omega)) (fun _ c => no c (fun ok => by have := ok.1; omega)) (fun _ _ c => no c (fun ok => by have := ok.2.1; omega)) (fun _ _ _ c => no c (fun ok => by have := ok.2.1; omega)) (fun _ _ _ _ c => no c (fun ok => by have := ok.2.2.2.2.2.2.2; omega)) (fun _ _ _ _ _ _ c => no c (fun ok => by have := ok.2.2.2.1; omega)) (fun _ _ _ _ _ _ _ c => no c (fun ok => by have := ok.2.2.2.1; omega)) (fun a1 a2 a3 a4 a5 a6 a7 a8 a9 a10 a11 => ?_) (fun _ _ _ _ _ _ _ _ _ _ c => no c (fun ok => by
    have := ok.2.2.2.2.2.1
    have := hb01 x5 x3
    omega)) (fun _ _ _ _ _ _ _ _ _ c => no c (fun ok => by
    have h5 := ok.2.2.2.2.1
    have h7 := ok.2.2.2.2.2.2.1
    exact fun hn => hn ⟨h5.1, h5.2, by rw [hs']; exact h7⟩)) (fun _ _ _ _ _ _ _ _ c => no c (fun ok => fun hn => hn (hp.mpr ok.2.2.1))) (fun _ _ _ _ _ c => no c (fun ok => by have := ok.2.2.2.2.2.2.2; omega)))
  obtain ⟨Y, rfl⟩ : ∃ Y : Nat, x1 = Y := ⟨x1.toNat, by omega⟩
  have hY : Y < 40 := by omega
  have hok : yrOK s Y x2 x3 x4 x5 x7 := ⟨by omega, by omega, hp.mp a9, by omega, ⟨a10.1, a10.2.1⟩, by have := hb01 x5 x3; omega, by rw [← hs']; exact a10.2.2, by omega⟩
  rw [Int.toNat_natCast]
  have hg : sBk 5 (su s (280 + Y) (m 13 Y)) m := by
    obtain ⟨g1, g2, g3, g4⟩ := hB
    have mk : ∀ B : Nat, (B = 440 ∨ B = 160) → hmask (fun y => decide (su s (280 + Y) (m 13 Y) (B + y) = 1)) 40 = hmask (fun y => decide (s (B + y) = 1)) 40 := fun B hB' => hmask_ext 40 (fun j hj => by rw [su_ne (by omega)])
    refine ⟨⟨by rw [su_ne (by omega)]; exact g1.1, by rw [mk 440 (.inl rfl)]; exact g1.2.1, by rw [mk 160 (.inr rfl)]; exact g1.2.2.1, by rw [su_ne (by omega)]; exact g1.2.2.2.1, by rw [su_ne (by omega)]; exact g1.2.2.2.2⟩, fun p hp => by rw [su_ne (by omega)]; exact g2 p hp, fun y hy => ?_, fun k hk => by rw [su_ne (by omega)]; exact g4 k hk⟩
    obtain ⟨q1, q2, q3, q4⟩ := g3 y hy
    rw [su_ne (j := y) (by omega), su_ne (j := 40 + y) (by omega), su_ne (j := 80 + y) (by omega), su_ne (j := 120 + y) (by omega), su_ne (j := 200 + y) (by omega), su_ne (j := 240 + y) (by omega), su_ne (j := 320 + y) (by omega), su_ne (j := 360 + y) (by omega), su_ne (j := 400 + y) (by omega), su_ne (j := 440 + y) (by omega)]
    refine ⟨q1, q2, fun ht => ?_, q4⟩
    by_cases e : y = Y
    · subst e
      rw [su_self]
    · rw [su_ne (by omega)]
      exact q3 ht
  have b4 : sBk 5 (su (su (su (su (su s (280 + Y) (m 13 Y)) Y x2) (80 + Y) x4) (120 + Y) x5) (200 + Y) x7) (gx_u (gx_u (gx_u (gx_u m 7 Y x2) 9 Y x4) 10 Y x5) 11 Y x7) := sU_mark (b := 5) hY (sU_met (b := 5) hY (sU_skl (b := 5) hY (sU_date (b := 5) hY hg)))
  have f4 : bFr 5 m (gx_u (gx_u (gx_u (gx_u m 7 Y x2) 9 Y x4) 10 Y x5) 11 Y x7) := bFr_t (bFr_t (bFr_t (bFr_u (by decide)) (bFr_u (by decide))) (bFr_u (by decide))) (bFr_u (by decide))
  have e13 : (gx_u (gx_u (gx_u (gx_u m 7 Y x2) 9 Y x4) 10 Y x5) 11 Y x7) (5 + 8) Y = (su (su (su (su (su s (280 + Y) (m 13 Y)) Y x2) (80 + Y) x4) (120 + Y) x5) (200 + Y) x7) (280 + Y) := by
    rw [gx_u_ne (by omega), gx_u_ne (by omega), gx_u_ne (by omega), gx_u_ne (by omega), su_ne (by omega), su_ne (by omega), su_ne (by omega), su_ne (by omega), su_self]
  generalize gx_u (gx_u (gx_u (gx_u m 7 Y x2) 9 Y x4) 10 Y x5) 11 Y x7 = M at b4 f4 e13 ⊢
  have fin : ∀ m1, sBk 5 (yearS s Y x2 x3 x4 x5 (if x6 = 0 then 0 else 1) x7) m1 → bFr 5 m m1 → hxn xs n yp_m12 137 [] (hrs none ++ []) m1 Q := fun m1 hm1 f1 => hx_dn (hr12_137 (h1 Y m1 rfl hY hok hm1 f1))
  have end15 : ∀ (x : Int) (M2 : gx_M), x = (if x6 = 0 then 0 else 1) → sBk 5 (su (su (su (su (su (su (su (su (su s (280 + Y) (m 13 Y)) Y x2) (80 + Y) x4) (120 + Y) x5) (200 + Y) x7) (440 + Y) 1) (160 + Y) x) (40 + Y) x3) (400 + Y) 0) M2 → bFr 5 m M2 → hxn xs n yp_m16 0 [(0, .inr (.inl 5)), (1, .inl (Y : Int)), (2, .inl x3)] [] M2 (fun r m' => hxn xs n yp_m15 74 [] (hrs r ++ []) m' (fun r m' => hxn xs n yp_m12 137 [] (hrs r ++ []) m' Q)) := fun x M2 hx b f => by
    refine cd16 hY (by rw [su_self]; decide) b (by rw [su_ne (by omega), su_ne (by omega), su_ne (by omega), su_self]) (fun m1 q1 q2 => ?_)
    rw [yearS_c hY, hx] at q1
    exact hx_dn (hr15_74 (fin m1 q1 (bFr_t f q2)))
  have by1 := sU_yrs1 (b := 5) hY e13 b4
  refine hx_dn (hr15_0 (fun c => absurd c (by omega)) (fun _ _ c => ?_) (fun _ _ c => ?_) (fun _ c => absurd c (by omega)))
  · rw [Int.toNat_natCast]
    refine end15 0 _ (by rw [if_pos c]) ?_ ?_
    · exact sU_many (b := 5) hY (sU_livr (b := 5) hY (by
        have := sU_dds0 (b := 5) hY by1
        rw [gx_u_ne (by decide)] at this
        exact this))
    · exact bFr_t f4 (bFr_t (bFr_t (bFr_t (bFr_u (by decide)) (bFr_u (by decide))) (bFr_u (by decide))) (bFr_u (by decide)))
  · rw [Int.toNat_natCast]
    refine end15 1 _ (by rw [if_neg c]) ?_ ?_
    · exact sU_many (b := 5) hY (sU_livr (b := 5) hY (by
        have := sU_dds1 (b := 5) hY by1
        rw [gx_u_ne (by decide)] at this
        exact this))
    · exact bFr_t f4 (bFr_t (bFr_t (bFr_t (bFr_u (by decide)) (bFr_u (by decide))) (bFr_u (by decide))) (bFr_u (by decide)))
theorem yrM_87 {Y : Nat} (hY : Y < 40) {x2 x3 x4 x5 x6 x7 : Int} : yrM m (Y : Int) x2 x3 x4 x5 x6 x7 87 = yearS (m 87) Y x2 x3 x4 x5 x6 x7 := by
  have e0 : (gx_w (0 + (Y : Int))).toNat = 0 + Y := wz (by decide) (by omega)
  have e40 : (gx_w (40 + (Y : Int))).toNat = 40 + Y := wz (by decide) (by omega)
  have e80 : (gx_w (80 + (Y : Int))).toNat = 80 + Y := wz (by decide) (by omega)
  have e120 : (gx_w (120 + (Y : Int))).toNat = 120 + Y := wz (by decide) (by omega)
  have e160 : (gx_w (160 + (Y : Int))).toNat = 160 + Y := wz (by decide) (by omega)
  have e200 : (gx_w (200 + (Y : Int))).toNat = 200 + Y := wz (by decide) (by omega)
  have e480 : (gx_w (480 + (gx_w (16 * (Y : Int))))).toNat = 480 + 16 * Y := by
    rw [gx_w_id (x := 16 * (Y : Int)) (by omega) (by omega), gx_w_id (by omega) (by omega)]
    omega
  unfold yrM
  rw [e0, e40, e80, e120, e160, e200, e480, w240 hY, w280 hY, w320 hY, w360 hY, w400 hY, w440 hY]
  rw [gx_su, gx_su, gx_su, gx_su, gx_su, gx_su, gx_su, gx_su, gx_su, gx_su, gx_su, gx_su, gx_su]
  rfl
theorem yrM_o {c : Nat} (hc : c ≠ 87) {x1 x2 x3 x4 x5 x6 x7 : Int} : yrM m x1 x2 x3 x4 x5 x6 x7 c = m c := by
  unfold yrM
  rw [gx_u_off hc, gx_u_off hc, gx_u_off hc, gx_u_off hc, gx_u_off hc, gx_u_off hc, gx_u_off hc, gx_u_off hc, gx_u_off hc, gx_u_off hc, gx_u_off hc, gx_u_off hc, gx_u_off hc]
theorem ww_year {x1 x2 x3 x4 x5 x6 x7 : Int} (hR : hWr xs m) : hxn xs n yp_m12 0 [(0, .inr (.inl 0)), (1, .inl x1), (2, .inl x2), (3, .inl x3), (4, .inl x4), (5, .inl x5), (6, .inl x6), (7, .inl x7)] [] m (fun _ m1 => hxn xs n yp_m163 0 [(0, .inr (.inl 86)), (1, .inl x1), (2, .inl x2), (3, .inl x3), (4, .inl x4), (5, .inl x5), (6, .inl x6), (7, .inl x7)] [] m1 (fun _ m2 => hWr xs m2)) := by
  refine c12W hR.1 hR.2.1 (fun Y m1 e hY hok hB1 f1 => ?_) (fun hn => hs163 (fun ok => absurd ok hn) (fun _ => hR))
  have e87 : m1 87 = m 87 := f1 87 (by decide)
  refine hs163 (fun _ => ?_) (fun hn => absurd (by rw [e87]; exact hok) hn)
  subst e
  obtain ⟨o1, o2, o3, o4, o5, o6, o7, o8⟩ := hok
  refine hWr_s hR (fun c k b1 b2 b3 => ?_) (fun k => ?_) (yearS_ok hR.1 hY o2 ⟨o3.1, by have := o3.2.1; omega⟩ o4 o5 (by split; exact .inl rfl; exact .inr rfl) o8) (sBk_c (fun c c1 c2 => yrM_o (by omega)) hB1) (by rw [yrM_87 hY, e87])
  · rw [yrM_o b3, f1 c (by omega)]
  · rw [yrM_o (by decide), f1 0 (by decide)]
theorem ww_seed {x1 : Int} (hR : hWr xs m) : hxn xs n yp_m153 0 [(0, .inr (.inl 0)), (1, .inl x1)] [] m (fun _ m1 => hxn xs n yp_m268 0 [(0, .inr (.inl 86)), (1, .inl x1)] [] m1 (fun _ m2 => hWr xs m2)) := by
  refine hx_dn (hr153_0 (fun c => ?_) (fun c d => ?_) (fun c d => ?_))
  · exact hx_dn (hr268_0 (fun c2 => absurd c2 (by omega)) (fun _ => hR))
  · refine hx_dn (hr268_0 (fun _ => ?_) (fun c2 => absurd c2 (by omega)))
    refine hWr_s hR (fun c k b1 b2 b3 => ?_) (fun k => ?_) (sK_lot (by omega) hR.1) (sBk_c (fun c c1 c2 => gx_u_off (by omega)) (sU_lot (b := 5) hR.2.1)) (by rw [gx_su, gx_u_off (by decide)])
    · rw [gx_u_off b3, gx_u_off (by omega)]
    · rw [gx_u_off (by decide), gx_u_off (by decide)]
  · exact hx_dn (hr268_0 (fun c2 => absurd c2 (by omega)) (fun _ => hR))
end WB
end
section
/-! what is kept, put back; the law, deals, days: the whole state behind both -/
theorem hPL_of {m m' : gx_M} (h : ∀ c k, ((c = 44 ∧ k = 7) ∨ (45 ≤ c ∧ c ≤ 50) ∨ (c = 86 ∧ k = 13) ∨ (97 ≤ c ∧ c ≤ 101)) → m' c k = m c k) : hAg hPL m m' := by
  intro q hq k h1 h2
  simp only [hPL, List.mem_cons, List.not_mem_nil, or_false] at hq
  rcases hq with rfl | rfl | rfl | rfl | rfl | rfl | rfl | rfl | rfl | rfl | rfl | rfl | rfl <;> exact h _ _ (by dsimp only at h1 h2 ⊢; omega)
/-- one relation shown before, the other one with it -/
theorem hway_x {gX R1 R2 : gx_M → Prop} {xs : List Int32} {M1 M2 : sx_M} {L1 L2 : hLs} {C : hV → hV → Prop} {D : Option hV → Option hV → Prop} (h1 : hWay gX R1 xs M1 M2 L1 L2 C) (sp : ∀ n m, hJ gX m → R1 m → R2 m → hxn xs n M1 0 L1 [] m (fun r1 m1 => hxn xs n M2 0 L2 [] m1 (fun r2 m2 => R2 m2 ∧ D r1 r2))) : hWay gX (fun m => R1 m ∧ R2 m) xs M1 M2 L1 L2 (fun a b => C a b ∧ D (some a) (some b)) := fun n m j r =>
  hx_and (h1 n m j r.1) (sp n m j r.1 r.2) (fun r1 m1 ⟨v1, e1, k1⟩ k2 => ⟨v1, e1, hx_and k1 k2 (fun r2 m2 ⟨v2, e2, j2, q1, c1⟩ ⟨q2, d⟩ => ⟨v2, e2, j2, ⟨q1, q2⟩, c1, by rw [e1, e2] at d; exact d⟩)⟩)
section WC
variable {xs : List Int32} {n : Nat} {m : gx_M}
theorem ww_keep (hR : hWr xs m) : hxn xs n yp_m154 0 [(0, .inr (.inl 0))] [] m (fun _ m1 => hxn xs n yp_m269 0 [(0, .inr (.inl 86))] [] m1 (fun _ m2 => hWr xs m2)) := by
  obtain ⟨h1, h2, h3, h4, ⟨W, h5⟩, h6⟩ := hR
  refine hx_dn (hr154_0 ?_)
  refine hs71_18_5 (fun m' hC => ?_)
  obtain ⟨k0, k1, k2, k3, k4, a1, a2, a3, a4, a5, a6, a7, a8, a9, a10, a11, a12, kn⟩ := hC
  refine hx_dn (hr154_11 ?_)
  have kn' : ∀ c, (c < 18 ∨ 30 < c) → m' c = m c := fun c hc => kn c (by
    simp only [List.mem_cons, List.not_mem_nil, or_false, not_or]
    omega)
  have hB5 : sBk 5 (m 87) m' := sBk_c (fun c c1 c2 => kn' c (by omega)) h2
  have hB18 : sBk 18 (m 87) m' := by
    obtain ⟨⟨q1, q2, q3, q4, q5⟩, b2, b3, b4⟩ := h2
    refine ⟨⟨by rw [k0]; exact q1, by rw [k1]; exact q2, by rw [k2]; exact q3, by rw [k3]; exact q4, by rw [k4]; exact q5⟩, fun p hp => (a1 p hp).trans (b2 p hp), fun y hy => ?_, fun k hk => (a12 k hk).trans (b4 k hk)⟩
    obtain ⟨⟨z1, z2, z3, z4, z5⟩, z6, z7, z8, z9, z10⟩ := b3 y hy
    exact ⟨⟨(a2 y hy).trans z1, (a3 y hy).trans z2, (a4 y hy).trans z3, (a5 y hy).trans z4, (a6 y hy).trans z5⟩, (a7 y hy).trans z6, fun ht => (a8 y hy).trans (z7 ht), (a9 y hy).trans z8, (a10 y hy).trans z9, (a11 y hy).trans z10⟩
  rw [sB5_yrs hB5]
  refine hs61 (hmask_lt _ 40) ?_
  refine hx_dn (hr154_26 ?_)
  refine hx_dn (hr269_0 ?_)
  have e87 : m' 87 = m 87 := kn' 87 (by decide)
  obtain ⟨M, hM⟩ : ∃ M, M = hcopy (gx_u (gx_u m' 0 12 1) 86 47 1) 87 0 89 0 1131 := ⟨_, rfl⟩
  rw [← hM]
  have g1 : ∀ c k, c ≠ 89 → ¬ (c = 86 ∧ k = 47) → ¬ (c = 0 ∧ k = 12) → M c k = m' c k := fun c k b1 b2 b3 => by rw [hM, hcopy_ne b1, gx_u_ne b2, gx_u_ne b3]
  have g87 : M 87 = m 87 := by
    rw [← e87]
    exact funext (fun k => g1 87 k (by decide) (by omega) (by omega))
  have g89 : ∀ k, k < 1131 → M 89 k = m 87 k := fun k hk => by rw [hM, hcopy_at hk, gx_u_ne (by omega), gx_u_ne (by omega), e87]
  refine hs270 (fun y hy => by rw [g87]; exact h1.there y hy) ?_
  refine hx_dn (hr269_20 ?_)
  unfold hWr
  rw [g87]
  refine ⟨h1, sBk_c (fun c c1 c2 => funext (fun k => g1 c k (by omega) (by omega) (by omega))) hB5, ?_, fun _ => ⟨sOK_s g89 h1, sBk_s g89 (sBk_c (fun c c1 c2 => funext (fun k => g1 c k (by omega) (by omega) (by omega))) hB18)⟩, ⟨W, lawR_c (hPL_of (fun c k hc => ?_)) h5⟩, ?_⟩
  · rw [hM, hcopy_ne (by decide), gx_u_ne (by decide), gx_u_self, hcopy_ne (by decide), gx_u_self]
  · rw [g1 c k (by omega) (by omega) (by omega), kn' c (by omega)]
  · rw [g1 0 13 (by decide) (by decide) (by decide), g1 86 44 (by decide) (by decide) (by decide), kn' 0 (by decide), kn' 86 (by decide)]
    exact h6
theorem ww_undo (hR : hWr xs m) : hxn xs n yp_m155 0 [(0, .inr (.inl 0))] [] m (fun _ m1 => hxn xs n yp_m271 0 [(0, .inr (.inl 86))] [] m1 (fun _ m2 => hWr xs m2)) := by
  have hR' := hR
  obtain ⟨h1, h2, h3, h4, ⟨W, h5⟩, h6⟩ := hR
  refine hx_dn (hr155_0 (fun hk => ?_) (fun hk => hx_dn (hr271_0 (fun c => absurd (by rw [← h3]; exact hk) c) (fun _ => hR'))))
  have hkr : m 86 47 ≠ 0 := by rw [← h3]; exact hk
  obtain ⟨o1, o2⟩ := h4 hkr
  refine hs71_5_18 (fun m' hC => ?_)
  obtain ⟨k0, k1, k2, k3, k4, a1, a2, a3, a4, a5, a6, a7, a8, a9, a10, a11, a12, kn⟩ := hC
  have kn' : ∀ c, (c < 5 ∨ 17 < c) → m' c = m c := fun c hc => kn c (by
    simp only [List.mem_cons, List.not_mem_nil, or_false, not_or]
    omega)
  have hB18 : sBk 18 (m 89) m' := sBk_c (fun c c1 c2 => kn' c (by omega)) o2
  have hB5 : sBk 5 (m 89) m' := by
    obtain ⟨⟨q1, q2, q3, q4, q5⟩, b2, b3, b4⟩ := o2
    refine ⟨⟨by rw [k0]; exact q1, by rw [k1]; exact q2, by rw [k2]; exact q3, by rw [k3]; exact q4, by rw [k4]; exact q5⟩, fun p hp => (a1 p hp).trans (b2 p hp), fun y hy => ?_, fun k hk => (a12 k hk).trans (b4 k hk)⟩
    obtain ⟨⟨z1, z2, z3, z4, z5⟩, z6, z7, z8, z9, z10⟩ := b3 y hy
    exact ⟨⟨(a2 y hy).trans z1, (a3 y hy).trans z2, (a4 y hy).trans z3, (a5 y hy).trans z4, (a6 y hy).trans z5⟩, (a7 y hy).trans z6, fun ht => (a8 y hy).trans (z7 ht), (a9 y hy).trans z8, (a10 y hy).trans z9, (a11 y hy).trans z10⟩
  have e86 : m' 86 = m 86 := kn' 86 (by decide)
  have e89 : m' 89 = m 89 := kn' 89 (by decide)
  refine hx_dn (hr155_20 (hx_dn (hr271_0 (fun _ => ?_) (fun c => absurd c (by rw [e86]; exact hkr)))))
  obtain ⟨M, hM⟩ : ∃ M, M = hcopy m' 89 0 87 0 1131 := ⟨_, rfl⟩
  rw [← hM]
  have g1 : ∀ c, c ≠ 87 → M c = m' c := fun c b1 => funext (fun k => by rw [hM, hcopy_ne b1])
  have g87 : ∀ k, k < 1131 → M 87 k = m 89 k := fun k hk => by rw [hM, hcopy_at hk, e89]
  have g89 : M 89 = m 89 := (g1 89 (by decide)).trans e89
  unfold hWr
  rw [g89]
  refine ⟨sOK_s g87 o1, sBk_s g87 (sBk_c (fun c c1 c2 => g1 c (by omega)) hB5), ?_, fun _ => ⟨o1, sBk_c (fun c c1 c2 => g1 c (by omega)) hB18⟩, ⟨W, lawR_c (hPL_of (fun c k hc => ?_)) h5⟩, ?_⟩
  · rw [g1 0 (by decide), g1 86 (by decide), e86, kn' 0 (by decide)]
    exact h3
  · rw [g1 c (by omega), kn' c (by omega)]
  · rw [g1 0 (by decide), g1 86 (by decide), e86, kn' 0 (by decide)]
    exact h6
/-! the law -/
theorem ww_law {a : Int} (hT : hTp m) (hR : hWr xs m) : hxn xs n yp_m22 0 [(0, .inr (.inl 0)), (1, .inl a)] [] m (fun _ m1 => hxn xs n yp_m168 0 [(0, .inr (.inl 86)), (1, .inl a)] [] m1 (fun _ m2 => hWr xs m2 ∧ True)) := by
  have hR' := hR
  obtain ⟨t1, t2, t3, t4⟩ := hT
  by_cases hN : 1 ≤ a ∧ a ≤ 240 ∧ a ≤ m 1 1
  · obtain ⟨N, rfl⟩ : ∃ N : Nat, a = (N : Int) := ⟨a.toNat, by omega⟩
    refine c22 (by omega) hN.2.2 (fun K CL m1 ok lw z f => ?_) (fun f m1 wr z fl => ?_)
    · have e4 : m1 86 4 = m 86 4 := f 86 4 (by decide) (by decide) (by decide) (by decide) (by decide) (by decide) (by omega) (by decide) (by decide) (by decide) (by decide) (by decide) (by decide) (by decide) (by decide) (by decide) (by omega)
      refine r168T (T := m 2) (by omega) (by omega) (fun k hk => ?_) ok (fun m2 lw2 z2 g => ⟨?_, trivial⟩)
      · rw [f 90 k (by decide) (by decide) (by decide) (by decide) (by decide) (by decide) (by omega) (by decide) (by decide) (by decide) (by decide) (by decide) (by decide) (by decide) (by decide) (by decide) (by omega)]
        exact t4 k (by omega)
      · have ff : ∀ c k, (c = 0 ∨ (5 ≤ c ∧ c ≤ 30) ∨ c = 87 ∨ c = 89 ∨ (c = 86 ∧ 14 ≤ k)) → m2 c k = m c k := fun c k hc => by
          have q1 : m1 c k = m c k := f c k (by omega) (by omega) (by omega) (by omega) (by omega) (by omega) (by omega) (by omega) (by omega) (by omega) (by omega) (by omega) (by omega) (by omega) (by omega) (by omega) (by omega)
          rw [← q1]
          by_cases e : c = 86
          · subst e
            exact g.2 k (by omega) (by omega) (by omega) (by omega) (by omega) (by omega) (by omega) (by omega) (by omega) (by omega)
          · exact g.1 c k e (by omega) (by omega) (by omega) (by omega) (by omega) (by omega) (by omega) (by omega) (by omega) (by omega) (by omega)
        obtain ⟨h1, h2, h3, h4, -, h6⟩ := hR
        obtain ⟨s1, s2, rc, re, s3⟩ := lOk_sem (by omega) ok xs
        have lw' : cLw K CL m2 := by
          have q : ∀ c k, 44 ≤ c → c ≤ 50 → m2 c k = m1 c k := fun c k b1 b2 => g.1 c k (by omega) (by omega) (by omega) (by omega) (by omega) (by omega) (by omega) (by omega) (by omega) (by omega) (by omega) (by omega)
          refine ⟨by rw [q 44 7 (by decide) (by decide)]; exact lw.1, fun i c hc => ?_, fun i c hc => ?_⟩
          · rw [q 45 i (by decide) (by decide), q 46 i (by decide) (by decide)]
            exact lw.2.1 i c hc
          · rw [q 47 i (by decide) (by decide), q 48 i (by decide) (by decide), q 49 i (by decide) (by decide), q 50 i (by decide) (by decide)]
            exact lw.2.2 i c hc
        have e87 : m2 87 = m 87 := funext (fun k => ff 87 k (by omega))
        have e89 : m2 89 = m 89 := funext (fun k => ff 89 k (by omega))
        unfold hWr
        rw [e87, e89]
        refine ⟨h1, sBk_c (fun c c1 c2 => funext (fun k => ff c k (by omega))) h2, by rw [ff 0 12 (by omega), ff 86 47 (by omega)]; exact h3, fun hk => ?_, ⟨_, K, CL, rc, re, s1, s2, lw', lw2, s3, rfl⟩, by rw [ff 0 13 (by omega), ff 86 44 (by omega)]; exact h6⟩
        obtain ⟨z1, z2⟩ := h4 (by rw [← ff 86 47 (by omega)]; exact hk)
        exact ⟨z1, sBk_c (fun c c1 c2 => funext (fun k => ff c k (by omega))) z2⟩
    · have e4 : m1 86 4 = m 86 4 := fl 86 4 (by decide) (by decide) (by decide) (by decide) (by decide) (by decide) (by decide) (by decide) (by decide) (by omega)
      refine r168F (T := m 2) (by omega) (by omega) (fun k hk => ?_) wr (fun m2 z2 g => ⟨?_, trivial⟩)
      · rw [fl 90 k (by decide) (by decide) (by decide) (by decide) (by decide) (by decide) (by decide) (by decide) (by decide) (by omega)]
        exact t4 k (by omega)
      · refine hWr_c (m := m) (fun q hq k b1 b2 => ?_) hR'
        have q1 : m1 q.1 k = m q.1 k ∧ m2 q.1 k = m1 q.1 k := by
          simp only [hPR, hPL, List.mem_append, List.mem_cons, List.not_mem_nil, or_false] at hq
          have hc : (q.1 = 0 ∧ 12 ≤ k) ∨ (5 ≤ q.1 ∧ q.1 ≤ 30) ∨ (44 ≤ q.1 ∧ q.1 ≤ 50) ∨ (q.1 = 86 ∧ 13 ≤ k) ∨ q.1 = 87 ∨ q.1 = 89 ∨ (97 ≤ q.1 ∧ q.1 ≤ 101) := by
            rcases hq with (rfl | rfl | rfl | rfl | rfl | rfl | rfl | rfl | rfl | rfl | rfl | rfl | rfl | rfl | rfl | rfl | rfl | rfl | rfl | rfl | rfl | rfl | rfl | rfl | rfl | rfl | rfl | rfl | rfl | rfl | rfl) | (rfl | rfl | rfl | rfl | rfl | rfl | rfl | rfl | rfl | rfl | rfl | rfl | rfl) <;> dsimp only at b1 b2 ⊢ <;> omega
          generalize q.1 = c at hc
          refine ⟨fl c k (by omega) (by omega) (by omega) (by omega) (by omega) (by omega) (by omega) (by omega) (by omega) (by omega), ?_⟩
          by_cases e : c = 86
          · subst e
            exact g.2 k (by omega) (by omega) (by omega) (by omega) (by omega) (by omega) (by omega) (by omega) (by omega)
          · exact g.1 c k e (by omega) (by omega) (by omega) (by omega) (by omega) (by omega)
        exact q1.2.trans q1.1
  · exact c22n hN (r168n (by rw [← t3]; exact hN) ⟨hR', trivial⟩)
/-! deals -/
noncomputable def aSt (W : (Int → Int) → Int → Option Int) (s : Nat → Int) (a : hAct) : (Nat → Int) × Int := @ite _ (dCan W s a) (Classical.propDecidable _) (dDo s a, 1) (s, 0)
theorem aSt_t {W : (Int → Int) → Int → Option Int} {s : Nat → Int} {a : hAct} (h : dCan W s a) : aSt W s a = (dDo s a, 1) := if_pos h
theorem aSt_f {W : (Int → Int) → Int → Option Int} {s : Nat → Int} {a : hAct} (h : ¬ dCan W s a) : aSt W s a = (s, 0) := if_neg h
noncomputable def aLs (W : (Int → Int) → Int → Option Int) (s : Nat → Int) (A : List hAct) : Nat → (Nat → Int) × Int
  | 0 => (s, 0)
  | i + 1 => match A[i]? with
    | some a => ((aSt W (aLs W s A i).1 a).1, (aLs W s A i).2 + (aSt W (aLs W s A i).1 a).2)
    | none => aLs W s A i
theorem aLs_s {W : (Int → Int) → Int → Option Int} {s : Nat → Int} {A : List hAct} {i : Nat} {a : hAct} (h : A[i]? = some a) : aLs W s A (i + 1) = ((aSt W (aLs W s A i).1 a).1, (aLs W s A i).2 + (aSt W (aLs W s A i).1 a).2) := by
  show (match A[i]? with
    | some a => ((aSt W (aLs W s A i).1 a).1, (aLs W s A i).2 + (aSt W (aLs W s A i).1 a).2)
    | none => aLs W s A i) = _
  rw [h]
theorem la_some {A : List hAct} {i : Nat} (h : i < A.length) : ∃ c, A[i]? = some c := ⟨A[i], List.getElem?_eq_getElem h⟩
theorem la_ok {A : List hAct} {i : Nat} {a : hAct} (h : A[i]? = some a) (ha : ∀ a ∈ A, aOK a) : aOK a := ha a (List.mem_of_getElem? h)
theorem aLs_ok {W : (Int → Int) → Int → Option Int} {s : Nat → Int} {A : List hAct} (hs : sOK s) (ha : ∀ a ∈ A, aOK a) : ∀ i, i ≤ A.length → sOK (aLs W s A i).1 ∧ 0 ≤ (aLs W s A i).2 ∧ (aLs W s A i).2 ≤ i
  | 0, _ => ⟨hs, Int.le_refl _, Int.le_refl _⟩
  | i + 1, hi => by
    obtain ⟨a, hA⟩ := la_some (A := A) (i := i) (by omega)
    obtain ⟨h1, h2, h3⟩ := aLs_ok (W := W) hs ha i (by omega)
    rw [aLs_s hA]
    rcases Classical.em (dCan W (aLs W s A i).1 a) with c | c
    · rw [aSt_t c]
      refine ⟨dDo_ok (la_ok hA ha) h1 c, ?_⟩
      dsimp only
      omega
    · rw [aSt_f c]
      refine ⟨h1, ?_⟩
      dsimp only
      omega
variable {Q : hQ} {s : Nat → Int} {W : (Int → Int) → Int → Option Int} {A : List hAct} {m0 : gx_M}
theorem c48l (hL : lawR xs W m0) (hA : cAc A m0) (ha : ∀ a ∈ A, aOK a) (h16 : A.length ≤ 16) (hs : sOK s) (hB : sBk 5 s m0) (h : ∀ m', sBk 5 (aLs W s A A.length).1 m' → cDf 5 m0 m' → Q (some (.inl (aLs W s A A.length).2)) m') : hxn xs n yp_m48 54 [(0, .inr (.inl 0)), (2, .inl 0), (3, .inl 0)] [] m0 Q := by
  have hl := hloop (N := A.length) (P := fun i => ∀ m : gx_M, sBk 5 (aLs W s A i).1 m → cDf 5 m0 m → hxn xs n yp_m48 54 [(0, .inr (.inl 0)), (2, .inl (aLs W s A i).2), (3, .inl (i : Int))] [] m Q) (fun m hB hf => ?_) (fun i hi ih => ?_) 0 (Nat.zero_le _)
  · exact hl m0 hB (fun _ _ _ _ _ => rfl)
  · have hn := (cAc_f5 hf hA).1
    exact hx_dn (hr48_54 (fun _ => h m hB hf) (fun c => absurd c (by omega)))
  · intro m hB hf
    have hA' := cAc_f5 hf hA
    obtain ⟨a, hi'⟩ := la_some hi
    obtain ⟨ok, g1, g2⟩ := aLs_ok (W := W) hs ha i (by omega)
    have hn := hA'.1
    rw [aLs_s hi'] at ih
    refine hx_dn (hr48_54 (fun c => absurd c (by omega)) (fun _ => ?_))
    refine cd53 (lawR_c (cDf_L5 hf) hL) hA' hi' h16 (la_ok hi' ha) ok hB (fun c m1 f1 h1 => ?_) (fun c m1 f1 h1 => ?_)
    · rw [aSt_t c] at ih
      refine hx_dn (hr48_81 (s0 := 1) (fun c => absurd c (by decide)) (fun _ => ?_))
      rw [ew_u (by omega), gx_w_id (by omega) (by omega)]
      exact ih m1 h1 (cDf_t hf f1)
    · rw [aSt_f c] at ih
      refine hx_dn (hr48_81 (s0 := 0) (fun _ => ?_) (fun c => absurd rfl c))
      rw [ew_u (by omega)]
      dsimp only at ih
      rw [Int.add_zero] at ih
      exact ih m1 h1 (cDf_t hf f1)
theorem r190l (hL : lawR xs W m0) (hA : rAc A m0) (ha : ∀ a ∈ A, aOK a) (h16 : A.length ≤ 16) (hs : sOK (m0 87)) (h : ∀ m', m' 87 = (aLs W (m0 87) A A.length).1 → rDf m0 m' → Q (some (.inl (aLs W (m0 87) A A.length).2)) m') : hxn xs n yp_m190 38 [(0, .inr (.inl 86)), (2, .inl 0), (3, .inl 0)] [] m0 Q := by
  have hl := hloop (N := A.length) (P := fun i => ∀ m : gx_M, m 87 = (aLs W (m0 87) A i).1 → rDf m0 m → hxn xs n yp_m190 38 [(0, .inr (.inl 86)), (2, .inl (aLs W (m0 87) A i).2), (3, .inl (i : Int))] [] m Q) (fun m e hf => ?_) (fun i hi ih => ?_) 0 (Nat.zero_le _)
  · exact hl m0 rfl rDf_r
  · have hn := (rAc_f hf hA).1
    exact hx_dn (hr190_38 (fun _ => h m e hf) (fun c => absurd c (by omega)))
  · intro m e hf
    have hA' := rAc_f hf hA
    obtain ⟨a, hi'⟩ := la_some hi
    obtain ⟨ok, g1, g2⟩ := aLs_ok (W := W) hs ha i (by omega)
    have hn := hA'.1
    rw [aLs_s hi'] at ih
    refine hx_dn (hr190_38 (fun c => absurd c (by omega)) (fun _ => ?_))
    refine r195 (lawR_c (rDf_L hf) hL) hA' hi' h16 (la_ok hi' ha) (by rw [e]; exact ok) (fun c m1 f1 h1 => ?_) (fun c m1 f1 h1 => ?_)
    · rw [e] at c h1
      rw [aSt_t c] at ih
      refine hx_dn (hr190_52 (s1 := 1) (fun c => absurd c (by decide)) (fun _ => ?_))
      rw [ew_u (by omega), gx_w_id (by omega) (by omega)]
      exact ih m1 h1 (rDf_t hf f1)
    · rw [e] at c h1
      rw [aSt_f c] at ih
      refine hx_dn (hr190_52 (s1 := 0) (fun _ => ?_) (fun c => absurd rfl c))
      rw [ew_u (by omega), gx_w_id (by omega) (by omega)]
      exact ih m1 h1 (rDf_t hf f1)
theorem ww_deals {a : Int} (hT : hTp m) (hR : hWr xs m) : hxn xs n yp_m48 0 [(0, .inr (.inl 0)), (1, .inl a)] [] m (fun r1 m1 => hxn xs n yp_m190 0 [(0, .inr (.inl 86)), (1, .inl a)] [] m1 (fun r2 m2 => hWr xs m2 ∧ r2 = r1)) := by
  have hR' := hR
  obtain ⟨h1, h2, h3, h4, ⟨W, h5⟩, h6⟩ := hR
  obtain ⟨t1, t2, t3, t4⟩ := hT
  refine hx_dn (hr48_0 ?_)
  have bad : ¬ (1 ≤ a ∧ a ≤ 160 ∧ a ≤ m 1 1) → hxn xs n yp_m48 11 [(0, .inr (.inl 0)), (1, .inl a)] [.inl 0] m (fun r1 m1 => hxn xs n yp_m190 0 [(0, .inr (.inl 86)), (1, .inl a)] [] m1 (fun r2 m2 => hWr xs m2 ∧ r2 = r1)) := fun hN =>
    hx_dn (hr48_11 (s0 := 0) (fun c => absurd rfl c) (fun _ => hx_dn (hr190_0 (fun c1 c2 => absurd ⟨c1.1, c1.2, by omega⟩ hN) (fun _ _ => ⟨hR', rfl⟩) (fun _ => ⟨hR', rfl⟩))))
  refine hx_dn (hr23_0 (fun c => bad (by omega)) (fun _ c => bad (by omega)) (fun _ _ c => bad (by omega)) (fun c1 c2 c3 => ?_))
  obtain ⟨N, rfl⟩ : ∃ N : Nat, a = (N : Int) := ⟨a.toNat, by omega⟩
  refine hx_dn (hr48_11 (s0 := 1) (fun _ => ?_) (fun c => absurd c (by decide)))
  refine cs24 (by omega) (fun m1 x1 z1 f1 => ?_)
  refine hx_dn (hr48_28 ?_)
  refine c49 (by omega) x1 (fun v m2 hP => ?_)
  obtain ⟨hf, hP⟩ := hP
  have ff : ∀ c k, c ≠ 3 → c ≠ 4 → c ≠ 1 → (c < 61 ∨ 66 < c) → m2 c k = m c k := fun c k b1 b2 b3 b4 => by
    rw [hf c b4 b1]
    exact f1 c k b1 b2 (by omega)
  have eT : ∀ M : gx_M, (∀ k, M 90 k = m 90 k) → ∀ k, k < N → gx_and (M 90 k) 255 = m 2 k := fun M hM k hk => by
    rw [hM k]
    exact t4 k (by omega)
  have ok := fun B e => dAll_ok (T := m 2) (L := N) (d := 17) (p := 0) (A := []) (B := B) (Nat.zero_le _) (fun a ha => by cases ha) e
  cases hD : dAll (m 2) N 17 0 [] with
  | inr f =>
    rw [hD] at hP
    obtain ⟨rfl, e4⟩ := hP
    refine hx_dn (hr48_39 (s0 := 0) (fun c => absurd rfl c) (fun _ => ?_))
    rw [e4]
    refine hx_dn (hr190_0 (fun _ _ => ?_) (fun _ c => ?_) (fun c => absurd ⟨c1, c2⟩ c))
    · refine r191 (T := m 2) (by omega) (eT m2 (fun k => ff 90 k (by decide) (by decide) (by decide) (by decide))) (fun v m3 hP => ?_)
      rw [hD] at hP
      obtain ⟨g1, g2, rfl, g3⟩ := hP
      refine hx_dn (hr190_26 (s0 := 0) (fun c => absurd rfl c) (fun _ => ?_))
      rw [g3]
      refine ⟨hWr_c (m := m) (fun q hq k b1 b2 => ?_) hR', rfl⟩
      simp only [hPR, hPL, List.mem_append, List.mem_cons, List.not_mem_nil, or_false] at hq
      have hc : q.1 = 0 ∨ (5 ≤ q.1 ∧ q.1 ≤ 30) ∨ (44 ≤ q.1 ∧ q.1 ≤ 50) ∨ (q.1 = 86 ∧ (k = 13 ∨ k = 44 ∨ k = 47)) ∨ q.1 = 87 ∨ q.1 = 89 ∨ (97 ≤ q.1 ∧ q.1 ≤ 101) := by
        rcases hq with (rfl | rfl | rfl | rfl | rfl | rfl | rfl | rfl | rfl | rfl | rfl | rfl | rfl | rfl | rfl | rfl | rfl | rfl | rfl | rfl | rfl | rfl | rfl | rfl | rfl | rfl | rfl | rfl | rfl | rfl | rfl) | (rfl | rfl | rfl | rfl | rfl | rfl | rfl | rfl | rfl | rfl | rfl | rfl | rfl) <;> dsimp only at b1 b2 ⊢ <;> omega
      generalize q.1 = c at hc
      rw [← ff c k (by omega) (by omega) (by omega) (by omega)]
      by_cases e : c = 86
      · subst e
        exact g1.2 k (by omega) (by omega) (by omega) (by omega) (by omega) (by omega)
      · exact congrFun (g1.1 c e (by omega)) k
    · rw [ff 86 4 (by decide) (by decide) (by decide) (by decide)] at c
      omega
  | inl A =>
    rw [hD] at hP
    obtain ⟨rfl, hA⟩ := hP
    obtain ⟨ha, l1, l16⟩ := ok A hD
    refine hx_dn (hr48_39 (s0 := 1) (fun _ => ?_) (fun c => absurd c (by decide)))
    have hL2 : lawR xs W m2 := lawR_c (hPL_of (fun c k hc => ff c k (by omega) (by omega) (by omega) (by omega))) h5
    have hB2 : sBk 5 (m 87) m2 := sBk_c (fun c b1 b2 => funext (fun k => ff c k (by omega) (by omega) (by omega) (by omega))) h2
    refine c48l hL2 hA ha l16 h1 hB2 (fun m3 h3' f3 => ?_)
    have ff3 : ∀ c k, c ≠ 3 → c ≠ 4 → c ≠ 1 → (c < 5 ∨ 66 < c ∨ (17 < c ∧ c < 44) ∨ (44 < c ∧ c < 51)) → m3 c k = m c k := fun c k b1 b2 b3 b4 => by
      rw [f3 c k (by omega) (by omega) (by omega)]
      exact ff c k b1 b2 b3 (by omega)
    have e87 : m3 87 = m 87 := funext (fun k => ff3 87 k (by decide) (by decide) (by decide) (by decide))
    refine hx_dn (hr190_0 (fun _ _ => ?_) (fun _ c => ?_) (fun c => absurd ⟨c1, c2⟩ c))
    · refine r191 (T := m 2) (by omega) (eT m3 (fun k => ff3 90 k (by decide) (by decide) (by decide) (by decide))) (fun v m4 hP => ?_)
      rw [hD] at hP
      obtain ⟨g1, g2, rfl, g3⟩ := hP
      have e87' : m4 87 = m 87 := (g1.1 87 (by decide) (by decide)).trans e87
      have hL3 : lawR xs W m3 := lawR_c (cDf_L5 f3) hL2
      have hL4 : lawR xs W m4 := lawR_c (hPL_of (fun c k hc => by
        by_cases e : c = 86
        · subst e
          exact g1.2 k (by omega) (by omega) (by omega) (by omega) (by omega) (by omega)
        · exact congrFun (g1.1 c e (by omega)) k)) hL3
      refine hx_dn (hr190_26 (s0 := 1) (fun _ => ?_) (fun c => absurd c (by decide)))
      refine r190l hL4 g3 ha l16 (by rw [e87']; exact h1) (fun m5 q1 q2 => ⟨?_, by rw [e87']⟩)
      rw [e87'] at q1
      have ok2 := aLs_ok (W := W) h1 ha A.length (Nat.le_refl _)
      have ff5 : ∀ c k, c ≠ 3 → c ≠ 4 → c ≠ 1 → (c < 5 ∨ (17 < c ∧ c < 44) ∨ c = 89 ∨ (c = 86 ∧ (k = 44 ∨ k = 47))) → m5 c k = m c k := fun c k b1 b2 b3 b4 => by
        rw [q2 c (by omega) (by omega) (by omega), ← ff3 c k b1 b2 b3 (by omega)]
        by_cases e : c = 86
        · subst e
          exact g1.2 k (by omega) (by omega) (by omega) (by omega) (by omega) (by omega)
        · exact congrFun (g1.1 c e (by omega)) k
      have e89 : m5 89 = m 89 := funext (fun k => ff5 89 k (by decide) (by decide) (by decide) (by omega))
      have hB5 : sBk 5 (aLs W (m 87) A A.length).1 m5 := sBk_c (fun c b1 b2 => by rw [q2 c (by omega) (by omega) (by omega), g1.1 c (by omega) (by omega)]) h3'
      unfold hWr
      rw [q1, e89]
      refine ⟨ok2.1, hB5, ?_, fun hk => ?_, ⟨W, lawR_c (rDf_L q2) hL4⟩, ?_⟩
      · rw [ff5 0 12 (by decide) (by decide) (by decide) (by decide), ff5 86 47 (by decide) (by decide) (by decide) (by omega)]
        exact h3
      · obtain ⟨z1, z2⟩ := h4 (by rw [← ff5 86 47 (by decide) (by decide) (by decide) (by omega)]; exact hk)
        exact ⟨z1, sBk_c (fun c b1 b2 => funext (fun k => ff5 c k (by omega) (by omega) (by omega) (by omega))) z2⟩
      · rw [ff5 0 13 (by decide) (by decide) (by decide) (by decide), ff5 86 44 (by decide) (by decide) (by decide) (by omega)]
        exact h6
    · rw [ff3 86 4 (by decide) (by decide) (by decide) (by decide)] at c
      omega
/-! days -/
theorem ww_days {a : Int} (hR : hWr xs m) : hxn xs n yp_m133 0 [(0, .inr (.inl 0)), (1, .inl a)] [] m (fun r1 m1 => hxn xs n yp_m257 0 [(0, .inr (.inl 86)), (1, .inl a)] [] m1 (fun r2 m2 => hWr xs m2 ∧ r2 = r1)) := by
  have hR' := hR
  obtain ⟨h1, h2, h3, h4, ⟨W, h5⟩, h6⟩ := hR
  have bad : ¬ (1 ≤ a ∧ a ≤ 100) → hxn xs n yp_m257 0 [(0, .inr (.inl 86)), (1, .inl a)] [] m (fun r2 m2 => hWr xs m2 ∧ r2 = some (.inl (-1))) := fun hN => hx_dn (hr257_0 (fun c => absurd c hN) (fun _ => ⟨hR', rfl⟩))
  refine hx_dn (hr133_0 (fun c => bad (by omega)) (fun c1 c2 => ?_) (fun _ c => bad (by omega)))
  obtain ⟨N, rfl⟩ : ∃ N : Nat, a = (N : Int) := ⟨a.toNat, by omega⟩
  refine c134 (by omega) h5 h1 h2 (fun m1 hB1 f1 => ?_)
  refine hx_dn (hr133_29 ?_)
  have ok := dN_ok (W := W) h1 N (by omega)
  have e87 : gx_u m1 0 13 (gx_w (m1 0 13 + (dN W (m 87) N).2)) 87 = m 87 := by
    rw [gx_u_off (by decide)]
    exact funext (fun k => f1 87 k (by decide) (by decide) (by omega))
  have ff : ∀ c k, (c < 5 ∨ 17 < c) → c ≠ 51 → c ≠ 44 → ¬ (c = 0 ∧ k = 13) → gx_u m1 0 13 (gx_w (m1 0 13 + (dN W (m 87) N).2)) c k = m c k := fun c k b1 b2 b3 b4 => by
    rw [gx_u_ne (by omega)]
    exact f1 c k b1 b2 (by omega)
  have hL2 : lawR xs W (gx_u m1 0 13 (gx_w (m1 0 13 + (dN W (m 87) N).2))) := lawR_c (hPL_of (fun c k hc => by rw [gx_u_ne (by omega)])) (lawR_c (cDf_L5 f1) h5)
  have hB2 : sBk 5 (dN W (m 87) N).1 (gx_u m1 0 13 (gx_w (m1 0 13 + (dN W (m 87) N).2))) := sBk_c (fun c b1 b2 => gx_u_off (by omega)) hB1
  have e13 : gx_u m1 0 13 (gx_w (m1 0 13 + (dN W (m 87) N).2)) 0 13 = gx_w (m 86 44 + (dN W (m 87) N).2) := by
    rw [gx_u_self, f1 0 13 (by decide) (by decide) (by decide), h6]
  generalize gx_u m1 0 13 (gx_w (m1 0 13 + (dN W (m 87) N).2)) = M at e87 ff hL2 hB2 e13
  refine hx_dn (hr257_0 (fun _ => ?_) (fun c => absurd ⟨c1, c2⟩ c))
  refine r258 (by omega) hL2 (by rw [e87]; exact h1) (fun m2 q1 q2 q3 => ?_)
  rw [e87] at q1 q2
  refine hx_dn (hr257_17 ?_)
  rw [q2]
  have e44 : m2 86 44 = m 86 44 := by rw [q3.2 44 (by decide)]; exact ff 86 44 (by decide) (by decide) (by decide) (by decide)
  rw [e44]
  refine ⟨?_, rfl⟩
  have f5 : ∀ c, c ≠ 86 → c ≠ 87 → c ≠ 102 → c ≠ 103 → gx_u m2 86 44 (gx_w (m 86 44 + (dN W (m 87) N).2)) c = M c := fun c b1 b2 b3 b4 => by
    rw [gx_u_off b1]
    exact q3.1 c b1 b2 b3 b4
  have f6 : ∀ k, k ≠ 44 → k ≠ 45 → gx_u m2 86 44 (gx_w (m 86 44 + (dN W (m 87) N).2)) 86 k = M 86 k := fun k b1 b2 => by
    rw [gx_u_ne (by omega)]
    exact q3.2 k b2
  have g87 : gx_u m2 86 44 (gx_w (m 86 44 + (dN W (m 87) N).2)) 87 = (dN W (m 87) N).1 := by
    rw [gx_u_off (by decide)]
    exact q1
  have g44 : gx_u m2 86 44 (gx_w (m 86 44 + (dN W (m 87) N).2)) 86 44 = gx_w (m 86 44 + (dN W (m 87) N).2) := gx_u_self
  generalize gx_u m2 86 44 (gx_w (m 86 44 + (dN W (m 87) N).2)) = X at f5 f6 g87 g44
  have e89 : X 89 = m 89 := (f5 89 (by decide) (by decide) (by decide) (by decide)).trans (funext (fun k => ff 89 k (by decide) (by decide) (by decide) (by omega)))
  unfold hWr
  rw [g87, e89]
  refine ⟨ok.1, sBk_c (fun c b1 b2 => f5 c (by omega) (by omega) (by omega) (by omega)) hB2, ?_, fun hk => ?_, ⟨W, lawR_c (hPL_of (fun c k hc => ?_)) hL2⟩, ?_⟩
  · rw [f5 0 (by decide) (by decide) (by decide) (by decide), f6 47 (by decide) (by decide), ff 0 12 (by decide) (by decide) (by decide) (by decide), ff 86 47 (by decide) (by decide) (by decide) (by decide)]
    exact h3
  · rw [f6 47 (by decide) (by decide), ff 86 47 (by decide) (by decide) (by decide) (by decide)] at hk
    obtain ⟨z1, z2⟩ := h4 hk
    refine ⟨z1, sBk_c (fun c b1 b2 => ?_) z2⟩
    rw [f5 c (by omega) (by omega) (by omega) (by omega)]
    exact funext (fun k => ff c k (by omega) (by omega) (by omega) (by omega))
  · by_cases e : c = 86
    · subst e
      exact f6 k (by omega) (by omega)
    · rw [f5 c e (by omega) (by omega) (by omega)]
  · rw [f5 0 (by decide) (by decide) (by decide) (by decide), e13, g44]
end WC
end
