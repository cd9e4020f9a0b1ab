/-! the whole state, by both -/
theorem sBk_ag {b : Nat} {s : Nat → Int} {m m' : gx_M} (h0 : ∀ k, k < 5 → m' b k = m b k) (h1 : ∀ p, p < 8 → m' (b + 1) p = m (b + 1) p) (h2 : ∀ j y, 2 ≤ j → j ≤ 11 → y < 40 → m' (b + j) y = m (b + j) y) (h3 : ∀ k, k < 640 → m' (b + 12) k = m (b + 12) k) (hB : sBk b s m) : sBk b s m' := by
  obtain ⟨⟨a1, a2, a3, a4, a5⟩, b2, b3, b4⟩ := hB
  refine ⟨⟨by rw [h0 0 (by decide)]; exact a1, by rw [h0 1 (by decide)]; exact a2, by rw [h0 2 (by decide)]; exact a3, by rw [h0 3 (by decide)]; exact a4, by rw [h0 4 (by decide)]; exact a5⟩, fun p hp => by rw [h1 p hp]; exact b2 p hp, fun y hy => ?_, fun k hk => by rw [h3 k hk]; exact b4 k hk⟩
  rw [h2 2 y (by decide) (by decide) hy, h2 3 y (by decide) (by decide) hy, h2 4 y (by decide) (by decide) hy, h2 5 y (by decide) (by decide) hy, h2 6 y (by decide) (by decide) hy, h2 7 y (by decide) (by decide) hy, h2 8 y (by decide) (by decide) hy, h2 9 y (by decide) (by decide) hy, h2 10 y (by decide) (by decide) hy, h2 11 y (by decide) (by decide) hy]
  exact b3 y hy
noncomputable def hWs (xs : List Int32) (s t : Nat → Int) (m : gx_M) : Prop := sOK s ∧ sBk 5 s m ∧ m 0 12 = m 86 47 ∧ (m 86 47 ≠ 0 → sOK t ∧ sBk 18 t m) ∧ (∃ W, lawR xs W m) ∧ m 0 13 = m 86 44
noncomputable def hWr (xs : List Int32) (m : gx_M) : Prop := hWs xs (m 87) (m 89) m
def hPR : List (Nat × Nat × Nat) := [(0, 12, 14), (5, 0, 5), (6, 0, 8), (7, 0, 40), (8, 0, 40), (9, 0, 40), (10, 0, 40), (11, 0, 40), (12, 0, 40), (13, 0, 40), (14, 0, 40), (15, 0, 40), (16, 0, 40), (17, 0, 640), (18, 0, 5), (19, 0, 8), (20, 0, 40), (21, 0, 40), (22, 0, 40), (23, 0, 40), (24, 0, 40), (25, 0, 40), (26, 0, 40), (27, 0, 40), (28, 0, 40), (29, 0, 40), (30, 0, 640), (86, 44, 45), (86, 47, 48), (87, 0, 1131), (89, 0, 1131)] ++ hPL
theorem hAg.mono {P P' : List (Nat × Nat × Nat)} {m m' : gx_M} (h : hAg P m m') (hs : ∀ q ∈ P', q ∈ P) : hAg P' m m' := fun q hq => h q (hs q hq)
theorem hPR_L {m m' : gx_M} (h : hAg hPR m m') : hAg hPL m m' := h.mono (fun q hq => List.mem_append.mpr (.inr hq))
theorem sBk5_c {s : Nat → Int} {m m' : gx_M} (h : hAg hPR m m') (hB : sBk 5 s m) : sBk 5 s m' := by
  refine sBk_ag (fun k hk => h.at 5 0 5 (by decide) (by omega) hk) (fun p hp => h.at 6 0 8 (by decide) (by omega) hp) (fun j y h1 h2 hy => ?_) (fun k hk => h.at 17 0 640 (by decide) (by omega) hk) hB
  have : j = 2 ∨ j = 3 ∨ j = 4 ∨ j = 5 ∨ j = 6 ∨ j = 7 ∨ j = 8 ∨ j = 9 ∨ j = 10 ∨ j = 11 := by omega
  rcases this with rfl | rfl | rfl | rfl | rfl | rfl | rfl | rfl | rfl | rfl
  · exact h.at 7 0 40 (by decide) (by omega) hy
  · exact h.at 8 0 40 (by decide) (by omega) hy
  · exact h.at 9 0 40 (by decide) (by omega) hy
  · exact h.at 10 0 40 (by decide) (by omega) hy
  · exact h.at 11 0 40 (by decide) (by omega) hy
  · exact h.at 12 0 40 (by decide) (by omega) hy
  · exact h.at 13 0 40 (by decide) (by omega) hy
  · exact h.at 14 0 40 (by decide) (by omega) hy
  · exact h.at 15 0 40 (by decide) (by omega) hy
  · exact h.at 16 0 40 (by decide) (by omega) hy
theorem sBk18_c {s : Nat → Int} {m m' : gx_M} (h : hAg hPR m m') (hB : sBk 18 s m) : sBk 18 s m' := by
  refine sBk_ag (fun k hk => h.at 18 0 5 (by decide) (by omega) hk) (fun p hp => h.at 19 0 8 (by decide) (by omega) hp) (fun j y h1 h2 hy => ?_) (fun k hk => h.at 30 0 640 (by decide) (by omega) hk) hB
  have : j = 2 ∨ j = 3 ∨ j = 4 ∨ j = 5 ∨ j = 6 ∨ j = 7 ∨ j = 8 ∨ j = 9 ∨ j = 10 ∨ j = 11 := by omega
  rcases this with rfl | rfl | rfl | rfl | rfl | rfl | rfl | rfl | rfl | rfl
  · exact h.at 20 0 40 (by decide) (by omega) hy
  · exact h.at 21 0 40 (by decide) (by omega) hy
  · exact h.at 22 0 40 (by decide) (by omega) hy
  · exact h.at 23 0 40 (by decide) (by omega) hy
  · exact h.at 24 0 40 (by decide) (by omega) hy
  · exact h.at 25 0 40 (by decide) (by omega) hy
  · exact h.at 26 0 40 (by decide) (by omega) hy
  · exact h.at 27 0 40 (by decide) (by omega) hy
  · exact h.at 28 0 40 (by decide) (by omega) hy
  · exact h.at 29 0 40 (by decide) (by omega) hy
theorem hWr_c {xs : List Int32} {m m' : gx_M} (h : hAg hPR m m') (hR : hWr xs m) : hWr xs m' := by
  obtain ⟨h1, h2, h3, h4, ⟨W, h5⟩, h6⟩ := hR
  have e87 : ∀ k, k < 1131 → m' 87 k = m 87 k := fun k hk => h.at 87 0 1131 (by decide) (by omega) hk
  have e89 : ∀ k, k < 1131 → m' 89 k = m 89 k := fun k hk => h.at 89 0 1131 (by decide) (by omega) hk
  have f47 : m' 86 47 = m 86 47 := h.at 86 47 48 (by decide) (by omega) (by omega)
  refine ⟨sOK_s e87 h1, sBk_s e87 (sBk5_c h h2), ?_, fun hk => ?_, ⟨W, lawR_c (hPR_L h) h5⟩, ?_⟩
  · rw [f47, h.at 0 12 14 (by decide) (by omega) (by omega)]
    exact h3
  · obtain ⟨k1, k2⟩ := h4 (by rw [← f47]; exact hk)
    exact ⟨sOK_s e89 k1, sBk_s e89 (sBk18_c h k2)⟩
  · rw [h.at 0 12 14 (by decide) (by omega) (by omega), h.at 86 44 45 (by decide) (by omega) (by omega)]
    exact h6
/-- another state in its place -/
theorem hWs_mk {xs : List Int32} {s s' t : Nat → Int} {m m' : gx_M} (h : hWs xs s t m) (h1 : sOK s') (h2 : sBk 5 s' m') (f0 : m' 0 12 = m 0 12) (f01 : m' 0 13 = m 0 13) (f1 : m' 86 47 = m 86 47) (f2 : m' 86 44 = m 86 44) (f3 : ∀ c, 18 ≤ c → c ≤ 30 → m' c = m c) (f4 : hAg hPL m m') : hWs xs s' t m' := by
  obtain ⟨-, -, a3, a4, ⟨W, a5⟩, a6⟩ := h
  refine ⟨h1, h2, by rw [f0, f1]; exact a3, fun hk => ?_, ⟨W, lawR_c f4 a5⟩, by rw [f01, f2]; exact a6⟩
  obtain ⟨k1, k2⟩ := a4 (by rw [← f1]; exact hk)
  exact ⟨k1, sBk_c (fun c c1 c2 => f3 c c1 c2) k2⟩
noncomputable def hW (xs : List Int32) (m : gx_M) : Prop := hTp m ∧ hWr xs m
/-! two relations at once; ways that are only kept up -/
theorem hway_and {gX R1 R2 : gx_M → Prop} {xs : List Int32} {M1 M2 : sx_M} {L1 L2 : hLs} {C C' : hV → hV → Prop} (h1 : hWay gX R1 xs M1 M2 L1 L2 C) (h2 : hWay gX R2 xs M1 M2 L1 L2 C') : hWay gX (fun m => R1 m ∧ R2 m) xs M1 M2 L1 L2 (fun a b => C a b ∧ C' a b) := fun n m j r =>
  hx_and (h1 n m j r.1) (h2 n m j r.2) (fun r1 m1 ⟨v1, e1, k1⟩ ⟨w1, e1', k2⟩ => ⟨v1, e1, hx_and k1 k2 (fun r2 m2 ⟨v2, e2, j2, q1, c1⟩ ⟨w2, e2', _, q2, c2⟩ => by
    have a := e1.symm.trans e1'
    have b := e2.symm.trans e2'
    cases a
    cases b
    exact ⟨v2, e2, j2, ⟨q1, q2⟩, c1, c2⟩)⟩)
theorem hway_up {gX R : gx_M → Prop} {xs : List Int32} {M1 M2 : sx_M} {L1 L2 : hLs} {mods1 mods2 : bx_M} {T T' : hV → Prop} (c1 : hCon gX xs M1 L1 mods1 T) (c2 : hCon gX xs M2 L2 mods2 T') (sp : ∀ n m, hJ gX m → R m → hxn xs n M1 0 L1 [] m (fun _ m1 => hxn xs n M2 0 L2 [] m1 (fun _ m2 => R m2))) : hWay gX R xs M1 M2 L1 L2 (fun a b => T a ∧ T' b) := fun n m j r =>
  hx_and (sp n m j r) (c1 n m j) (fun r1 m1 h1 ⟨⟨v, e1, t⟩, j1, _⟩ => ⟨v, e1, hx_and h1 (c2 n m1 j1) (fun r2 m2 r2' ⟨⟨v2, e2, t2⟩, j2, _⟩ => ⟨v2, e2, j2, r2', t, t2⟩)⟩)
/-- a question: both answer G of the state -/
theorem hway_q {gX : gx_M → Prop} {xs : List Int32} {M1 M2 : sx_M} {L1 L2 : hLs} {mods1 mods2 : bx_M} {T : hV → Prop} (c1 : hCon gX xs M1 L1 mods1 T) (c2 : hCon gX xs M2 L2 mods2 T) (d1 : hDisj mods1 hPR = true) (d2 : hDisj mods2 hPR = true) (d3 : mods1.all (fun x => decide (x.1 ≠ 87)) = true) (G : (Nat → Int) → hV) (q1 : ∀ n m, hJ gX m → hWr xs m → hxn xs n M1 0 L1 [] m (fun r _ => r = some (G (m 87)))) (q2 : ∀ n m, hJ gX m → hWr xs m → hxn xs n M2 0 L2 [] m (fun r _ => r = some (G (m 87)))) : hWay gX (hWr xs) xs M1 M2 L1 L2 (hCe T) := fun n m j r =>
  hx_and (q1 n m j r) (c1 n m j) (fun r1 m1 e1 ⟨⟨v, e, t⟩, j1, f1⟩ => ⟨v, e, by
    have e87 : m1 87 = m 87 := funext (fun k => f1 87 k (fun x hx hc => of_decide_eq_true (List.all_eq_true.mp d3 x hx) hc.1))
    have r1' : hWr xs m1 := hWr_c (hDisj_ok f1 d1) r
    refine hx_and (q2 n m1 j1 r1') (c2 n m1 j1) (fun r2 m2 e2 ⟨⟨v2, e', t2⟩, j2, f2⟩ => ⟨v2, e', j2, hWr_c (hDisj_ok f2 d2) r1', t, ?_⟩)
    rw [e87] at e2
    have a := e.symm.trans e1
    have b := e'.symm.trans e2
    cases a
    cases b
    rfl⟩)
