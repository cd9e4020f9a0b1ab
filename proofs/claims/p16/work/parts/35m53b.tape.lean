/-! the tape stands alike -/
def hTp (m : gx_M) : Prop := 0 ≤ m 1 1 ∧ m 1 1 ≤ 260 ∧ m 1 1 = m 86 4 ∧ ∀ k : Nat, (k : Int) < m 1 1 → gx_and (m 90 k) 255 = m 2 k
def hPT : List (Nat × Nat × Nat) := [(1, 1, 2), (2, 0, 260), (86, 4, 5), (90, 0, 260)]
theorem hTp_c {m m' : gx_M} (h : hAg hPT m m') (hR : hTp m) : hTp m' := by
  obtain ⟨h1, h2, h3, h4⟩ := hR
  have e1 : m' 1 1 = m 1 1 := h.at 1 1 2 (by decide) (by omega) (by omega)
  have e2 : m' 86 4 = m 86 4 := h.at 86 4 5 (by decide) (by omega) (by omega)
  refine ⟨by omega, by omega, by omega, fun k hk => ?_⟩
  rw [h.at 90 0 260 (by decide) (by omega) (by omega), h.at 2 0 260 (by decide) (by omega) (by omega)]
  exact h4 k (by omega)
/-- both take what is there, or neither does -/
theorem hTp_tk {m m1 m2 : gx_M} {mods1 mods2 : bx_M} {C : Int → Prop} (hR : hTp m) (f1 : gx_fw mods1 m m1) (f2 : gx_fw mods2 m1 m2) (d1 : hDisj mods1 [(2, 0, 260), (86, 4, 5), (90, 0, 260)] = true) (d2 : hDisj mods2 [(1, 1, 2), (2, 0, 260), (90, 0, 260)] = true) (q1 : (C (m 1 1) → m1 1 1 = 0) ∧ (¬ C (m 1 1) → m1 1 1 = m 1 1)) (q2 : (C (m1 86 4) → m2 86 4 = 0) ∧ (¬ C (m1 86 4) → m2 86 4 = m1 86 4)) : hTp m2 := by
  obtain ⟨h1, h2, h3, h4⟩ := hR
  have g1 := hDisj_ok f1 d1
  have g2 := hDisj_ok f2 d2
  have a1 : m1 86 4 = m 86 4 := g1.at 86 4 5 (by decide) (by omega) (by omega)
  have a2 : m2 1 1 = m1 1 1 := g2.at 1 1 2 (by decide) (by omega) (by omega)
  rw [a1, ← h3] at q2
  have e : (m1 1 1 = 0 ∧ m2 86 4 = 0) ∨ (m1 1 1 = m 1 1 ∧ m2 86 4 = m 1 1) := by
    rcases Classical.em (C (m 1 1)) with c | c
    · exact .inl ⟨q1.1 c, q2.1 c⟩
    · exact .inr ⟨q1.2 c, q2.2 c⟩
  refine ⟨by omega, by omega, by omega, fun k hk => ?_⟩
  rw [g2.at 90 0 260 (by decide) (by omega) (by omega), g2.at 2 0 260 (by decide) (by omega) (by omega), g1.at 90 0 260 (by decide) (by omega) (by omega), g1.at 2 0 260 (by decide) (by omega) (by omega)]
  exact h4 k (by omega)
theorem hway_tk {gX : gx_M → Prop} {xs : List Int32} {M1 M2 : sx_M} {L1 L2 : hLs} {mods1 mods2 : bx_M} {T : hV → Prop} {C : Int → Prop} (c1 : hCon gX xs M1 L1 mods1 T) (c2 : hCon gX xs M2 L2 mods2 T) (d1 : hDisj mods1 [(2, 0, 260), (86, 4, 5), (90, 0, 260)] = true) (d2 : hDisj mods2 [(1, 1, 2), (2, 0, 260), (90, 0, 260)] = true) (q1 : ∀ n m, hJ gX m → hxn xs n M1 0 L1 [] m (fun _ m1 => (C (m 1 1) → m1 1 1 = 0) ∧ (¬ C (m 1 1) → m1 1 1 = m 1 1))) (q2 : ∀ n m, hJ gX m → hxn xs n M2 0 L2 [] m (fun _ m1 => (C (m 86 4) → m1 86 4 = 0) ∧ (¬ C (m 86 4) → m1 86 4 = m 86 4))) : hWay gX hTp xs M1 M2 L1 L2 (hCi T) := fun n m j r =>
  hx_and (c1 n m j) (q1 n m j) (fun r1 m1 ⟨⟨v1, e1, t1⟩, j1, f1⟩ k1 => ⟨v1, e1, hx_and (c2 n m1 j1) (q2 n m1 j1) (fun r2 m2 ⟨⟨v2, e2, t2⟩, j2, f2⟩ k2 => ⟨v2, e2, j2, hTp_tk r f1 f2 d1 d2 k1 k2, t1, t2⟩)⟩)
/-- a contract of the reader from inside a method on, with what is 0 at its end -/
theorem hm_0 {xs : List Int32} {w : sx_W} {c k : Nat} (hc : c < 100000) (h : ∀ v, bx_rd xs w c k = some v → bx_c (0, 0, 0) v) : hm w c k = 0 := by
  unfold hm
  rw [bx_rd_w hc] at h
  cases e : gx_rd w c k with
  | none => rfl
  | some v =>
    obtain ⟨-, x, rfl, h1, h2⟩ := h v e
    show x.toInt = 0
    dsimp only at h1 h2
    omega
theorem hx_Kp {xs : List Int32} {gX : gx_M → Prop} {n mi pc dk c0 k0 : Nat} {pre : ax_L} {a0 : ax_V} {mods : bx_M} {lm : List Nat} {ctr : Option (Nat × Bool)} {M : sx_M} {L : hLs} {m : gx_M} {Q : hQ} (hc : hXc gX) (hK : bx_Kok yp_P xs bw_INV (gx_XW gX) (mi, pc, pre, [], [(some (some a0), 0, [], [(c0, k0, (0, 0, 0))])], mods, lm, dk, ctr)) (hM : yp_P.2.2.2.1[mi]? = some M) (hc0 : c0 < 100000) (ha : a0.1 = 0) (hp : hpre pre L) (hj : hJ gX m) (h : ∀ v m', m' c0 k0 = 0 → Q (some (.inl v)) m') : hxn xs n M pc L [] m Q := by
  intro d lv sv w o hl' hs' hw hm' he
  have := hs0 hs'
  subst this
  subst hm'
  have hrun : sx_rn yp_P xs (max d dk) M pc lv [] w o := sx_rn_up (Nat.le_max_left d dk) ⟨n, he⟩
  obtain ⟨e, hem, lv', w', g1, g2, g3, g4⟩ := hK M hM (max d dk) (Nat.le_max_right d dk) lv w (hpre_ok hp hl') (hJ_w hc hw hj) (fun q hq => by cases hq)
  rw [List.mem_singleton] at hem
  subst hem
  obtain ⟨rv, k1, k2⟩ := g4
  have eo := sx_rn_fun hrun k2
  subst eo
  obtain ⟨i1, i2⟩ := hJ_of hc g1.1 g1.2
  have hz : hm w' c0 k0 = 0 := hm_0 hc0 (g2 (c0, k0, (0, 0, 0)) (List.mem_singleton.mpr rfl))
  cases rv with
  | none => exact k1.elim
  | some u =>
    obtain ⟨t, lo, hi⟩ := a0
    obtain ⟨n4, hg'⟩ := k1
    dsimp only at ha
    subst ha
    obtain ⟨x, rfl, q1, q2⟩ := hg'
    exact ⟨some (.inl x.toInt), ⟨x, rfl, rfl⟩, i1, h x.toInt _ hz⟩
