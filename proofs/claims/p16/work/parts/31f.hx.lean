/-! PARTIAL RUNS, 5: contracts of the reader used here; two things said of one run -/
theorem hg_fun {v v' : hV} {u : Value} (h : hg v u) (h' : hg v' u) : v = v' := by
  rcases v with x | c | x <;> rcases v' with x' | c' | x'
  · obtain ⟨z, rfl, rfl⟩ := hg_int h
    obtain ⟨z', e, rfl⟩ := hg_int h'
    cases e; rfl
  · obtain ⟨z, rfl, rfl⟩ := hg_int h
    rcases hg_ref h' with ⟨-, k, e⟩ | ⟨-, e⟩ <;> cases e
  · obtain ⟨z, rfl, rfl⟩ := hg_int h
    obtain ⟨z', e, rfl⟩ := hg_long h'
    cases e
  · obtain ⟨z, rfl, rfl⟩ := hg_int h'
    rcases hg_ref h with ⟨-, k, e⟩ | ⟨-, e⟩ <;> cases e
  · rcases hg_ref h with ⟨rfl, k, rfl⟩ | ⟨n1, rfl⟩
    · rcases hg_ref h' with ⟨rfl, k, e⟩ | ⟨-, e⟩
      · rfl
      · cases e
    · rcases hg_ref h' with ⟨-, k, e⟩ | ⟨-, e⟩
      · cases e
      · cases e; rfl
  · obtain ⟨z, rfl, rfl⟩ := hg_long h'
    rcases hg_ref h with ⟨-, k, e⟩ | ⟨-, e⟩ <;> cases e
  · obtain ⟨z, rfl, rfl⟩ := hg_long h
    obtain ⟨z', e, rfl⟩ := hg_int h'
    cases e
  · obtain ⟨z, rfl, rfl⟩ := hg_long h
    rcases hg_ref h' with ⟨-, k, e⟩ | ⟨-, e⟩ <;> cases e
  · obtain ⟨z, rfl, rfl⟩ := hg_long h
    obtain ⟨z', e, rfl⟩ := hg_long h'
    cases e; rfl
theorem hro_fun {r r' : Option hV} {v : Option Value} (h : hro r v) (h' : hro r' v) : r = r' := by
  cases v with
  | none =>
    cases r with
    | none => cases r' with
      | none => rfl
      | some _ => exact h'.elim
    | some _ => exact h.elim
  | some u =>
    cases r with
    | none => exact h.elim
    | some a => cases r' with
      | none => exact h'.elim
      | some b => rw [hg_fun (u := u) h h']
theorem hx_and {xs : List Int32} {n : Nat} {M : sx_M} {pc : Nat} {L : hLs} {st : List hV} {m : gx_M} {Q1 Q2 Q : hQ} (h1 : hxn xs n M pc L st m Q1) (h2 : hxn xs n M pc L st m Q2) (h : ∀ r m', Q1 r m' → Q2 r m' → Q r m') : hxn xs n M pc L st m Q := by
  intro d lv sv w o k1 k2 k3 k4 k5
  obtain ⟨r, g1, g2, g3⟩ := h1 d lv sv w o k1 k2 k3 k4 k5
  obtain ⟨r', j1, j2, j3⟩ := h2 d lv sv w o k1 k2 k3 k4 k5
  have e := hro_fun g1 j1
  subst e
  exact ⟨r, g1, g2, h _ _ g3 j3⟩
theorem hm_top {w : sx_W} (hw : bx_in fx_S w) {c t k : Nat} {r : ax_A} (hS : fx_S[c]? = some (t, r)) (hk : ax_nth r k = some ax_top) : hm w c k = gx_m w c k := by
  obtain ⟨vs, h1, h2, h3, -, -, -⟩ := fx_int (lo := -2147483648) (hi := 2147483647) hw hS hk
  rw [hm_rd (hrd_at h1 h3)]
  rfl
theorem hJ_top {c t k : Nat} {r : ax_A} {lo hi : Int} (h : bw_INV[c]? = some (t, r)) (hk : ax_nth r k = some (0, lo, hi)) : ∃ r', fx_S[c]? = some (t, r') ∧ ax_nth r' k = some ax_top := by
  refine ⟨_, gx_S_at h, ?_⟩
  rw [gx_nth_map, hk]
  rfl
theorem hI_m {w : sx_W} (hw : bx_in fx_S w) : gx_I (hm w) ↔ gx_I (gx_m w) := by
  constructor
  · intro h c t r k lo hi hc hk
    obtain ⟨r', e1, e2⟩ := hJ_top hc hk
    rw [← hm_top hw e1 e2]
    exact h c t r k lo hi hc hk
  · intro h c t r k lo hi hc hk
    obtain ⟨r', e1, e2⟩ := hJ_top hc hk
    rw [hm_top hw e1 e2]
    exact h c t r k lo hi hc hk
def hXc (gX : gx_M → Prop) : Prop := ∀ m m' : gx_M, (∀ q ∈ bw_PC, ∀ k, q.2.1 ≤ k → k < q.2.2 → m' q.1 k = m q.1 k) → gX m → gX m'
theorem hPC_top : gx_mB bw_PC = true := by decide +kernel
theorem hX_m {gX : gx_M → Prop} (hc : hXc gX) {w : sx_W} (hw : bx_in fx_S w) : gX (hm w) ↔ gX (gx_m w) := by
  have e : ∀ q ∈ bw_PC, ∀ k, q.2.1 ≤ k → k < q.2.2 → hm w q.1 k = gx_m w q.1 k := fun q hq k h1 h2 => by
    obtain ⟨t, r, a, g1, g2, rfl⟩ := (gx_mB_ok hPC_top).2 q hq k h1 h2
    exact hm_top hw g1 g2
  exact ⟨hc _ _ (fun q hq k h1 h2 => (e q hq k h1 h2).symm), hc _ _ e⟩
def hJ (gX : gx_M → Prop) (m : gx_M) : Prop := gx_I m ∧ gX m
theorem hJ_w {gX : gx_M → Prop} (hc : hXc gX) {w : sx_W} (hw : bx_in fx_S w) (h : hJ gX (hm w)) : bx_in bw_INV w ∧ gx_XW gX w :=
  ⟨gx_in_to hw ((hI_m hw).mp h.1), (hX_m hc hw).mp h.2⟩
theorem hJ_of {gX : gx_M → Prop} (hc : hXc gX) {w : sx_W} (h1 : bx_in bw_INV w) (h2 : gx_XW gX w) : bx_in fx_S w ∧ hJ gX (hm w) := by
  obtain ⟨g1, g2⟩ := gx_in_of h1
  exact ⟨g1, (hI_m g1).mpr g2, (hX_m hc g1).mpr h2⟩
def hfits (a : ax_V) (v : hV) : Prop := match v with
  | .inl x => a.1 = 0 ∧ a.2.1 ≤ x ∧ x ≤ a.2.2
  | .inr (.inl c) => c ≠ 100000 ∧ a.1 = 2 ∧ a.2.1.toNat = c
  | .inr (.inr x) => a.1 = 1 ∧ a.2.1 ≤ x ∧ x ≤ a.2.2
def hpre : ax_L → hLs → Prop
  | [], _ => True
  | (i, a) :: r, L => (match hget L i with
    | some v => hfits a v
    | none => False) ∧ hpre r L
theorem hfits_ok {a : ax_V} {v : hV} {u : Value} (h : hfits a v) (hg' : hg v u) : bx_c a u := by
  obtain ⟨t, lo, hi⟩ := a
  rcases v with x | c | x
  · obtain ⟨e, h1, h2⟩ := h
    dsimp only at e h1 h2
    subst e
    obtain ⟨z, rfl, rfl⟩ := hg_int hg'
    exact ⟨(fun h => by cases h), z, rfl, h1, h2⟩
  · obtain ⟨hne, e, h1⟩ := h
    dsimp only at e h1
    subst e
    rcases hg_ref hg' with ⟨e2, -⟩ | ⟨-, rfl⟩
    · exact absurd e2 hne
    · exact ⟨(fun h => by cases h), by rw [← h1]; rfl⟩
  · obtain ⟨e, h1, h2⟩ := h
    dsimp only at e h1 h2
    subst e
    obtain ⟨z, rfl, rfl⟩ := hg_long hg'
    exact ⟨(fun h => by cases h), z, rfl, h1, h2⟩
theorem hpre_ok : ∀ {pre : ax_L} {L : hLs} {lv : sx_L}, hpre pre L → hl lv L → bx_cl pre lv
  | [], L, lv, _, _ => fun q hq => by cases hq
  | (i, a) :: r, L, lv, h, hl' => by
    obtain ⟨h1, h2⟩ := h
    intro q hq
    rcases List.mem_cons.mp hq with rfl | hq
    · split at h1
      · rename_i v hv
        obtain ⟨u, e1, e2⟩ := hl_get hl' hv
        exact ⟨u, e1, hfits_ok h1 e2⟩
      · exact h1.elim
    · exact hpre_ok h2 hl' q hq
def hend (e : Option (Option ax_V)) (r : Option hV) : Prop := match e, r with
  | some none, none => True
  | some (some a), some (.inl x) => a.1 = 0 ∧ a.2.1 ≤ x ∧ x ≤ a.2.2
  | some (some a), some (.inr (.inr _)) => a.1 = 1
  | _, _ => False
theorem hfw_of {xs : List Int32} {mods : bx_M} {w w' : sx_W} (i1 : bx_in fx_S w) (i2 : bx_in fx_S w') (hst : bx_star mods = false) (h : bx_fw xs mods w w') : gx_fw mods (hm w) (hm w') := by
  rcases h with h | h
  · rw [hst] at h; cases h
  intro c k hq
  have far : ∀ {w : sx_W}, bx_in fx_S w → ¬ c < 100000 → hm w c k = 0 := fun h hc => by
    unfold hm
    rw [(gx_m_far h hc).1]
  by_cases hc : c < 100000
  case neg => rw [far i1 hc, far i2 hc]
  have := h c k hq
  rw [bx_rd_w hc, bx_rd_w hc] at this
  unfold hm gx_rd
  rw [this]
theorem hx_K {xs : List Int32} {gX : gx_M → Prop} {n mi dk : Nat} {pre : ax_L} {exits : List bx_E} {mods : bx_M} {lm : List Nat} {ctr : Option (Nat × Bool)} {M : sx_M} {L : hLs} {m : gx_M} {Q : hQ} (hc : hXc gX) (hK : bx_Kok yp_P xs bw_INV (gx_XW gX) (mi, 0, pre, [], exits, mods, lm, dk, ctr)) (hM : yp_P.2.2.2.1[mi]? = some M) (hst : bx_star mods = false) (hall : exits.all (fun e => match e.1 with
    | some none => true
    | some (some a) => decide (a.1 = 0) || decide (a.1 = 1)
    | none => false) = true) (hp : hpre pre L) (hj : hJ gX m) (h : ∀ r m', (∃ e ∈ exits, hend e.1 r) → hJ gX m' → gx_fw mods m m' → Q r m') : hxn xs n M 0 L [] m Q := by
  intro d lv sv w o hl' hs' hw hm' he
  have := hs0 hs'
  subst this
  subst hm'
  have hrun : sx_rn yp_P xs (max d dk) M 0 lv [] w o := sx_rn_up (Nat.le_max_left d dk) ⟨n, he⟩
  obtain ⟨e, hem, lv', w', g1, g2, g3, g4⟩ := hK M hM (max d dk) (Nat.le_max_right d dk) lv w (hpre_ok hp hl') (hJ_w hc hw hj) (fun q hq => by cases hq)
  have ha := List.all_eq_true.mp hall e hem
  obtain ⟨er, e2⟩ := e
  cases er with
  | none => cases ha
  | some ra =>
    obtain ⟨rv, k1, k2⟩ := g4
    have eo := sx_rn_fun hrun k2
    subst eo
    obtain ⟨i1, i2⟩ := hJ_of hc g1.1 g1.2
    have hfw := hfw_of hw i1 hst g3
    have hr : ∃ r, hro r rv ∧ hend (some ra) r := by
      cases ra with
      | none =>
        cases rv with
        | none => exact ⟨none, trivial, trivial⟩
        | some _ => exact k1.elim
      | some a =>
        cases rv with
        | none => exact k1.elim
        | some u =>
          obtain ⟨t, lo, hi⟩ := a
          obtain ⟨n4, hg'⟩ := k1
          dsimp only at ha
          rw [Bool.or_eq_true, decide_eq_true_eq, decide_eq_true_eq] at ha
          rcases ha with rfl | rfl
          · obtain ⟨x, rfl, q1, q2⟩ := hg'
            exact ⟨some (.inl x.toInt), ⟨x, rfl, rfl⟩, rfl, q1, q2⟩
          · obtain ⟨x, rfl, q1, q2⟩ := hg'
            exact ⟨some (.inr (.inr x.toInt)), ⟨x, rfl, rfl⟩, rfl⟩
    obtain ⟨r, r1, r2⟩ := hr
    exact ⟨r, r1, i1, h r _ ⟨_, hem, r2⟩ i2 hfw⟩
