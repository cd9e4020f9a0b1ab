/-! BY HAND, 5: the bounds of the world's numbers; contracts of the reader serve here, and what is shown here gives contracts -/
def gx_I (m : gx_M) : Prop := ∀ (c t : Nat) (r : ax_A) (k : Nat) (lo hi : Int), bw_INV[c]? = some (t, r) → ax_nth r k = some (0, lo, hi) → lo ≤ m c k ∧ m c k ≤ hi
theorem gx_nth_map (f : ax_V → ax_V) : ∀ (r : ax_A) (k : Nat), ax_nth (r.map (fun q => (q.1, f q.2))) k = (ax_nth r k).map f
  | [], k => rfl
  | (n, a) :: r, k => by
    rw [List.map_cons]
    unfold ax_nth
    dsimp only
    split
    · rfl
    · exact gx_nth_map f r (k - n)
theorem gx_len_map (f : ax_V → ax_V) : ∀ (r : ax_A), ax_len (r.map (fun q => (q.1, f q.2))) = ax_len r
  | [] => rfl
  | (n, a) :: r => by
    rw [List.map_cons]
    unfold ax_len
    dsimp only
    rw [gx_len_map f r]
theorem gx_S_at {c t : Nat} {r : ax_A} (h : bw_INV[c]? = some (t, r)) : fx_S[c]? = some (t, r.map (fun q => (q.1, fx_top q.2))) := by
  unfold fx_S
  rw [List.getElem?_map, h]
  rfl
theorem gx_S_of {c t : Nat} {r' : ax_A} (h : fx_S[c]? = some (t, r')) : ∃ r, bw_INV[c]? = some (t, r) ∧ r' = r.map (fun q => (q.1, fx_top q.2)) := by
  unfold fx_S at h
  rw [List.getElem?_map] at h
  cases hc : bw_INV[c]? with
  | none => rw [hc] at h; cases h
  | some x =>
    rw [hc] at h
    cases h
    exact ⟨x.2, rfl, rfl⟩
theorem gx_top_g {a : ax_V} {v : Value} (h : ax_g [] a v) : ax_g [] (fx_top a) v := by
  unfold fx_top
  by_cases h0 : a.1 = 0
  · rw [if_pos h0]
    obtain ⟨t, lo, hi⟩ := a
    dsimp only at h0
    subst h0
    obtain ⟨x, rfl, -, -⟩ := h
    exact ax_top_ok x
  · rw [if_neg h0]
    by_cases h1 : a.1 = 1
    · rw [if_pos h1]
      obtain ⟨t, lo, hi⟩ := a
      dsimp only at h1
      subst h1
      obtain ⟨x, rfl, -, -⟩ := h
      exact ax_topL_ok x
    · rw [if_neg h1]; exact h
def gx_lng : Bool := bw_INV.all (fun c => c.2.all (fun q => !decide (q.2.1 = 1) || decide (q.2 = ax_topL)))
theorem gx_lng_ok : gx_lng = true := by decide +kernel
theorem gx_nth_mem : ∀ {r : ax_A} {k : Nat} {a : ax_V}, ax_nth r k = some a → ∃ n, (n, a) ∈ r
  | [], k, a, h => by cases h
  | (n, b) :: r, k, a, h => by
    unfold ax_nth at h
    split at h
    · cases h; exact ⟨n, List.mem_cons_self⟩
    · obtain ⟨n', h'⟩ := gx_nth_mem h
      exact ⟨n', List.mem_cons_of_mem _ h'⟩
theorem gx_lng_at {c t : Nat} {r : ax_A} {k : Nat} {a : ax_V} (h : bw_INV[c]? = some (t, r)) (hk : ax_nth r k = some a) (h1 : a.1 = 1) : a = ax_topL := by
  obtain ⟨n, hn⟩ := gx_nth_mem hk
  have h2 := List.all_eq_true.mp gx_lng_ok _ (List.mem_of_getElem? h)
  have h3 := List.all_eq_true.mp h2 _ hn
  dsimp only at h3
  rw [h1] at h3
  simpa using h3
theorem gx_in_of {w : sx_W} (h : bx_in bw_INV w) : bx_in fx_S w ∧ gx_I (gx_m w) := by
  refine ⟨⟨by rw [h.1]; unfold fx_S; rw [List.length_map], fun c t r' hS => ?_⟩, fun c t r k lo hi hI hk => ?_⟩
  · obtain ⟨r, hI, rfl⟩ := gx_S_of hS
    obtain ⟨vs, h1, h2, h3⟩ := h.2 c t r hI
    refine ⟨vs, h1, by rw [gx_len_map]; exact h2, fun k a v ha hv => ?_⟩
    rw [gx_nth_map] at ha
    cases hn : ax_nth r k with
    | none => rw [hn] at ha; cases ha
    | some b =>
      rw [hn] at ha
      cases ha
      exact gx_top_g (h3 k b v hn hv)
  · obtain ⟨vs, h1, h2, h3⟩ := h.2 c t r hI
    have hl := fx_nth_lt r k _ hk
    have hv := List.getElem?_eq_getElem (l := vs) (i := k) (by omega)
    obtain ⟨x, e, g1, g2⟩ := h3 k _ _ hk hv
    dsimp only at g1 g2
    have : fx_i w c k = x := gx_rd_i (by unfold gx_rd; rw [h1]; show vs[k]? = _; rw [hv, e])
    unfold gx_m
    rw [this]
    exact ⟨g1, g2⟩
theorem gx_in_to {w : sx_W} (h : bx_in fx_S w) (hI : gx_I (gx_m w)) : bx_in bw_INV w := by
  refine ⟨by rw [h.1]; unfold fx_S; rw [List.length_map], fun c t r hc => ?_⟩
  obtain ⟨vs, h1, h2, h3⟩ := h.2 c t _ (gx_S_at hc)
  rw [gx_len_map] at h2
  refine ⟨vs, h1, h2, fun k a v ha hv => ?_⟩
  have hg := h3 k (fx_top a) v (by rw [gx_nth_map, ha]; rfl) hv
  by_cases h0 : a.1 = 0
  · obtain ⟨t', lo, hi⟩ := a
    dsimp only at h0
    subst h0
    unfold fx_top at hg
    rw [if_pos rfl] at hg
    obtain ⟨x, rfl, -, -⟩ := hg
    have hx : fx_i w c k = x := gx_rd_i (by unfold gx_rd; rw [h1]; exact hv)
    have := hI c t r k lo hi hc ha
    unfold gx_m at this
    rw [hx] at this
    exact ⟨x, rfl, this.1, this.2⟩
  · by_cases h1' : a.1 = 1
    · have e := gx_lng_at hc ha h1'
      subst e
      exact hg
    · unfold fx_top at hg
      rw [if_neg h0, if_neg h1'] at hg
      exact hg
theorem gx_m_bd (w : sx_W) (c k : Nat) : -2147483648 ≤ gx_m w c k ∧ gx_m w c k ≤ 2147483647 := ⟨ax_lo _, ax_hi _⟩
/-- what the bounds say of a stretch of a row -/
def gx_cov (c : Nat) (lo hi : Int) (a b : Int) : Bool := match bw_INV[c]? with
  | some (_, r) => decide (0 ≤ lo) && decide (hi < (ax_len r : Int)) && bx_cov (fun v => decide (v.1 = 0) && decide (a ≤ v.2.1) && decide (v.2.2 ≤ b)) lo hi r 0
  | none => false
theorem gx_I_at {m : gx_M} (hI : gx_I m) (c : Nat) {z : Int} (lo hi a b : Int) (h : gx_cov c lo hi a b = true) (h1 : lo ≤ z) (h2 : z ≤ hi) : a ≤ m c z.toNat ∧ m c z.toNat ≤ b := by
  unfold gx_cov at h
  split at h
  · rename_i t r hc
    simp only [Bool.and_eq_true, decide_eq_true_eq] at h
    obtain ⟨⟨g1, g2⟩, g3⟩ := h
    obtain ⟨v, hv⟩ := bx_nth_len r z.toNat (by omega)
    have h4 := bx_cov_ok r 0 z.toNat v g3 hv (by omega) (by omega)
    simp only [Bool.and_eq_true, decide_eq_true_eq] at h4
    obtain ⟨⟨e, g4⟩, g5⟩ := h4
    obtain ⟨t', lo', hi'⟩ := v
    dsimp only at e g4 g5
    subst e
    have := hI c t r z.toNat lo' hi' hc hv
    omega
  · cases h
theorem gx_I_n {m : gx_M} (hI : gx_I m) (c k : Nat) (a b : Int) (h : gx_cov c (k : Int) (k : Int) a b = true) : a ≤ m c k ∧ m c k ≤ b := by
  have := gx_I_at hI c (z := (k : Int)) (k : Int) (k : Int) a b h (Int.le_refl _) (Int.le_refl _)
  rwa [Int.toNat_natCast] at this
/-- a number laid within its bounds -/
theorem gx_I_u {m : gx_M} (hI : gx_I m) {c k : Nat} {v : Int} (h : ∀ (t : Nat) (r : ax_A) (lo hi : Int), bw_INV[c]? = some (t, r) → ax_nth r k = some (0, lo, hi) → lo ≤ v ∧ v ≤ hi) : gx_I (gx_u m c k v) := by
  intro c' t r k' lo hi h1 h2
  unfold gx_u
  by_cases hc : c' = c ∧ k' = k
  · rw [if_pos hc]
    obtain ⟨rfl, rfl⟩ := hc
    exact h t r lo hi h1 h2
  · rw [if_neg hc]
    exact hI c' t r k' lo hi h1 h2
def gx_cow (c : Nat) (lo hi : Int) (a b : Int) : Bool := match bw_INV[c]? with
  | some (_, r) => decide (0 ≤ lo) && bx_cov (fun v => decide (v.1 = 0) && decide (v.2.1 ≤ a) && decide (b ≤ v.2.2)) lo hi r 0
  | none => false
theorem gx_I_w {m : gx_M} (hI : gx_I m) (c : Nat) {z v : Int} (lo hi a b : Int) (h : gx_cow c lo hi a b = true) (h1 : lo ≤ z) (h2 : z ≤ hi) (h3 : a ≤ v) (h4 : v ≤ b) : gx_I (gx_u m c z.toNat v) := by
  refine gx_I_u hI (fun t r lo' hi' hc hv => ?_)
  unfold gx_cow at h
  rw [hc] at h
  simp only [Bool.and_eq_true, decide_eq_true_eq] at h
  obtain ⟨g1, g3⟩ := h
  have h5 := bx_cov_ok r 0 z.toNat _ g3 hv (by omega) (by omega)
  simp only [Bool.and_eq_true, decide_eq_true_eq] at h5
  omega
/-! a contract of the reader, used here -/
def gx_fits (a : ax_V) (v : gx_V) : Prop := match v with
  | .inl x => a.1 = 0 ∧ a.2.1 ≤ x ∧ x ≤ a.2.2
  | .inr c => a.1 = 2 ∧ a.2.1.toNat = c
def gx_pre : ax_L → gx_L → Prop
  | [], _ => True
  | (i, a) :: r, L => (match gx_get L i with
    | some v => gx_fits a v
    | none => False) ∧ gx_pre r L
theorem gx_fits_ok {a : ax_V} {v : gx_V} {u : Value} (h : gx_fits a v) (hg : gx_g v u) : bx_c a u := by
  obtain ⟨t, lo, hi⟩ := a
  cases v with
  | inl x =>
    obtain ⟨e, h1, h2⟩ := h
    dsimp only at e h1 h2
    subst e
    obtain ⟨z, rfl, rfl⟩ := hg
    exact ⟨(fun h => by cases h), z, rfl, h1, h2⟩
  | inr c =>
    obtain ⟨e, h1⟩ := h
    dsimp only at e h1
    subst e
    have e2 : u = .ref c := hg
    exact ⟨(fun h => by cases h), by rw [e2, ← h1]; rfl⟩
theorem gx_pre_ok : ∀ {pre : ax_L} {L : gx_L} {lv : sx_L}, gx_pre pre L → gx_hl lv L → bx_cl pre lv
  | [], L, lv, _, _ => fun q hq => by cases hq
  | (i, a) :: r, L, lv, h, hl => by
    obtain ⟨h1, h2⟩ := h
    intro q hq
    rcases List.mem_cons.mp hq with rfl | hq
    · split at h1
      · rename_i v hv
        obtain ⟨u, e1, e2⟩ := gx_hl_get hl hv
        exact ⟨u, e1, gx_fits_ok h1 e2⟩
      · exact h1.elim
    · exact gx_pre_ok h2 hl q hq
def gx_fw (mods : bx_M) (m m' : gx_M) : Prop := ∀ c k : Nat, (∀ q ∈ mods, ¬ (q.1 = c ∧ q.2.1 ≤ k ∧ k < q.2.2)) → m' c k = m c k
theorem gx_fw.rf {mods : bx_M} {m : gx_M} : gx_fw mods m m := fun _ _ _ => rfl
theorem gx_fw.tr {mods : bx_M} {m m1 m2 : gx_M} (h : gx_fw mods m m1) (h' : gx_fw mods m1 m2) : gx_fw mods m m2 := fun c k hq => (h' c k hq).trans (h c k hq)
theorem gx_fw.sub {mods mods' : bx_M} {m m' : gx_M} (h : gx_fw mods m m') (hs : ∀ q ∈ mods, ∃ q' ∈ mods', q'.1 = q.1 ∧ q'.2.1 ≤ q.2.1 ∧ q.2.2 ≤ q'.2.2) : gx_fw mods' m m' := fun c k hq => h c k (fun q hm hx => by
  obtain ⟨q', h1, h2, h3, h4⟩ := hs q hm
  exact hq q' h1 ⟨by rw [h2]; exact hx.1, by omega, by omega⟩)
theorem gx_fw.w {mods : bx_M} {m m1 : gx_M} {c k : Nat} {v : Int} (h : gx_fw mods m m1) (hq : ∃ q ∈ mods, q.1 = c ∧ q.2.1 ≤ k ∧ k < q.2.2) : gx_fw mods m (gx_u m1 c k v) := fun c' k' hn => by
  obtain ⟨q, hm, hx⟩ := hq
  have hne : ¬ (c' = c ∧ k' = k) := fun e => hn q hm ⟨hx.1.trans e.1.symm, by omega, by omega⟩
  rw [gx_u_ne hne]
  exact h c' k' hn
theorem gx_fw.nil {m m' : gx_M} (h : gx_fw [] m m') : m' = m := by
  funext c k
  exact h c k (fun q hq => by cases hq)
def gx_end (e : Option ax_V) (r : Option Int) : Prop := match e, r with
  | none, none => True
  | some a, some x => a.1 = 0 ∧ a.2.1 ≤ x ∧ x ≤ a.2.2
  | _, _ => False
def gx_mB (mods : bx_M) : Bool := !(bx_star mods) && mods.all (fun q => match bw_INV[q.1]? with
  | some (_, r) => decide (q.2.2 ≤ ax_len r) && bx_cov (fun v => decide (v.1 = 0)) (q.2.1 : Int) ((q.2.2 : Int) - 1) r 0
  | none => false)
theorem gx_mB_ok {mods : bx_M} (h : gx_mB mods = true) : bx_star mods = false ∧ ∀ q ∈ mods, ∀ k, q.2.1 ≤ k → k < q.2.2 → ∃ t r a, fx_S[q.1]? = some (t, r) ∧ ax_nth r k = some a ∧ a = ax_top := by
  unfold gx_mB at h
  rw [Bool.and_eq_true, Bool.not_eq_true'] at h
  refine ⟨h.1, fun q hq k h1 h2 => ?_⟩
  have h3 := List.all_eq_true.mp h.2 q hq
  split at h3
  · rename_i t r hc
    rw [Bool.and_eq_true, decide_eq_true_eq] at h3
    obtain ⟨a, ha⟩ := bx_nth_len r k (by omega)
    have h4 := of_decide_eq_true (bx_cov_ok r 0 k a h3.2 ha (by omega) (by omega))
    refine ⟨t, _, _, gx_S_at hc, by rw [gx_nth_map, ha]; rfl, ?_⟩
    unfold fx_top
    rw [if_pos h4]
  · cases h3
section GXK
variable {xs : List Int32} {gX : gx_M → Prop} {w0 : sx_W}
def gx_XW (gX : gx_M → Prop) (w : sx_W) : Prop := gX (gx_m w)
theorem gx_m_far {w : sx_W} (h : bx_in fx_S w) {c k : Nat} (hc : ¬ c < 100000) : gx_rd w c k = none ∧ gx_m w c k = 0 := by
  have e1 : w.length ≤ c := by rw [h.1]; exact Nat.le_trans (by decide +kernel) (by omega : 100000 ≤ c)
  unfold gx_rd gx_m fx_i
  rw [List.getElem?_eq_none e1]
  exact ⟨rfl, rfl⟩
theorem gx_fw_of {mods : bx_M} {w w' : sx_W} (i1 : bx_in fx_S w) (i2 : bx_in fx_S w') (hst : bx_star mods = false) (h : bx_fw xs mods w w') : gx_fw mods (gx_m w) (gx_m w') := by
  rcases h with h | h
  · rw [hst] at h; cases h
  intro c k hq
  by_cases hc : c < 100000
  case neg => rw [(gx_m_far i1 hc).2, (gx_m_far i2 hc).2]
  have := h c k hq
  rw [bx_rd_w hc, bx_rd_w hc] at this
  unfold gx_m fx_i
  rw [this]
theorem gx_same_of {w w' : sx_W} (h : bx_in fx_S w) (h' : bx_in fx_S w') (hlong : ∀ c k, (∃ x y : Int32, gx_rd w c k = some (.int x) ∧ gx_rd w' c k = some (.int y)) ∨ gx_rd w' c k = gx_rd w c k) : gx_same w w' := fun c k => (hlong c k).symm
/-- ends of a stretch that come back -/
theorem gx_K {mi pc dk d : Nat} {pre : ax_L} {e : Option ax_V} {npc : Nat} {el : ax_L} {eq : bx_Q} {mods : bx_M} {lm : List Nat} {ctr : Option (Nat × Bool)} {M : sx_M} {L : gx_L} {m : gx_M} {Q : gx_Q} (hK : bx_Kok yp_P xs bw_INV (gx_XW gX) (mi, pc, pre, [], [(some e, npc, el, eq)], mods, lm, dk, ctr)) (hM : yp_P.2.2.2.1[mi]? = some M) (hd : dk ≤ d) (hmods : gx_mB mods = true) (he : (match e with | none => true | some a => decide (a.1 = 0)) = true) (hpre : gx_pre pre L) (hI : gx_I m) (hX : gX m)
    (hq : ∀ r m', gx_end e r → gx_I m' → gX m' → gx_fw mods m m' → Q r m') : gx_to xs w0 d M pc L [] m Q := by
  intro lv sv w hl hs hw hm
  obtain ⟨hst, hnl⟩ := gx_mB_ok hmods
  have := gx_hs0 hs
  subst this
  subst hm
  obtain ⟨e1, he1, lv', w', h1, h2, h3, h4⟩ := hK M hM d hd lv w (gx_pre_ok hpre hl) ⟨gx_in_to hw.1 hI, hX⟩ (fun q hq => by cases hq)
  rw [List.mem_singleton] at he1
  subst he1
  obtain ⟨rv, h5, h6⟩ := h4
  obtain ⟨i1, i2⟩ := gx_in_of h1.1
  have hf := gx_fw_of hw.1 i1 hst h3
  have hsame : gx_same w w' := by
    intro c k
    by_cases hmod : ∃ q ∈ mods, q.1 = c ∧ q.2.1 ≤ k ∧ k < q.2.2
    · obtain ⟨q, hm, rfl, hk1, hk2⟩ := hmod
      obtain ⟨t, r, a, g1, g2, rfl⟩ := hnl q hm k hk1 hk2
      obtain ⟨vs, j1, j2, j3, -⟩ := fx_int hw.1 g1 g2
      obtain ⟨vs', j1', j2', j3', -⟩ := fx_int i1 g1 g2
      exact .inr ⟨_, _, by unfold gx_rd; rw [j1]; exact j3, by unfold gx_rd; rw [j1']; exact j3'⟩
    · left
      rcases h3 with h3 | h3
      · rw [hst] at h3; cases h3
      · have hc : c < 100000 ∨ ¬ c < 100000 := by omega
        rcases hc with hc | hc
        · have := h3 c k (fun q hm hx => hmod ⟨q, hm, hx⟩)
          rw [bx_rd_w hc, bx_rd_w hc] at this
          exact this
        · rw [(gx_m_far hw.1 hc).1, (gx_m_far i1 hc).1]
  have hgo : ∃ r : Option Int, gx_ro r rv ∧ gx_end e r := by
    unfold bx_co at h5
    split at h5
    · exact ⟨none, trivial, trivial⟩
    · rename_i a v
      obtain ⟨t, lo, hi⟩ := a
      obtain ⟨n4, hg⟩ := h5
      have h0 : t = 0 := of_decide_eq_true he
      subst h0
      obtain ⟨x, rfl, g1, g2⟩ := hg
      exact ⟨some x.toInt, ⟨x, rfl, rfl⟩, rfl, g1, g2⟩
    · exact h5.elim
  obtain ⟨r, r1, r2⟩ := hgo
  exact ⟨(rv, w'), r, h6, ⟨i1, hw.2.tr hsame⟩, r1, hq r _ r2 i2 h1.2 hf⟩
/-- a contract out of what is shown here -/
def gx_L0 : ax_L → List Int → gx_L
  | [], _ => []
  | (i, a) :: r, v => if a.1 = 2 then (i, .inr a.2.1.toNat) :: gx_L0 r v else match v with
    | x :: v' => (i, .inl x) :: gx_L0 r v'
    | [] => []
def gx_pre0 : ax_L → List Int → Prop
  | [], _ => True
  | (_, a) :: r, v => if a.1 = 2 then gx_pre0 r v else match v with
    | x :: v' => (a.1 = 0 ∧ a.2.1 ≤ x ∧ x ≤ a.2.2) ∧ gx_pre0 r v'
    | [] => False
def gx_kinds (pre : ax_L) : Bool := pre.all (fun q => decide (q.2.1 = 0) || decide (q.2.1 = 2))
theorem gx_pre0_ok : ∀ {pre : ax_L} {lv : sx_L}, gx_kinds pre = true → bx_cl pre lv → ∃ v : List Int, gx_pre0 pre v ∧ gx_hl lv (gx_L0 pre v)
  | [], lv, _, _ => ⟨[], trivial, fun q hq => by cases hq⟩
  | (i, a) :: r, lv, hk, h => by
    unfold gx_kinds at hk
    rw [List.all_cons, Bool.and_eq_true] at hk
    obtain ⟨v, h1, h2⟩ := gx_pre0_ok (pre := r) (lv := lv) hk.2 (fun q hq => h q (List.mem_cons_of_mem _ hq))
    obtain ⟨u, e1, -, e2⟩ := h (i, a) List.mem_cons_self
    obtain ⟨t, lo, hi⟩ := a
    have hk1 := hk.1
    dsimp only at hk1 e2
    rw [Bool.or_eq_true, decide_eq_true_eq, decide_eq_true_eq] at hk1
    rcases hk1 with rfl | rfl
    · obtain ⟨x, rfl, g1, g2⟩ := e2
      refine ⟨x.toInt :: v, ⟨⟨rfl, g1, g2⟩, h1⟩, fun q hq => ?_⟩
      rcases List.mem_cons.mp hq with rfl | hq
      · exact ⟨_, e1, x, rfl, rfl⟩
      · exact h2 q hq
    · have e3 : u = .ref lo.toNat := e2
      subst e3
      refine ⟨v, h1, fun q hq => ?_⟩
      rcases List.mem_cons.mp hq with rfl | hq
      · exact ⟨_, e1, rfl⟩
      · exact h2 q hq
def gx_rb (r : Option Int) : Prop := ∀ x, r = some x → -2147483648 ≤ x ∧ x ≤ 2147483647
theorem gx_ro_rb {r : Option Int} {v : Option Value} (h : gx_ro r v) : gx_rb r := by
  intro x hx
  subst hx
  cases v with
  | none => exact h.elim
  | some u => obtain ⟨z, -, rfl⟩ := h; exact ⟨ax_lo z, ax_hi z⟩
def gx_modsI (mods : bx_M) : Bool := mods.all (fun q => decide (q.1 < 100000))
theorem gx_K_of {mi pc dk : Nat} {pre : ax_L} {e : Option ax_V} {npc : Nat} {el : ax_L} {mods : bx_M} {lm : List Nat} {ctr : Option (Nat × Bool)} (hk : gx_kinds pre = true) (he : (match e with | none => true | some a => decide (a.1 = 0)) = true)
    (h : ∀ (M : sx_M) (w0 : sx_W) (v : List Int) (m : gx_M), yp_P.2.2.2.1[mi]? = some M → gx_pre0 pre v → gx_I m → gX m → (∀ c k, -2147483648 ≤ m c k ∧ m c k ≤ 2147483647) → gx_to xs w0 dk M pc (gx_L0 pre v) [] m (fun r m' => gx_rb r → gx_end e r ∧ gx_I m' ∧ gX m' ∧ gx_fw mods m m')) : bx_Kok yp_P xs bw_INV (gx_XW gX) (mi, pc, pre, [], [(some e, npc, el, [])], mods, lm, dk, ctr) := by
  intro M hM d0 hd lv w hcl hw hq
  obtain ⟨v, h1, h2⟩ := gx_pre0_ok hk hcl
  obtain ⟨i1, i2⟩ := gx_in_of hw.1
  obtain ⟨o, r, g1, g2, g3, g0⟩ := gx_to_up hd (h M w v (gx_m w) hM h1 i2 hw.2 (gx_m_bd w)) lv [] w h2 trivial ⟨i1, gx_same.rf⟩ rfl
  obtain ⟨g4, g5, g6, g7⟩ := g0 (gx_ro_rb g3)
  refine ⟨(some e, npc, el, []), List.mem_singleton.mpr rfl, lv, o.2, ⟨gx_in_to g2.1 g5, g6⟩, (fun q hq => by cases hq), Or.inr (fun c k hm => ?_), ?_⟩
  · have hc : c < 100000 ∨ ¬ c < 100000 := by omega
    rcases hc with hc | hc
    · rw [bx_rd_w hc, bx_rd_w hc]
      exact g2.2.eq (g7 c k hm)
    · unfold bx_rd
      split
      · rfl
      · split
        · rfl
        · have e1 : w.length ≤ c := by rw [i1.1]; exact Nat.le_trans (by decide +kernel) (by omega : 100000 ≤ c)
          have e2 : o.2.length ≤ c := by rw [g2.1.1]; exact Nat.le_trans (by decide +kernel) (by omega : 100000 ≤ c)
          rw [List.getElem?_eq_none e1, List.getElem?_eq_none e2]
  · refine ⟨o.1, ?_, g1⟩
    unfold gx_end at g4
    cases e with
    | none =>
      cases r with
      | none =>
        cases ho : o.1 with
        | none => trivial
        | some u => rw [ho] at g3; exact g3.elim
      | some x => exact g4.elim
    | some a =>
      cases r with
      | none => exact g4.elim
      | some x =>
        obtain ⟨t, lo, hi⟩ := a
        obtain ⟨e0, k1, k2⟩ := g4
        dsimp only at e0 k1 k2
        subst e0
        cases ho : o.1 with
        | none => rw [ho] at g3; exact g3.elim
        | some u =>
          rw [ho] at g3
          obtain ⟨z, rfl, rfl⟩ := g3
          exact ⟨(fun h => by cases h), z, rfl, k1, k2⟩
end GXK
