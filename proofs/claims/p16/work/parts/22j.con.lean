/-! contracts of stretches: from a place with no operands (a method's entry, a loop's head) to ends -/
abbrev bx_Q : Type := List (Nat × Nat × ax_V)
/-- an end: what comes back (none: it stands at the place), the place, locals, what lies where -/
abbrev bx_E : Type := Option (Option ax_V) × Nat × ax_L × bx_Q
/-- a contract: method, place, locals and what lies where at first, ends, places and locals that may change, depth, counter (local, up) -/
abbrev bx_K : Type := Nat × Nat × ax_L × bx_Q × List bx_E × bx_M × List Nat × Nat × Option (Nat × Bool)
abbrev bx_O : Type := Option (Option ax_V) × bx_S
def bx_c (a : ax_V) (v : Value) : Prop := a.1 ≠ 4 ∧ ax_g [] a v
theorem bx_c.g {a : ax_V} {v : Value} (h : bx_c a v) (vs : List Int) : bx_g vs a v := .inr h
def bx_go (vs : List Int) (r : Option ax_V) (rv : Option Value) : Prop := match r, rv with
  | none, none => True
  | some a, some v => bx_g vs a v
  | _, _ => False
def bx_co (r : Option ax_V) (rv : Option Value) : Prop := match r, rv with
  | none, none => True
  | some a, some v => bx_c a v
  | _, _ => False
def bx_cl (l : ax_L) (lv : sx_L) : Prop := ∀ q ∈ l, ∃ v, sx_get lv q.1 = some v ∧ bx_c q.2 v
def bx_cq (xs : List Int32) (Q : bx_Q) (w : sx_W) : Prop := ∀ q ∈ Q, ∀ v, bx_rd xs w q.1 q.2.1 = some v → bx_c q.2.2 v
noncomputable def bx_KokM (P : sx_P) (xs : List Int32) (INV : ax_W) (X : sx_W → Prop) (M : sx_M) (K : bx_K) : Prop := match K with
  | (_, pc, pre, prek, exits, mods, lm, dk, _) => ∀ d0, dk ≤ d0 → ∀ (lv : sx_L) (w : sx_W), bx_cl pre lv → bx_in INV w ∧ X w → bx_cq xs prek w →
    ∃ e ∈ exits, ∃ (lv' : sx_L) (w' : sx_W), (bx_in INV w' ∧ X w') ∧ bx_cq xs e.2.2.2 w' ∧ bx_fw xs mods w w' ∧ (match e.1 with
      | none => bx_cl e.2.2.1 lv' ∧ bx_fl lm lv lv' ∧ ∀ o, sx_rn P xs d0 M e.2.1 lv' [] w' o → sx_rn P xs d0 M pc lv [] w o
      | some r => ∃ rv, bx_co r rv ∧ sx_rn P xs d0 M pc lv [] w (rv, w'))
noncomputable def bx_Kok (P : sx_P) (xs : List Int32) (INV : ax_W) (X : sx_W → Prop) (K : bx_K) : Prop := ∀ M, P.2.2.2.1[K.1]? = some M → bx_KokM P xs INV X M K
/-! names for what comes new -/
def bx_frl : ax_N → ax_L → ax_N × ax_L
  | env, [] => (env, [])
  | env, (i, a) :: r => ((bx_frl (bx_fr env a).1 r).1, (i, (bx_fr env a).2) :: (bx_frl (bx_fr env a).1 r).2)
theorem bx_frl_ok {lv : sx_L} : ∀ (l : ax_L) (env : ax_N) (vs : List Int), bx_env env vs → bx_cl l lv → ∃ vs', bx_ext vs vs' ∧ bx_env (bx_frl env l).1 vs' ∧ bx_gl vs' (bx_frl env l).2 lv
  | [], env, vs, he, _ => ⟨vs, bx_ext.rf, he, fun q hq => by cases hq⟩
  | (i, a) :: r, env, vs, he, hl => by
    obtain ⟨v, h1, h2⟩ := hl (i, a) List.mem_cons_self
    obtain ⟨vs1, x1, x2, x3⟩ := bx_fr_ext he (h2.g vs)
    obtain ⟨vs2, y1, y2, y3⟩ := bx_frl_ok r (bx_fr env a).1 vs1 x2 (fun q hq => hl q (List.mem_cons_of_mem _ hq))
    refine ⟨vs2, x1.tr y1, y2, fun q hq => ?_⟩
    rcases List.mem_cons.mp hq with rfl | hq
    · exact ⟨v, h1, y1.g x3⟩
    · exact y3 q hq
def bx_frq : ax_N → bx_Q → ax_N × bx_Kn
  | env, [] => (env, [])
  | env, (c, k, a) :: r => ((bx_frq (bx_fr env a).1 r).1, (c, (0, (k : Int), (k : Int)), (bx_fr env a).2) :: (bx_frq (bx_fr env a).1 r).2)
theorem bx_fr_any {env : ax_N} {vs : List Int} {a : ax_V} (he : bx_env env vs) : ∃ vs', bx_ext vs vs' ∧ bx_env (bx_fr env a).1 vs' := by
  by_cases h : a.1 = 0 ∧ a.2.1 < a.2.2
  · unfold bx_fr
    rw [if_pos h]
    exact ⟨vs ++ [a.2.1], ⟨_, rfl⟩, he.push (Int.le_refl _) (Int.le_of_lt h.2)⟩
  · unfold bx_fr
    rw [if_neg h]
    exact ⟨vs, bx_ext.rf, he⟩
theorem bx_ixk {vs : List Int} (k : Nat) : bx_ixz vs (0, (k : Int), (k : Int)) = some (k : Int) := by
  unfold bx_ixz
  rw [if_neg (fun h => Nat.noConfusion h), if_pos ⟨rfl, rfl⟩]
theorem bx_frq_ok {xs : List Int32} {w : sx_W} : ∀ (Q : bx_Q) (env : ax_N) (vs : List Int), bx_env env vs → bx_cq xs Q w → ∃ vs', bx_ext vs vs' ∧ bx_env (bx_frq env Q).1 vs' ∧ ∀ q ∈ (bx_frq env Q).2, bx_kn xs vs' w q
  | [], env, vs, he, _ => ⟨vs, bx_ext.rf, he, fun q hq => by cases hq⟩
  | (c, k, a) :: r, env, vs, he, hl => by
    have h0 : ∃ vs1, bx_ext vs vs1 ∧ bx_env (bx_fr env a).1 vs1 ∧ bx_kn xs vs1 w (c, (0, (k : Int), (k : Int)), (bx_fr env a).2) := by
      cases hr : bx_rd xs w c k with
      | none =>
        obtain ⟨vs1, x1, x2⟩ := bx_fr_any (a := a) he
        refine ⟨vs1, x1, x2, (k : Int), bx_ixk k, fun v _ hv => ?_⟩
        have hv' : bx_rd xs w c k = some v := by rw [← Int.toNat_natCast k]; exact hv
        rw [hr] at hv'
        cases hv'
      | some v =>
        have h2 := hl (c, k, a) List.mem_cons_self v hr
        obtain ⟨vs1, x1, x2, x3⟩ := bx_fr_ext he (h2.g vs)
        refine ⟨vs1, x1, x2, (k : Int), bx_ixk k, fun u _ hu => ?_⟩
        have hu' : bx_rd xs w c k = some u := by rw [← Int.toNat_natCast k]; exact hu
        rw [hr] at hu'
        cases hu'
        exact x3
    obtain ⟨vs1, x1, x2, x3⟩ := h0
    obtain ⟨vs2, y1, y2, y3⟩ := bx_frq_ok r (bx_fr env a).1 vs1 x2 (fun q hq => hl q (List.mem_cons_of_mem _ hq))
    refine ⟨vs2, x1.tr y1, y2, fun q hq => ?_⟩
    rcases List.mem_cons.mp hq with rfl | hq
    · obtain ⟨u, rfl⟩ := y1
      exact x3.up u
    · exact y3 q hq
/-! what stays -/
def bx_kill (env : ax_N) (mods : bx_M) (kn : bx_Kn) : bx_Kn := kn.filter (fun q => !bx_star mods && mods.all (fun m => !decide (m.1 = q.1) || (match bx_iv env q.2.1 with
  | some p => decide (p.2 < (m.2.1 : Int)) || decide ((m.2.2 : Int) ≤ p.1)
  | none => false)))
theorem bx_kill_ok {xs : List Int32} {env : ax_N} {vs : List Int} {mods : bx_M} {kn : bx_Kn} {w w' : sx_W} (he : bx_env env vs) (hf : bx_fw xs mods w w') (hk : ∀ q ∈ kn, bx_kn xs vs w q) : ∀ q ∈ bx_kill env mods kn, bx_kn xs vs w' q := by
  intro q hq
  obtain ⟨hm, ha⟩ := List.mem_filter.mp hq
  obtain ⟨z, e1, e2⟩ := hk q hm
  refine ⟨z, e1, fun v hz hv => e2 v hz ?_⟩
  rw [Bool.and_eq_true, Bool.not_eq_true'] at ha
  obtain ⟨hns, ha⟩ := ha
  rcases hf with hf | hf
  · rw [hns] at hf; cases hf
  rw [← hv]
  refine (hf q.1 z.toNat (fun m hmm hc => ?_)).symm
  have h1 := List.all_eq_true.mp ha m hmm
  rw [Bool.or_eq_true] at h1
  rcases h1 with h1 | h1
  · simp [hc.1] at h1
  · split at h1
    · rename_i p hp
      have := bx_ixz_iv he e1 hp
      simp only [Bool.or_eq_true, decide_eq_true_eq] at h1
      omega
    · cases h1
def bx_lkill (lm : List Nat) (l : ax_L) : ax_L := l.filter (fun q => !lm.contains q.1 && (decide (ax_cat q.2 = 1) || !lm.contains (q.1 + 1)))
theorem bx_lkill_ok {vs : List Int} {lm : List Nat} {l : ax_L} {lv lv' : sx_L} (hf : bx_fl lm lv lv') (hl : bx_gl vs l lv) : bx_gl vs (bx_lkill lm l) lv' := by
  intro q hq
  obtain ⟨hm, ha⟩ := List.mem_filter.mp hq
  obtain ⟨v, h1, h2⟩ := hl q hm
  rw [Bool.and_eq_true, Bool.or_eq_true, Bool.not_eq_true', List.contains_eq_mem, decide_eq_false_iff_not] at ha
  refine ⟨v, hf q.1 v ha.1 ?_ h1, h2⟩
  rcases ha.2 with h | h
  · exact .inl (by rw [bx_cat h2]; exact of_decide_eq_true h)
  · rw [Bool.not_eq_true', List.contains_eq_mem, decide_eq_false_iff_not] at h
    exact .inr h
def bx_sub (mods cm : bx_M) : Bool := bx_star cm || !bx_star mods && mods.all (fun m => cm.any (fun q => decide (q.1 = m.1) && decide (q.2.1 ≤ m.2.1) && decide (m.2.2 ≤ q.2.2)))
theorem bx_sub_ok {xs : List Int32} {mods cm : bx_M} {w w' : sx_W} (h : bx_sub mods cm = true) (hf : bx_fw xs mods w w') : bx_fw xs cm w w' := by
  unfold bx_sub at h
  rw [Bool.or_eq_true, Bool.and_eq_true, Bool.not_eq_true'] at h
  rcases h with h | ⟨hns, h⟩
  · exact .inl h
  rcases hf with hf | hf
  · rw [hns] at hf; cases hf
  refine .inr fun c k hno => ?_
  refine hf c k (fun m hm hc => ?_)
  obtain ⟨q, hq, h1⟩ := List.any_eq_true.mp (List.all_eq_true.mp h m hm)
  simp only [Bool.and_eq_true, decide_eq_true_eq] at h1
  exact hno q hq ⟨h1.1.1.trans hc.1, by omega, by omega⟩
def bx_subl (lm cl : List Nat) : Bool := lm.all (fun i => cl.contains i)
theorem bx_subl_ok {lm cl : List Nat} {lv lv' : sx_L} (h : bx_subl lm cl = true) (hf : bx_fl lm lv lv') : bx_fl cl lv lv' := by
  have hm : ∀ j, j ∈ lm → j ∈ cl := fun j hj => by
    have := List.all_eq_true.mp h j hj
    simpa using this
  intro j v hj hc hv
  exact hf j v (fun h => hj (hm j h)) (hc.imp id (fun h1 h2 => h1 (hm _ h2))) hv
/-! entailment -/
def bx_leC (env : ax_N) (b a : ax_V) : Bool := !decide (a.1 = 4) && ax_leV [] (bx_pl env b) a
theorem bx_leC_ok {env : ax_N} {vs : List Int} {a b : ax_V} {v : Value} (he : bx_env env vs) (h : bx_leC env b a = true) (hg : bx_g vs b v) : bx_c a v := by
  unfold bx_leC at h
  rw [Bool.and_eq_true, Bool.not_eq_true', decide_eq_false_iff_not] at h
  exact ⟨h.1, ax_leV_ok bx_nil h.2 (bx_pl_ok he hg)⟩
def bx_entl (env : ax_N) (l pre : ax_L) : Bool := pre.all (fun q => match ax_get l q.1 with
  | some b => bx_leC env b q.2
  | none => false)
theorem bx_entl_ok {env : ax_N} {vs : List Int} {l pre : ax_L} {lv : sx_L} (he : bx_env env vs) (hl : bx_gl vs l lv) (h : bx_entl env l pre = true) : bx_cl pre lv := by
  intro q hq
  have h1 := List.all_eq_true.mp h q hq
  split at h1
  · rename_i b hb
    obtain ⟨v, h2, h3⟩ := bx_gl_get hl hb
    exact ⟨v, h2, bx_leC_ok he h1 h3⟩
  · cases h1
def bx_entq (INV : ax_W) (env : ax_N) (kn : bx_Kn) (Q : bx_Q) : Bool := Q.all (fun q => match bx_find kn q.1 (some (0, (q.2.1 : Int), (q.2.1 : Int))) with
  | some b => bx_leC env b q.2.2
  | none => decide (q.1 < 100000) && !decide (q.2.2.1 = 4) && (match INV[q.1]? with
    | some (_, r) => (match ax_nth r q.2.1 with
      | some a => ax_leV [] a q.2.2
      | none => false)
    | none => false))
theorem bx_entq_ok {xs : List Int32} {INV : ax_W} {env : ax_N} {vs : List Int} {kn : bx_Kn} {Q : bx_Q} {w : sx_W} (hw : bx_in INV w) (he : bx_env env vs) (hk : ∀ q ∈ kn, bx_kn xs vs w q) (h : bx_entq INV env kn Q = true) : bx_cq xs Q w := by
  intro q hq v hv
  have h1 := List.all_eq_true.mp h q hq
  split at h1
  · rename_i b hb
    obtain ⟨j, hj, hm⟩ := bx_find_ok hb
    cases hj
    obtain ⟨z, e1, e2⟩ := hk _ hm
    have e1' : bx_ixz vs (0, (q.2.1 : Int), (q.2.1 : Int)) = some z := e1
    rw [bx_ixk] at e1'
    cases e1'
    exact bx_leC_ok he h1 (e2 v (Int.natCast_nonneg _) (by rw [Int.toNat_natCast]; exact hv))
  · simp only [Bool.and_eq_true, decide_eq_true_eq, Bool.not_eq_true', decide_eq_false_iff_not] at h1
    obtain ⟨⟨h0, h4⟩, h1⟩ := h1
    split at h1
    · rename_i t r hI
      split at h1
      · rename_i a ha
        obtain ⟨cs, e1, e2, e3⟩ := hw.2 _ t r hI
        rw [bx_rd_w h0, e1] at hv
        exact ⟨h4, ax_leV_ok bx_nil h1 (e3 _ a v ha hv)⟩
      · cases h1
    · cases h1
/-- may the contract be used here -/
def bx_can (C : bx_C) (reg : Bool) (d : Nat) (env : ax_N) (l : ax_L) (kn : bx_Kn) (K : bx_K) : Bool := match K with
  | (_, _, pre, prek, _, mods, lm, dk, _) => decide (dk ≤ d) && bx_entl env l pre && bx_entq C.1 env kn prek && bx_sub mods C.2.2.1 && (!reg || bx_subl lm C.2.2.2)
/-- the state behind an end -/
def bx_aft (K : bx_K) (env : ax_N) (l : ax_L) (kn : bx_Kn) (df : bx_Df) (e : bx_E) : bx_O := match e.1 with
  | none => (none, ((bx_frl (bx_frq env e.2.2.2).1 e.2.2.1).1, e.2.1, (bx_frl (bx_frq env e.2.2.2).1 e.2.2.1).2 ++ bx_lkill K.2.2.2.2.2.2.1 l, [], (bx_frq env e.2.2.2).2 ++ bx_kill env K.2.2.2.2.2.1 kn, df))
  | some none => (some none, ((bx_frq env e.2.2.2).1, 0, [], [], (bx_frq env e.2.2.2).2 ++ bx_kill env K.2.2.2.2.2.1 kn, df))
  | some (some a) => (some (some (bx_fr (bx_frq env e.2.2.2).1 a).2), ((bx_fr (bx_frq env e.2.2.2).1 a).1, 0, [], [], (bx_frq env e.2.2.2).2 ++ bx_kill env K.2.2.2.2.2.1 kn, df))
def bx_okW (xs : List Int32) (INV : ax_W) (X : sx_W → Prop) (vs : List Int) (S : bx_S) (w : sx_W) : Prop := bx_env S.1 vs ∧ (bx_in INV w ∧ X w) ∧ (∀ q ∈ S.2.2.2.2.1, bx_kn xs vs w q) ∧ ∀ q ∈ S.2.2.2.2.2, bx_df vs q
section BXA
variable {P : sx_P} {xs : List Int32} {C : bx_C} {X : sx_W → Prop} {vs : List Int} {env : ax_N} {kn : bx_Kn} {df : bx_Df} {w : sx_W} {l : ax_L} {lv : sx_L}
theorem bx_aft_ok {M : sx_M} {K : bx_K} {reg : Bool} {d d0 : Nat} (hK : bx_KokM P xs C.1 X M K) (hd : d ≤ d0) (hc : bx_can C reg d env l kn K = true) (he : bx_env env vs) (hl : bx_gl vs l lv) (hw : bx_in C.1 w ∧ X w) (hk : ∀ q ∈ kn, bx_kn xs vs w q) (hdf : ∀ q ∈ df, bx_df vs q) :
    ∃ e ∈ K.2.2.2.2.1, ∃ (vs' : List Int) (lv' : sx_L) (w' : sx_W), bx_ext vs vs' ∧ bx_fw xs C.2.2.1 w w' ∧ (match (bx_aft K env l kn df e).1 with
      | none => bx_ok xs C.1 X vs' (bx_aft K env l kn df e).2 lv' [] w' ∧ bx_fl K.2.2.2.2.2.2.1 lv lv' ∧ ∀ o, sx_rn P xs d0 M (bx_aft K env l kn df e).2.2.1 lv' [] w' o → sx_rn P xs d0 M K.2.1 lv [] w o
      | some r => bx_okW xs C.1 X vs' (bx_aft K env l kn df e).2 w' ∧ ∃ rv, bx_go vs' r rv ∧ sx_rn P xs d0 M K.2.1 lv [] w (rv, w')) := by
  obtain ⟨mi, pc, pre, prek, exits, mods, lm, dk, ctr⟩ := K
  unfold bx_can at hc
  simp only [Bool.and_eq_true, decide_eq_true_eq] at hc
  obtain ⟨⟨⟨⟨c1, c2⟩, c3⟩, c4⟩, c5⟩ := hc
  obtain ⟨e, hm, lv', w', h1, h2, h3, h4⟩ := hK d0 (by omega) lv w (bx_entl_ok he hl c2) hw (bx_entq_ok hw.1 he hk c3)
  obtain ⟨vs1, x1, x2, x3⟩ := bx_frq_ok e.2.2.2 env vs he h2
  have hkn : ∀ vs' : List Int, bx_ext vs1 vs' → ∀ q ∈ (bx_frq env e.2.2.2).2 ++ bx_kill env mods kn, bx_kn xs vs' w' q := fun vs' hx q hq => by
    rcases List.mem_append.mp hq with hq | hq
    · exact hx.kn x3 q hq
    · exact hx.kn (x1.kn (bx_kill_ok he h3 hk)) q hq
  obtain ⟨ret, epc, eloc, eq⟩ := e
  match ret, h4 with
  | none, h4 =>
    obtain ⟨g1, g2, g3⟩ := h4
    obtain ⟨vs2, y1, y2, y3⟩ := bx_frl_ok eloc _ vs1 x2 g1
    refine ⟨_, hm, vs2, lv', w', x1.tr y1, bx_sub_ok c4 h3, ⟨y2, ?_, rfl, h1, hkn vs2 y1, (x1.tr y1).df hdf⟩, g2, g3⟩
    intro q hq
    rcases List.mem_append.mp hq with hq | hq
    · exact y3 q hq
    · exact (x1.tr y1).gl (bx_lkill_ok g2 hl) q hq
  | some none, h4 =>
    obtain ⟨rv, g1, g2⟩ := h4
    refine ⟨_, hm, vs1, lv', w', x1, bx_sub_ok c4 h3, ⟨x2, h1, hkn vs1 bx_ext.rf, x1.df hdf⟩, rv, ?_, g2⟩
    cases rv with
    | none => trivial
    | some v => exact g1.elim
  | some (some a), h4 =>
    obtain ⟨rv, g1, g2⟩ := h4
    cases rv with
    | none => exact g1.elim
    | some v =>
      obtain ⟨vs2, y1, y2, y3⟩ := bx_fr_ext x2 (bx_c.g g1 vs1)
      exact ⟨_, hm, vs2, lv', w', x1.tr y1, bx_sub_ok c4 h3, ⟨y2, h1, hkn vs2 y1, (x1.tr y1).df hdf⟩, some v, y3, g2⟩
end BXA
