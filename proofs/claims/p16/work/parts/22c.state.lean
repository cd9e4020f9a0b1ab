/-! THE SECOND READER: any state of the program; numbers by names. (4, j, k): name j and k more. A state: bounds of the names; place; locals; operands; what lies at places (cell, index, value); which names are how much above which -/
abbrev bx_Kn : Type := List (Nat × ax_V × ax_V)
abbrev bx_Df : Type := List (Nat × Nat × Int)
abbrev bx_S : Type := ax_N × Nat × ax_L × List ax_V × bx_Kn × bx_Df
def bx_g (vs : List Int) (a : ax_V) (v : Value) : Prop := (a.1 = 4 ∧ ∃ (x : Int32) (z : Int), v = .int x ∧ vs[a.2.1.toNat]? = some z ∧ x.toInt = z + a.2.2) ∨ (a.1 ≠ 4 ∧ ax_g [] a v)
def bx_env (env : ax_N) (vs : List Int) : Prop := env.length = vs.length ∧ ∀ (i : Nat) (q : Int × Int) (z : Int), env[i]? = some q → vs[i]? = some z → q.1 ≤ z ∧ z ≤ q.2
def bx_iv (env : ax_N) (a : ax_V) : Option (Int × Int) := match a.1 with
  | 0 => some (a.2.1, a.2.2)
  | 4 => (env[a.2.1.toNat]?).map (fun q => (q.1 + a.2.2, q.2 + a.2.2))
  | _ => none
def bx_pl (env : ax_N) (a : ax_V) : ax_V := if a.1 = 4 then (match env[a.2.1.toNat]? with
  | some q => (0, q.1 + a.2.2, q.2 + a.2.2)
  | none => (9, 0, 0)) else a
theorem bx_nil : ax_env [] [] := fun i q hq => by simp at hq
theorem bx_up {vs : List Int} {j : Nat} {z : Int} (us : List Int) (h : vs[j]? = some z) : (vs ++ us)[j]? = some z := by
  rw [List.getElem?_append_left (List.getElem?_eq_some_iff.mp h).1]
  exact h
theorem bx_g.up {vs : List Int} {a : ax_V} {v : Value} (us : List Int) (h : bx_g vs a v) : bx_g (vs ++ us) a v := by
  rcases h with ⟨h4, x, z, e, hz, hx⟩ | h
  · exact .inl ⟨h4, x, z, e, bx_up us hz, hx⟩
  · exact .inr h
theorem bx_iv_ok {env : ax_N} {vs : List Int} {a : ax_V} {v : Value} {p : Int × Int} (he : bx_env env vs) (hg : bx_g vs a v) (hi : bx_iv env a = some p) : ∃ x : Int32, v = .int x ∧ p.1 ≤ x.toInt ∧ x.toInt ≤ p.2 := by
  obtain ⟨t, lo, hh⟩ := a
  unfold bx_iv at hi
  rcases hg with ⟨h4, x, z, e, hz, hx⟩ | ⟨h4, hg⟩
  · dsimp only at h4 hi hz hx
    subst h4
    cases hq : env[lo.toNat]? with
    | none => rw [hq] at hi; cases hi
    | some q =>
      rw [hq] at hi
      cases hi
      have := he.2 _ _ _ hq hz
      exact ⟨x, e, by show q.1 + hh ≤ _; omega, by show _ ≤ q.2 + hh; omega⟩
  · dsimp only at h4 hi
    match t, h4, hi, hg with
    | 0, _, hi, hg => cases hi; exact hg
    | 1, _, hi, _ => cases hi
    | 2, _, hi, _ => cases hi
    | 3, _, hi, _ => cases hi
    | 4, h4, _, _ => exact absurd rfl h4
    | n + 5, _, hi, _ => cases hi
theorem bx_pl_ok {env : ax_N} {vs : List Int} {a : ax_V} {v : Value} (he : bx_env env vs) (hg : bx_g vs a v) : ax_g [] (bx_pl env a) v := by
  unfold bx_pl
  rcases hg with ⟨h4, x, z, e, hz, hx⟩ | ⟨h4, hg⟩
  · rw [if_pos h4]
    have hl : a.2.1.toNat < env.length := by rw [he.1]; exact (List.getElem?_eq_some_iff.mp hz).1
    rw [List.getElem?_eq_getElem hl]
    have := he.2 _ _ _ (List.getElem?_eq_getElem hl) hz
    exact ⟨x, e, by dsimp only; omega, by dsimp only; omega⟩
  · rw [if_neg h4]; exact hg
theorem bx_g0 {vs : List Int} {lo hi : Int} {x : Int32} (h1 : lo ≤ x.toInt) (h2 : x.toInt ≤ hi) : bx_g vs (0, lo, hi) (.int x) := .inr ⟨fun h => Nat.noConfusion h, x, rfl, h1, h2⟩
theorem bx_gr {vs : List Int} {r : ax_V} {x : Int32} (h0 : r.1 = 0) (h1 : r.2.1 ≤ x.toInt) (h2 : x.toInt ≤ r.2.2) : bx_g vs r (.int x) := by
  obtain ⟨t, lo, hi⟩ := r
  dsimp only at h0
  subst h0
  exact bx_g0 h1 h2
theorem bx_cat {vs : List Int} {a : ax_V} {v : Value} (h : bx_g vs a v) : v.category = ax_cat a := by
  rcases h with ⟨h4, x, z, e, -, -⟩ | ⟨-, h⟩
  · rw [e]; unfold ax_cat; rw [if_neg (by rw [h4]; decide)]; rfl
  · exact ax_g_cat h
theorem bx_tag {vs : List Int} {a : ax_V} {v : Value} (h : bx_g vs a v) : (a.1 = 0 ∨ a.1 = 4 → ∃ x : Int32, v = .int x) ∧ (a.1 = 1 → ∃ x : Int64, v = .long x ∧ a.2.1 ≤ x.toInt ∧ x.toInt ≤ a.2.2) ∧ (a.1 = 2 → v = .ref a.2.1.toNat) ∧ (a.1 = 3 → v = .retAddr 0) := by
  obtain ⟨t, lo, hh⟩ := a
  rcases h with ⟨h4, x, z, e, -, -⟩ | ⟨h4, h⟩
  · dsimp only at h4 ⊢
    subst h4
    exact ⟨fun _ => ⟨x, e⟩, fun h => (by cases h), fun h => (by cases h), fun h => (by cases h)⟩
  · dsimp only at h4 ⊢
    refine ⟨fun h0 => ?_, fun h1 => ?_, fun h2 => ?_, fun h3 => ?_⟩
    · have : t = 0 := h0.resolve_right h4
      subst this
      obtain ⟨x, e, -, -⟩ := h
      exact ⟨x, e⟩
    · subst h1; exact h
    · subst h2; exact h
    · subst h3; exact h
/-- a new name for a number that isn't single -/
def bx_fr (env : ax_N) (a : ax_V) : ax_N × ax_V := if a.1 = 0 ∧ a.2.1 < a.2.2 then (env ++ [(a.2.1, a.2.2)], (4, (env.length : Int), 0)) else (env, a)
theorem bx_env.push {env : ax_N} {vs : List Int} (he : bx_env env vs) {lo hi z : Int} (h1 : lo ≤ z) (h2 : z ≤ hi) : bx_env (env ++ [(lo, hi)]) (vs ++ [z]) := by
  refine ⟨by rw [List.length_append, List.length_append, he.1]; rfl, fun i q y hq hy => ?_⟩
  by_cases hi' : i < env.length
  · rw [List.getElem?_append_left hi'] at hq
    rw [List.getElem?_append_left (by rw [← he.1]; exact hi')] at hy
    exact he.2 i q y hq hy
  · rw [List.getElem?_append_right (by omega)] at hq
    rw [List.getElem?_append_right (by rw [← he.1]; omega)] at hy
    have h0 : i - env.length < 1 := (List.getElem?_eq_some_iff.mp hq).1
    have e1 : i - env.length = 0 := by omega
    have e2 : i - vs.length = 0 := by rw [← he.1]; exact e1
    rw [e1] at hq
    rw [e2] at hy
    cases hq; cases hy
    exact ⟨h1, h2⟩
theorem bx_fr_ok {env : ax_N} {vs : List Int} {a : ax_V} {v : Value} (he : bx_env env vs) (hg : bx_g vs a v) : ∃ us, bx_env (bx_fr env a).1 (vs ++ us) ∧ bx_g (vs ++ us) (bx_fr env a).2 v := by
  unfold bx_fr
  by_cases h : a.1 = 0 ∧ a.2.1 < a.2.2
  · rw [if_pos h]
    obtain ⟨t, lo, hi⟩ := a
    obtain ⟨h0, hlt⟩ := h
    dsimp only at h0 hlt ⊢
    subst h0
    rcases hg with ⟨h4, -⟩ | ⟨-, x, e, h1, h2⟩
    · cases h4
    · refine ⟨[x.toInt], he.push h1 h2, .inl ⟨rfl, x, x.toInt, e, ?_, by dsimp only; omega⟩⟩
      dsimp only
      rw [he.1, Int.toNat_natCast, List.getElem?_append_right (Nat.le_refl _), Nat.sub_self]
      rfl
  · rw [if_neg h]
    exact ⟨[], by rw [List.append_nil]; exact he, by rw [List.append_nil]; exact hg⟩
/-! what lies where -/
def bx_gl (vs : List Int) (l : ax_L) (lv : sx_L) : Prop := ∀ q ∈ l, ∃ v, sx_get lv q.1 = some v ∧ bx_g vs q.2 v
def bx_gs (vs : List Int) : List ax_V → List Value → Prop
  | [], st => st = []
  | a :: l, st => match st with
    | [] => False
    | v :: st' => bx_g vs a v ∧ bx_gs vs l st'
theorem bx_gl.up {vs : List Int} {l : ax_L} {lv : sx_L} (us : List Int) (h : bx_gl vs l lv) : bx_gl (vs ++ us) l lv := fun q hq => by
  obtain ⟨v, h1, h2⟩ := h q hq
  exact ⟨v, h1, h2.up us⟩
theorem bx_gs_up {vs : List Int} (us : List Int) : ∀ {l : List ax_V} {st : List Value}, bx_gs vs l st → bx_gs (vs ++ us) l st
  | [], _, h => h
  | _ :: _, [], h => h.elim
  | _ :: _, _ :: _, h => ⟨h.1.up us, bx_gs_up us h.2⟩
def bx_rd (xs : List Int32) (w : sx_W) (c k : Nat) : Option Value := if c = 100000 then (xs[k]?).map Value.int else if c = 100001 then some (.int (Int32.ofNat xs.length)) else (w[c]?).bind (fun x => x.2[k]?)
def bx_ixz (vs : List Int) (a : ax_V) : Option Int := if a.1 = 4 then (vs[a.2.1.toNat]?).map (fun z => z + a.2.2) else if a.1 = 0 ∧ a.2.1 = a.2.2 then some a.2.1 else none
def bx_kn (xs : List Int32) (vs : List Int) (w : sx_W) (q : Nat × ax_V × ax_V) : Prop := ∃ z, bx_ixz vs q.2.1 = some z ∧ ∀ v, 0 ≤ z → bx_rd xs w q.1 z.toNat = some v → bx_g vs q.2.2 v
def bx_df (vs : List Int) (q : Nat × Nat × Int) : Prop := ∃ zi zj, vs[q.1]? = some zi ∧ vs[q.2.1]? = some zj ∧ zj + q.2.2 ≤ zi
theorem bx_ixz_up {vs : List Int} {a : ax_V} {z : Int} (us : List Int) (h : bx_ixz vs a = some z) : bx_ixz (vs ++ us) a = some z := by
  unfold bx_ixz at h ⊢
  by_cases h4 : a.1 = 4
  · rw [if_pos h4] at h ⊢
    cases hz : vs[a.2.1.toNat]? with
    | none => rw [hz] at h; cases h
    | some y => rw [hz] at h; rw [bx_up us hz]; exact h
  · rw [if_neg h4] at h ⊢; exact h
theorem bx_kn.up {xs : List Int32} {vs : List Int} {w : sx_W} {q : Nat × ax_V × ax_V} (us : List Int) (h : bx_kn xs vs w q) : bx_kn xs (vs ++ us) w q := by
  obtain ⟨z, h1, h2⟩ := h
  exact ⟨z, bx_ixz_up us h1, fun v hz hv => (h2 v hz hv).up us⟩
theorem bx_df.up {vs : List Int} {q : Nat × Nat × Int} (us : List Int) (h : bx_df vs q) : bx_df (vs ++ us) q := by
  obtain ⟨zi, zj, h1, h2, h3⟩ := h
  exact ⟨zi, zj, bx_up us h1, bx_up us h2, h3⟩
/-- the world's cells as they always are -/
def bx_in (INV : ax_W) (w : sx_W) : Prop := w.length = INV.length ∧ ∀ (c t : Nat) (r : ax_A), INV[c]? = some (t, r) → ∃ vs, w[c]? = some (t, vs) ∧ vs.length = ax_len r ∧ ∀ (k : Nat) (a : ax_V) (v : Value), ax_nth r k = some a → vs[k]? = some v → ax_g [] a v
/-- anything may change -/
def bx_star (mods : List (Nat × Nat × Nat)) : Bool := match mods with
  | q :: _ => decide (q.1 = 200000)
  | [] => false
def bx_fw (xs : List Int32) (mods : List (Nat × Nat × Nat)) (w w' : sx_W) : Prop := bx_star mods = true ∨ ∀ c k : Nat, (∀ q ∈ mods, ¬ (q.1 = c ∧ q.2.1 ≤ k ∧ k < q.2.2)) → bx_rd xs w' c k = bx_rd xs w c k
def bx_fl (lm : List Nat) (lv lv' : sx_L) : Prop := ∀ (j : Nat) (v : Value), j ∉ lm → (v.category = 1 ∨ j + 1 ∉ lm) → sx_get lv j = some v → sx_get lv' j = some v
theorem bx_fw.rf {xs : List Int32} {mods : List (Nat × Nat × Nat)} {w : sx_W} : bx_fw xs mods w w := .inr fun _ _ _ => rfl
theorem bx_fw.tr {xs : List Int32} {mods : List (Nat × Nat × Nat)} {w w1 w2 : sx_W} (h : bx_fw xs mods w w1) (h' : bx_fw xs mods w1 w2) : bx_fw xs mods w w2 := by
  rcases h with h | h
  · exact .inl h
  · rcases h' with h' | h'
    · exact .inl h'
    · exact .inr fun c k hq => (h' c k hq).trans (h c k hq)
theorem bx_fl.rf {lm : List Nat} {lv : sx_L} : bx_fl lm lv lv := fun _ _ _ _ h => h
theorem bx_fl.tr {lm : List Nat} {lv lv1 lv2 : sx_L} (h : bx_fl lm lv lv1) (h' : bx_fl lm lv1 lv2) : bx_fl lm lv lv2 := fun j v h1 h2 h3 => h' j v h1 h2 (h j v h1 h2 h3)
def bx_ok (xs : List Int32) (INV : ax_W) (X : sx_W → Prop) (vs : List Int) (S : bx_S) (lv : sx_L) (st : List Value) (w : sx_W) : Prop := bx_env S.1 vs ∧ bx_gl vs S.2.2.1 lv ∧ bx_gs vs S.2.2.2.1 st ∧ (bx_in INV w ∧ X w) ∧ (∀ q ∈ S.2.2.2.2.1, bx_kn xs vs w q) ∧ ∀ q ∈ S.2.2.2.2.2, bx_df vs q
/-- an index that is one number by its name -/
def bx_key (env : ax_N) (a : ax_V) : Option ax_V := match bx_iv env a with
  | some p => if p.1 = p.2 then some (0, p.1, p.1) else if a.1 = 4 then some a else none
  | none => none
theorem bx_key_ok {env : ax_N} {vs : List Int} {a i : ax_V} {x : Int32} (he : bx_env env vs) (hg : bx_g vs a (.int x)) (h : bx_key env a = some i) : bx_ixz vs i = some x.toInt := by
  unfold bx_key at h
  split at h
  · rename_i p hp
    obtain ⟨y, e, h1, h2⟩ := bx_iv_ok he hg hp
    cases e
    split at h
    · cases h
      unfold bx_ixz
      rw [if_neg (fun h => Nat.noConfusion h : ¬ ((0 : Nat), p.1, p.1).1 = 4), if_pos ⟨rfl, rfl⟩]
      congr 1
      show p.1 = _
      omega
    · split at h
      · rename_i h4
        cases h
        unfold bx_ixz
        rw [if_pos h4]
        rcases hg with ⟨-, y, z, e, hz, hx⟩ | ⟨hn, -⟩
        · cases e
          rw [hz, hx]
          rfl
        · exact absurd h4 hn
      · cases h
  · cases h
/-! a row's values from one place to another -/
def bx_jr (lo hi : Int) : ax_A → Int → Option (Option ax_V)
  | [], _ => some none
  | (n, a) :: r, o => match bx_jr lo hi r (o + n) with
    | none => none
    | some b => if hi < o ∨ o + n ≤ lo then some b else match b with
      | none => some (some a)
      | some b => (ax_join [] a b).map some
theorem bx_jr_ok {lo hi : Int} : ∀ (r : ax_A) (o : Int) (q : Option ax_V) (k : Nat) (a : ax_V), bx_jr lo hi r o = some q → ax_nth r k = some a → lo ≤ o + k → o + k ≤ hi → ∃ c, q = some c ∧ ∀ v, ax_g [] a v → ax_g [] c v
  | [], o, q, k, a, _, h, _, _ => by cases h
  | (n, b) :: r, o, q, k, a, hj, hn, h1, h2 => by
    unfold bx_jr at hj
    unfold ax_nth at hn
    split at hj
    · cases hj
    · rename_i q0 hq0
      by_cases hk : k < n
      · rw [if_pos hk] at hn
        have hba : b = a := Option.some.inj hn
        subst hba
        rw [if_neg (by omega)] at hj
        split at hj
        · cases hj
          exact ⟨_, rfl, fun v h => h⟩
        · rename_i b0
          cases hjn : ax_join [] b b0 with
          | none => rw [hjn] at hj; cases hj
          | some c =>
            rw [hjn] at hj
            cases hj
            exact ⟨c, rfl, fun v => (ax_join_ok bx_nil hjn v).1⟩
      · rw [if_neg hk] at hn
        obtain ⟨c, hc, hv⟩ := bx_jr_ok r (o + n) q0 (k - n) a hq0 hn (by omega) (by omega)
        subst hc
        split at hj
        · cases hj
          exact ⟨c, rfl, hv⟩
        · dsimp only at hj
          cases hjn : ax_join [] b c with
          | none => rw [hjn] at hj; cases hj
          | some c2 =>
            rw [hjn] at hj
            cases hj
            exact ⟨c2, rfl, fun v h => (ax_join_ok bx_nil hjn v).2 (hv v h)⟩
def bx_cov (f : ax_V → Bool) (lo hi : Int) : ax_A → Int → Bool
  | [], _ => true
  | (n, a) :: r, o => (decide (hi < o) || decide (o + n ≤ lo) || f a) && bx_cov f lo hi r (o + n)
theorem bx_cov_ok {f : ax_V → Bool} {lo hi : Int} : ∀ (r : ax_A) (o : Int) (k : Nat) (a : ax_V), bx_cov f lo hi r o = true → ax_nth r k = some a → lo ≤ o + k → o + k ≤ hi → f a = true
  | [], o, k, a, _, h, _, _ => by cases h
  | (n, b) :: r, o, k, a, hj, hn, h1, h2 => by
    unfold bx_cov at hj
    unfold ax_nth at hn
    simp only [Bool.and_eq_true, Bool.or_eq_true, decide_eq_true_eq] at hj
    obtain ⟨hj1, hj2⟩ := hj
    by_cases hk : k < n
    · rw [if_pos hk] at hn
      cases hn
      rcases hj1 with (h | h) | h
      · omega
      · omega
      · exact h
    · rw [if_neg hk] at hn
      exact bx_cov_ok r (o + n) (k - n) a hj2 hn (by omega) (by omega)
theorem bx_nth_len : ∀ (r : ax_A) (k : Nat), k < ax_len r → ∃ a, ax_nth r k = some a
  | [], k, h => by unfold ax_len at h; omega
  | (n, a) :: r, k, h => by
    unfold ax_nth
    unfold ax_len at h
    by_cases hk : k < n
    · rw [if_pos hk]; exact ⟨a, rfl⟩
    · rw [if_neg hk]; exact bx_nth_len r (k - n) (by omega)
abbrev bx_M : Type := List (Nat × Nat × Nat)
/-- what is said of a world stands as long as these places do -/
def bx_keeps (xs : List Int32) (PC : bx_M) (X : sx_W → Prop) : Prop := ∀ w w' : sx_W, (∀ c k : Nat, (∃ q ∈ PC, q.1 = c ∧ q.2.1 ≤ k ∧ k < q.2.2) → bx_rd xs w' c k = bx_rd xs w c k) → X w → X w'
/-- none of these places is among them -/
def bx_clear (PC : bx_M) (c : Nat) (p : Int × Int) : Bool := PC.all (fun q => !decide (q.1 = c) || decide (p.2 < (q.2.1 : Int)) || decide ((q.2.2 : Int) ≤ p.1))
theorem bx_clear_ok {PC : bx_M} {c : Nat} {p : Int × Int} (h : bx_clear PC c p = true) {q : Nat × Nat × Nat} (hq : q ∈ PC) {k : Nat} (hc : q.1 = c) (h1 : p.1 ≤ (k : Int)) (h2 : (k : Int) ≤ p.2) (h3 : q.2.1 ≤ k) (h4 : k < q.2.2) : False := by
  have := List.all_eq_true.mp h q hq
  simp only [Bool.or_eq_true, Bool.not_eq_true', decide_eq_false_iff_not, decide_eq_true_eq] at this
  rcases this with (h5 | h5) | h5
  · exact h5 hc
  · omega
  · omega
