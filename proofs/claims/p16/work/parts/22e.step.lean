/-! steps of the second reader -/
def bx_1 (env : ax_N) (pc : Nat) (l : ax_L) (st : List ax_V) (kn : bx_Kn) (df : bx_Df) : Option (List bx_S) := some [(env, pc, l, st, kn, df)]
def bx_op2 (g : Int × Int → Int × Int → Option ax_V) (env : ax_N) (a b : ax_V) : Option ax_V := match bx_iv env a, bx_iv env b with
  | some p, some q => g p q
  | _, _ => none
def bx_offok (p : Int × Int) (k : Int) : Bool := decide (-2147483648 ≤ p.1 + k) && decide (p.2 + k ≤ 2147483647)
def bx_iadd (env : ax_N) (a b : ax_V) : Option ax_V := match bx_iv env a, bx_iv env b with
  | some p, some q => if a.1 = 4 ∧ q.1 = q.2 ∧ bx_offok p q.1 = true then some (4, a.2.1, a.2.2 + q.1)
    else if b.1 = 4 ∧ p.1 = p.2 ∧ bx_offok q p.1 = true then some (4, b.2.1, b.2.2 + p.1) else bx_of0 ax_iadd p q
  | _, _ => none
def bx_isub (env : ax_N) (a b : ax_V) : Option ax_V := match bx_iv env a, bx_iv env b with
  | some p, some q => if a.1 = 4 ∧ q.1 = q.2 ∧ bx_offok p (-q.1) = true then some (4, a.2.1, a.2.2 - q.1) else bx_of0 ax_isub p q
  | _, _ => none
def bx_okI (g : ax_N → ax_V → ax_V → Option ax_V) (f : Int32 → Int32 → Option Int32) : Prop := ∀ (env : ax_N) (vs : List Int) (a b r : ax_V) (v u : Value), bx_env env vs → bx_g vs a v → bx_g vs b u → g env a b = some r → ∃ x y z : Int32, v = .int x ∧ u = .int y ∧ f x y = some z ∧ bx_g vs r (.int z)
theorem bx_op2_ok {g : Int × Int → Int × Int → Option ax_V} {f : Int32 → Int32 → Option Int32} (h : bx_okf g f) : bx_okI (bx_op2 g) f := by
  intro env vs a b r v u he ha hb hr
  unfold bx_op2 at hr
  split at hr
  · rename_i p q hp hq
    obtain ⟨x, e1, h1, h2⟩ := bx_iv_ok he ha hp
    obtain ⟨y, e2, h3, h4⟩ := bx_iv_ok he hb hq
    obtain ⟨z, h5, h6, h7, h8⟩ := h p q r x y h1 h2 h3 h4 hr
    exact ⟨x, y, z, e1, e2, h5, bx_gr h6 h7 h8⟩
  · cases hr
theorem bx_off_ok {vs : List Int} {a : ax_V} {x y : Int32} {p : Int × Int} {k : Int} (hg : bx_g vs a (.int x)) (h4 : a.1 = 4) (h1 : p.1 ≤ x.toInt) (h2 : x.toInt ≤ p.2) (hk : bx_offok p k = true) (hy : y.toInt = (x.toInt + k).bmod (2 ^ 32)) : bx_g vs (4, a.2.1, a.2.2 + k) (.int y) := by
  unfold bx_offok at hk
  simp only [Bool.and_eq_true, decide_eq_true_eq] at hk
  rcases hg with ⟨-, x', z, e, hz, hx⟩ | ⟨hn, -⟩
  · cases e
    rw [ax_bm (by omega) (by omega)] at hy
    exact .inl ⟨rfl, y, z, rfl, hz, by show y.toInt = z + (a.2.2 + k); omega⟩
  · exact absurd h4 hn
theorem bx_iadd_okI : bx_okI bx_iadd (fun x y => some (x + y)) := by
  intro env vs a b r v u he ha hb hr
  unfold bx_iadd at hr
  split at hr
  · rename_i p q hp hq
    obtain ⟨x, e1, h1, h2⟩ := bx_iv_ok he ha hp
    obtain ⟨y, e2, h3, h4⟩ := bx_iv_ok he hb hq
    subst e1; subst e2
    refine ⟨x, y, x + y, rfl, rfl, rfl, ?_⟩
    split at hr
    · rename_i hc
      cases hr
      exact bx_off_ok ha hc.1 h1 h2 hc.2.2 (by rw [Int32.toInt_add, show y.toInt = q.1 by omega])
    · split at hr
      · rename_i hc
        cases hr
        exact bx_off_ok hb hc.1 h3 h4 hc.2.2 (by rw [Int32.toInt_add, show x.toInt = p.1 by omega, Int.add_comm])
      · obtain ⟨z, h5, h6, h7, h8⟩ := bx_iadd_ok p q r x y h1 h2 h3 h4 hr
        cases h5
        exact bx_gr h6 h7 h8
  · cases hr
theorem bx_isub_okI : bx_okI bx_isub (fun x y => some (x - y)) := by
  intro env vs a b r v u he ha hb hr
  unfold bx_isub at hr
  split at hr
  · rename_i p q hp hq
    obtain ⟨x, e1, h1, h2⟩ := bx_iv_ok he ha hp
    obtain ⟨y, e2, h3, h4⟩ := bx_iv_ok he hb hq
    subst e1; subst e2
    refine ⟨x, y, x - y, rfl, rfl, rfl, ?_⟩
    split at hr
    · rename_i hc
      cases hr
      have := bx_off_ok (y := x - y) ha hc.1 h1 h2 hc.2.2 (by rw [Int32.toInt_sub, show y.toInt = q.1 by omega, Int.sub_eq_add_neg])
      rw [← Int.sub_eq_add_neg] at this
      exact this
    · obtain ⟨z, h5, h6, h7, h8⟩ := bx_isub_ok p q r x y h1 h2 h3 h4 hr
      cases h5
      exact bx_gr h6 h7 h8
  · cases hr
def bx_res (xs : List Int32) (INV : ax_W) (X : sx_W → Prop) (mods : bx_M) (lm : List Nat) (vs : List Int) (lv : sx_L) (w : sx_W) (outs : List bx_S) (r : Option sx_R) : Prop := ∃ pc' lv' st' w', r = some (pc', lv', st', w', 0, 0) ∧ ∃ S' ∈ outs, S'.2.1 = pc' ∧ ∃ vs', bx_ext vs vs' ∧ bx_ok xs INV X vs' S' lv' st' w' ∧ bx_fl lm lv lv' ∧ bx_fw xs mods w w'
section BXS
variable {xs : List Int32} {INV : ax_W} {X : sx_W → Prop} {PC : bx_M} {mods : bx_M} {lm : List Nat} {vs : List Int} {env : ax_N} {kn : bx_Kn} {df : bx_Df} {w : sx_W} {pc : Nat} {l : ax_L} {ast : List ax_V} {lv : sx_L} {st : List Value} {outs : List bx_S}
def bx_at0 (xs : List Int32) (INV : ax_W) (X : sx_W → Prop) (vs : List Int) (env : ax_N) (l : ax_L) (ast : List ax_V) (kn : bx_Kn) (df : bx_Df) (lv : sx_L) (st : List Value) (w : sx_W) : Prop := bx_env env vs ∧ bx_gl vs l lv ∧ bx_gs vs ast st ∧ (bx_in INV w ∧ X w) ∧ (∀ q ∈ kn, bx_kn xs vs w q) ∧ ∀ q ∈ df, bx_df vs q
/-- operands alone change -/
theorem bx_st1 {pc' : Nat} {ast' : List ax_V} {st' : List Value} (h : bx_1 env pc' l ast' kn df = some outs) (hA : bx_at0 xs INV X vs env l ast kn df lv st w) (hs : bx_gs vs ast' st') : bx_res xs INV X mods lm vs lv w outs (some (pc', lv, st', w, 0, 0)) := by
  cases h
  exact ⟨_, _, _, _, rfl, _, List.mem_singleton.mpr rfl, rfl, vs, bx_ext.rf, ⟨hA.1, hA.2.1, hs, hA.2.2.2⟩, bx_fl.rf, bx_fw.rf⟩
theorem bx_gs2 {a b : ax_V} {r : List ax_V} (h : bx_gs vs (b :: a :: r) st) : ∃ (u v : Value) (r' : List Value), st = u :: v :: r' ∧ bx_g vs b u ∧ bx_g vs a v ∧ bx_gs vs r r' := by
  match st, h with
  | u :: v :: r', h => exact ⟨u, v, r', rfl, h.1, h.2.1, h.2.2⟩
  | [u], h => exact h.2.elim
theorem bx_gs1 {a : ax_V} {r : List ax_V} (h : bx_gs vs (a :: r) st) : ∃ (v : Value) (r' : List Value), st = v :: r' ∧ bx_g vs a v ∧ bx_gs vs r r' := by
  match st, h with
  | v :: r', h => exact ⟨v, r', rfl, h.1, h.2⟩
def bx_b2 (g : ax_N → ax_V → ax_V → Option ax_V) (env : ax_N) (pc : Nat) (l : ax_L) (st : List ax_V) (kn : bx_Kn) (df : bx_Df) : Option (List bx_S) := match st with
  | b :: a :: r => match g env a b with
    | some x => bx_1 env (pc + 1) l (x :: r) kn df
    | none => none
  | _ => none
theorem bx_b2_ok {g : ax_N → ax_V → ax_V → Option ax_V} {f : Int32 → Int32 → Option Int32} (hg : bx_okI g f) (h : bx_b2 g env pc l ast kn df = some outs) (hA : bx_at0 xs INV X vs env l ast kn df lv st w) : bx_res xs INV X mods lm vs lv w outs (sx_b2 pc lv st w f) := by
  unfold bx_b2 at h
  split at h
  · rename_i b a r
    split at h
    · rename_i x hx
      obtain ⟨u, v, r', rfl, hb, ha, hr⟩ := bx_gs2 hA.2.2.1
      obtain ⟨y1, y2, z, rfl, rfl, hf, hz⟩ := hg env vs a b x v u hA.1 ha hb hx
      unfold sx_b2
      dsimp only
      rw [hf]
      exact bx_st1 h hA ⟨hz, hr⟩
    · cases h
  · cases h
def bx_lex (g : ax_V → ax_V → Option ax_V) (env : ax_N) (pc : Nat) (l : ax_L) (st : List ax_V) (kn : bx_Kn) (df : bx_Df) : Option (List bx_S) := match st with
  | b :: a :: r => match g a b with
    | some x => if a.1 = 4 ∨ b.1 = 4 ∨ x.1 = 4 then none else bx_1 env (pc + 1) l (x :: r) kn df
    | none => none
  | _ => none
theorem bx_noX {vs : List Int} {a : ax_V} {v : Value} (h4 : ¬ a.1 = 4) (h : bx_g vs a v) : ax_g [] a v := by
  rcases h with ⟨h, -⟩ | ⟨-, h⟩
  · exact absurd h h4
  · exact h
theorem bx_l2_ok {f : Int64 → Int64 → Int64} (h : bx_lex (ax_lex f) env pc l ast kn df = some outs) (hA : bx_at0 xs INV X vs env l ast kn df lv st w) : bx_res xs INV X mods lm vs lv w outs (sx_l2 pc lv st w f) := by
  unfold bx_lex at h
  split at h
  · rename_i b a r
    split at h
    · rename_i x hx
      split at h
      · cases h
      · rename_i h4
        obtain ⟨u, v, r', rfl, hb, ha, hr⟩ := bx_gs2 hA.2.2.1
        obtain ⟨y1, y2, rfl, rfl, hz⟩ := ax_lex_ok (bx_noX (fun e => h4 (.inl e)) ha) (bx_noX (fun e => h4 (.inr (.inl e))) hb) hx
        exact bx_st1 h hA ⟨.inr ⟨fun e => h4 (.inr (.inr e)), hz⟩, hr⟩
    · cases h
  · cases h
/-- a long shifted: any long -/
def bx_lsh (env : ax_N) (pc : Nat) (l : ax_L) (st : List ax_V) (kn : bx_Kn) (df : bx_Df) : Option (List bx_S) := match st with
  | b :: a :: r => if a.1 = 1 ∧ (b.1 = 0 ∨ b.1 = 4) then bx_1 env (pc + 1) l (ax_topL :: r) kn df else none
  | _ => none
theorem bx_topL_ok (x : Int64) : bx_g vs ax_topL (.long x) := .inr ⟨fun h => Nat.noConfusion h (fun h => Nat.noConfusion h), ax_topL_ok x⟩
theorem bx_lsh_ok {f : Int64 → Int32 → Int64} (h : bx_lsh env pc l ast kn df = some outs) (hA : bx_at0 xs INV X vs env l ast kn df lv st w) : bx_res xs INV X mods lm vs lv w outs (sx_ls pc lv st w f) := by
  unfold bx_lsh at h
  split at h
  · rename_i b a r
    split at h
    · rename_i hc
      obtain ⟨u, v, r', rfl, hb, ha, hr⟩ := bx_gs2 hA.2.2.1
      obtain ⟨x, rfl, -, -⟩ := (bx_tag ha).2.1 hc.1
      obtain ⟨y, rfl⟩ := (bx_tag hb).1 hc.2
      exact bx_st1 h hA ⟨bx_topL_ok _, hr⟩
    · cases h
  · cases h
def bx_ld (t : Nat) (n i : Nat) (env : ax_N) (pc : Nat) (l : ax_L) (st : List ax_V) (kn : bx_Kn) (df : bx_Df) : Option (List bx_S) := match ax_get l i with
  | some a => if (t = 0 ∧ (a.1 = 0 ∨ a.1 = 4)) ∨ (t = 1 ∧ a.1 = 1) ∨ (t = 2 ∧ (a.1 = 2 ∨ a.1 = 3)) then bx_1 env (pc + n) l (a :: st) kn df else none
  | none => none
theorem bx_gl_get {i : Nat} {a : ax_V} (h : bx_gl vs l lv) (hi : ax_get l i = some a) : ∃ v, sx_get lv i = some v ∧ bx_g vs a v := by
  unfold ax_get at hi
  cases hf : l.find? (fun q => q.1 == i) with
  | none => rw [hf] at hi; cases hi
  | some q =>
    rw [hf] at hi
    have h1 := List.find?_some hf
    have e : q.1 = i := by simpa using h1
    cases hi
    obtain ⟨v, h2, h3⟩ := h q (List.mem_of_find?_eq_some hf)
    rw [e] at h2
    exact ⟨v, h2, h3⟩
theorem bx_ld_ok {t n i : Nat} (h : bx_ld t n i env pc l ast kn df = some outs) (hA : bx_at0 xs INV X vs env l ast kn df lv st w) : (t = 0 → bx_res xs INV X mods lm vs lv w outs (sx_ild pc n lv st w i)) ∧ (t = 1 → bx_res xs INV X mods lm vs lv w outs (sx_lld pc n lv st w i)) ∧ (t = 2 → bx_res xs INV X mods lm vs lv w outs (sx_ald pc n lv st w i)) := by
  unfold bx_ld at h
  split at h
  · rename_i a ha
    obtain ⟨v, hv, hg⟩ := bx_gl_get hA.2.1 ha
    split at h
    · rename_i hc
      refine ⟨fun ht => ?_, fun ht => ?_, fun ht => ?_⟩
      · subst ht
        obtain ⟨x, rfl⟩ := (bx_tag hg).1 (by omega)
        unfold sx_ild
        rw [hv]
        exact bx_st1 h hA ⟨hg, hA.2.2.1⟩
      · subst ht
        obtain ⟨x, rfl, -, -⟩ := (bx_tag hg).2.1 (by omega)
        unfold sx_lld
        rw [hv]
        exact bx_st1 h hA ⟨hg, hA.2.2.1⟩
      · subst ht
        unfold sx_ald
        rw [hv]
        rcases (show a.1 = 2 ∨ a.1 = 3 by omega) with h2 | h2
        · have e := (bx_tag hg).2.2.1 h2
          subst e
          exact bx_st1 h hA ⟨hg, hA.2.2.1⟩
        · have e := (bx_tag hg).2.2.2 h2
          subst e
          exact bx_st1 h hA ⟨hg, hA.2.2.1⟩
    · cases h
  · cases h
/-! locals -/
theorem bx_gl_set {i : Nat} {a : ax_V} {v : Value} (h : bx_gl vs l lv) (hv : bx_g vs a v) : bx_gl vs (ax_set l i a) (sx_set lv i v) := by
  intro q hq
  rcases List.mem_cons.mp hq with rfl | hq
  · exact ⟨v, sx_get_self _ _ _, hv⟩
  · obtain ⟨hm, hf⟩ := List.mem_filter.mp hq
    obtain ⟨u, h1, h2⟩ := h q hm
    simp only [Bool.and_eq_true, Bool.not_eq_true', beq_eq_false_iff_ne, ne_eq] at hf
    refine ⟨u, sx_get_keep hf.1 h1 ?_, h2⟩
    have hc := bx_cat h2
    have hf2 := hf.2
    rw [ax_cat_iff, ← hc] at hf2
    simp only [hf2, Bool.not_false, Bool.and_true, Bool.not_eq_true', beq_eq_false_iff_ne, ne_eq]
    exact hf.1
theorem bx_gl_set2 {i : Nat} {a : ax_V} {v : Value} (h : bx_gl vs l lv) (hv : bx_g vs a v) : bx_gl vs (ax_set2 l i a) (sx_set2 lv i v) := by
  intro q hq
  rcases List.mem_cons.mp hq with rfl | hq
  · exact ⟨v, sx_get_self _ _ _, hv⟩
  · obtain ⟨hm, hf⟩ := List.mem_filter.mp hq
    obtain ⟨u, h1, h2⟩ := h q hm
    simp only [Bool.and_eq_true, Bool.not_eq_true', beq_eq_false_iff_ne, ne_eq] at hf
    refine ⟨u, sx_get_keep hf.1 h1 ?_, h2⟩
    have hc := bx_cat h2
    have hf2 := hf.2.2
    rw [ax_cat_iff, ← hc] at hf2
    simp only [hf2, Bool.not_false, Bool.and_true, Bool.and_eq_true, Bool.not_eq_true', beq_eq_false_iff_ne, ne_eq]
    exact ⟨hf.1, hf.2.1⟩
theorem bx_fl_set {i : Nat} {v : Value} (hi : i ∈ lm) : bx_fl lm lv (sx_set lv i v) := by
  intro j u hj hc hu
  have hji : ¬ j = i := fun e => hj (e ▸ hi)
  refine sx_get_keep hji hu ?_
  have h2 : ¬ (j + 1 = i ∧ u.category = 2) := fun e => by
    rcases hc with hc | hc
    · rw [hc] at e; exact absurd e.2 (by decide)
    · exact hc (e.1 ▸ hi)
  simp only [Bool.and_eq_true, Bool.not_eq_true', beq_eq_false_iff_ne, ne_eq, Bool.and_eq_false_iff]
  refine ⟨hji, ?_⟩
  by_cases h3 : j + 1 = i
  · exact .inr (fun e => h2 ⟨h3, e⟩)
  · exact .inl h3
theorem bx_fl_set2 {i : Nat} {v : Value} (hi : i ∈ lm) (hi2 : i + 1 ∈ lm) : bx_fl lm lv (sx_set2 lv i v) := by
  intro j u hj hc hu
  have hji : ¬ j = i := fun e => hj (e ▸ hi)
  have hji2 : ¬ j = i + 1 := fun e => hj (e ▸ hi2)
  refine sx_get_keep hji hu ?_
  have h2 : ¬ (j + 1 = i ∧ u.category = 2) := fun e => by
    rcases hc with hc | hc
    · rw [hc] at e; exact absurd e.2 (by decide)
    · exact hc (e.1 ▸ hi)
  simp only [Bool.and_eq_true, Bool.not_eq_true', beq_eq_false_iff_ne, ne_eq, Bool.and_eq_false_iff]
  refine ⟨hji, hji2, ?_⟩
  by_cases h3 : j + 1 = i
  · exact .inr (fun e => h2 ⟨h3, e⟩)
  · exact .inl h3
def bx_sto (t n nL i : Nat) (lm : List Nat) (env : ax_N) (pc : Nat) (l : ax_L) (st : List ax_V) (kn : bx_Kn) (df : bx_Df) : Option (List bx_S) := match st with
  | a :: r => if t = 1 then (if a.1 = 1 ∧ i + 1 < nL ∧ lm.contains i = true ∧ lm.contains (i + 1) = true then bx_1 env (pc + n) (ax_set2 l i a) r kn df else none)
    else if i < nL ∧ lm.contains i = true ∧ ((t = 0 ∧ (a.1 = 0 ∨ a.1 = 4)) ∨ (t = 2 ∧ a.1 = 2)) then bx_1 (bx_fr env a).1 (pc + n) (ax_set l i (bx_fr env a).2) r kn df else none
  | _ => none
theorem bx_sto_ok {t n nL i : Nat} (h : bx_sto t n nL i lm env pc l ast kn df = some outs) (hA : bx_at0 xs INV X vs env l ast kn df lv st w) : (t = 0 → bx_res xs INV X mods lm vs lv w outs (sx_ist pc n nL lv st w i)) ∧ (t = 1 → bx_res xs INV X mods lm vs lv w outs (sx_lst pc n nL lv st w i)) ∧ (t = 2 → bx_res xs INV X mods lm vs lv w outs (sx_ast pc n nL lv st w i)) := by
  unfold bx_sto at h
  split at h
  · rename_i a r
    obtain ⟨v, r', rfl, hg, hr⟩ := bx_gs1 hA.2.2.1
    obtain ⟨he, hl, hs, hw, hk, hd⟩ := hA
    have mem : ∀ k, lm.contains k = true → k ∈ lm := fun k h => by simpa using h
    split at h
    · rename_i ht
      split at h
      · rename_i hc
        refine ⟨fun e => by omega, fun _ => ?_, fun e => by omega⟩
        obtain ⟨x, rfl, -, -⟩ := (bx_tag hg).2.1 hc.1
        cases h
        unfold sx_lst
        dsimp only
        rw [if_pos hc.2.1]
        exact ⟨_, _, _, _, rfl, _, List.mem_singleton.mpr rfl, rfl, vs, bx_ext.rf, ⟨he, bx_gl_set2 hl hg, hr, hw, hk, hd⟩, bx_fl_set2 (mem _ hc.2.2.1) (mem _ hc.2.2.2), bx_fw.rf⟩
      · cases h
    · rename_i ht
      split at h
      · rename_i hc
        obtain ⟨vs', x1, x2, x3⟩ := bx_fr_ext he hg
        cases h
        refine ⟨fun e => ?_, fun e => absurd e ht, fun e => ?_⟩
        · obtain ⟨x, rfl⟩ := (bx_tag hg).1 (by omega)
          unfold sx_ist
          dsimp only
          rw [if_pos hc.1]
          exact ⟨_, _, _, _, rfl, _, List.mem_singleton.mpr rfl, rfl, vs', x1, ⟨x2, bx_gl_set (x1.gl hl) x3, x1.gs hr, hw, x1.kn hk, x1.df hd⟩, bx_fl_set (mem _ hc.2.1), bx_fw.rf⟩
        · have e2 := (bx_tag hg).2.2.1 (by omega)
          subst e2
          unfold sx_ast
          dsimp only
          rw [if_pos hc.1]
          exact ⟨_, _, _, _, rfl, _, List.mem_singleton.mpr rfl, rfl, vs', x1, ⟨x2, bx_gl_set (x1.gl hl) x3, x1.gs hr, hw, x1.kn hk, x1.df hd⟩, bx_fl_set (mem _ hc.2.1), bx_fw.rf⟩
      · cases h
  · cases h
def bx_inc (nL i : Nat) (n : Int) (lm : List Nat) (env : ax_N) (pc : Nat) (l : ax_L) (st : List ax_V) (kn : bx_Kn) (df : bx_Df) : Option (List bx_S) := match ax_get l i with
  | some x => (match bx_iadd env x (0, (Int32.ofInt n).toInt, (Int32.ofInt n).toInt) with
    | some y => if i < nL ∧ lm.contains i = true then bx_1 (bx_fr env y).1 (pc + 3) (ax_set l i (bx_fr env y).2) st kn df else none
    | none => none)
  | none => none
theorem bx_inc_ok {nL i : Nat} {n : Int} (h : bx_inc nL i n lm env pc l ast kn df = some outs) (hA : bx_at0 xs INV X vs env l ast kn df lv st w) : bx_res xs INV X mods lm vs lv w outs (sx_iinc pc nL lv st w i n) := by
  unfold bx_inc at h
  split at h
  · rename_i a ha
    split at h
    · rename_i y hy
      split at h
      · rename_i hc
        cases h
        obtain ⟨v, hv, hg⟩ := bx_gl_get hA.2.1 ha
        obtain ⟨he, hl, hs, hw, hk, hd⟩ := hA
        obtain ⟨x, x2, z, rfl, e2, e3, hz⟩ := bx_iadd_okI env vs a _ y v (.int (Int32.ofInt n)) he hg (bx_g0 (Int.le_refl _) (Int.le_refl _)) hy
        cases e2; cases e3
        obtain ⟨vs', x1, x2, x3⟩ := bx_fr_ext he hz
        unfold sx_iinc
        rw [hv]
        dsimp only
        rw [if_pos hc.1]
        exact ⟨_, _, _, _, rfl, _, List.mem_singleton.mpr rfl, rfl, vs', x1, ⟨x2, bx_gl_set (x1.gl hl) x3, x1.gs hs, hw, x1.kn hk, x1.df hd⟩, bx_fl_set (by simpa using hc.2), bx_fw.rf⟩
      · cases h
    · cases h
  · cases h
end BXS
