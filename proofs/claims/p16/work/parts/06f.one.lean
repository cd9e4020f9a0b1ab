/-! a step of the reader holds the machine's step -/
def ax_ok (xs : List Int32) (S : ax_S) (lv : sx_L) (st : List Value) (w : sx_W) : Prop := ax_env xs S.1 ∧ ax_gl xs S.2.2.1 lv ∧ ax_gs xs S.2.2.2.1 st ∧ ax_gw xs S.2.2.2.2.1 w
def ax_res (xs : List Int32) (c s : Nat) (outs : List ax_S) (o : Option sx_R) : Prop := ∃ r, o = some r ∧ ∃ S' ∈ outs, S'.2.1 = r.1 ∧ ax_ok xs S' r.2.1 r.2.2.1 r.2.2.2.1 ∧ S'.2.2.2.2.2.1 = c + r.2.2.2.2.1 ∧ S'.2.2.2.2.2.2 = s + r.2.2.2.2.2
theorem ax_res1 {xs : List Int32} {env : ax_N} {pc : Nat} {l : ax_L} {ast : List ax_V} {aw : ax_W} {c s : Nat} {outs : List ax_S} {lv : sx_L} {st : List Value} {w : sx_W} (h : ax_1 env pc l ast aw c s = some outs) (he : ax_env xs env) (hl : ax_gl xs l lv) (hs : ax_gs xs ast st) (hw : ax_gw xs aw w) : ax_res xs c s outs (some (pc, lv, st, w, 0, 0)) := by
  cases h
  exact ⟨_, rfl, _, List.mem_singleton.mpr rfl, rfl, ⟨he, hl, hs, hw⟩, rfl, rfl⟩
theorem sx_find_filter {α : Type} {p q : α → Bool} {x : α} : ∀ {l : List α}, l.find? q = some x → p x = true → (l.filter p).find? q = some x
  | [], h, _ => by cases h
  | a :: l, h, hp => by
    rw [List.find?_cons] at h
    by_cases hq : q a = true
    · rw [hq] at h
      cases h
      rw [List.filter_cons, if_pos hp, List.find?_cons, hq]
    · have hq' : q a = false := by simpa using hq
      rw [hq'] at h
      rw [List.filter_cons]
      by_cases hpa : p a = true
      · rw [if_pos hpa, List.find?_cons, hq']
        exact sx_find_filter h hp
      · rw [if_neg hpa]
        exact sx_find_filter h hp
theorem sx_get_keep {p : Nat × Value → Bool} {lv : sx_L} {i j : Nat} {v u : Value} (hji : ¬ j = i) (h : sx_get lv j = some u) (hp : p (j, u) = true) : sx_get ((i, v) :: lv.filter p) j = some u := by
  unfold sx_get at h ⊢
  cases hf : lv.find? (fun q => q.1 == j) with
  | none => rw [hf] at h; cases h
  | some q =>
    rw [hf] at h
    obtain ⟨j', u'⟩ := q
    have e1 : j' = j := by simpa using List.find?_some hf
    have e2 : u' = u := by simpa using h
    subst e1; subst e2
    rw [List.find?_cons]
    have hb : ((i, v).1 == j') = false := by simp; exact fun e => hji e.symm
    rw [hb, sx_find_filter hf hp]
    rfl
theorem sx_get_self (l : sx_L) (i : Nat) (v : Value) : sx_get ((i, v) :: l) i = some v := by
  unfold sx_get
  rw [List.find?_cons]
  simp
theorem ax_cat_iff {a : ax_V} : (a.1 == 1) = (ax_cat a == 2) := by
  unfold ax_cat
  by_cases h : a.1 = 1 <;> simp [h]
theorem ax_gl_set {xs : List Int32} {l : ax_L} {lv : sx_L} {i : Nat} {a : ax_V} {v : Value} (h : ax_gl xs l lv) (hv : ax_g xs a v) : ax_gl xs (ax_set l i a) (sx_set lv i v) := by
  intro q hq
  rcases List.mem_cons.mp hq with rfl | hq
  · exact ⟨v, sx_get_self _ _ _, hv⟩
  · obtain ⟨h1, h2⟩ := List.mem_filter.mp hq
    obtain ⟨u, g1, g2⟩ := h q h1
    rw [Bool.and_eq_true] at h2
    refine ⟨u, sx_get_keep (by simpa using h2.1) g1 ?_, g2⟩
    rw [Bool.and_eq_true]
    refine ⟨h2.1, ?_⟩
    have h3 := h2.2
    rw [ax_cat_iff, ← ax_g_cat g2] at h3
    exact h3
theorem ax_gl_set2 {xs : List Int32} {l : ax_L} {lv : sx_L} {i : Nat} {a : ax_V} {v : Value} (h : ax_gl xs l lv) (hv : ax_g xs a v) : ax_gl xs (ax_set2 l i a) (sx_set2 lv i v) := by
  intro q hq
  rcases List.mem_cons.mp hq with rfl | hq
  · exact ⟨v, sx_get_self _ _ _, hv⟩
  · obtain ⟨h1, h2⟩ := List.mem_filter.mp hq
    obtain ⟨u, g1, g2⟩ := h q h1
    rw [Bool.and_eq_true, Bool.and_eq_true] at h2
    refine ⟨u, sx_get_keep (by simpa using h2.1) g1 ?_, g2⟩
    rw [Bool.and_eq_true, Bool.and_eq_true]
    refine ⟨h2.1, h2.2.1, ?_⟩
    have h3 := h2.2.2
    rw [ax_cat_iff, ← ax_g_cat g2] at h3
    exact h3
theorem ax_gl_get {xs : List Int32} {l : ax_L} {lv : sx_L} {i : Nat} {a : ax_V} (h : ax_gl xs l lv) (hi : ax_get l i = some a) : ∃ v, sx_get lv i = some v ∧ ax_g xs a v := by
  unfold ax_get at hi
  cases hf : l.find? (fun q => q.1 == i) with
  | none => rw [hf] at hi; cases hi
  | some q =>
    rw [hf] at hi
    obtain ⟨j, b⟩ := q
    have e1 : j = i := by simpa using List.find?_some hf
    have e2 : b = a := by simpa using hi
    subst e1; subst e2
    exact h _ (List.mem_of_find?_eq_some hf)
section AXS
variable {xs : List Int32} {P : sx_P} {env : ax_N} {pc : Nat} {l : ax_L} {ast : List ax_V} {aw : ax_W} {c s : Nat} {outs : List ax_S} {lv : sx_L} {st : List Value} {w : sx_W}
theorem ax_gs2 {a b : ax_V} {r : List ax_V} (h : ax_gs xs (b :: a :: r) st) : ∃ (u v : Value) (r' : List Value), st = u :: v :: r' ∧ ax_g xs b u ∧ ax_g xs a v ∧ ax_gs xs r r' := by
  match st, h with
  | [], h => exact h.elim
  | [_], h => exact h.2.elim
  | u :: v :: r', h => exact ⟨u, v, r', rfl, h.1, h.2.1, h.2.2⟩
theorem ax_gs1 {a : ax_V} {r : List ax_V} (h : ax_gs xs (a :: r) st) : ∃ (v : Value) (r' : List Value), st = v :: r' ∧ ax_g xs a v ∧ ax_gs xs r r' := by
  match st, h with
  | [], h => exact h.elim
  | v :: r', h => exact ⟨v, r', rfl, h.1, h.2⟩
theorem ax_b2_ok {g : ax_N → ax_V → ax_V → Option ax_V} {f : Int32 → Int32 → Option Int32} (hg : ax_okI xs g f) (h : ax_b2 g env pc l ast aw c s = some outs) (he : ax_env xs env) (hl : ax_gl xs l lv) (hs : ax_gs xs ast st) (hw : ax_gw xs aw w) : ax_res xs c s outs (sx_b2 pc lv st w f) := by
  unfold ax_b2 at h
  split at h
  · rename_i b a r
    split at h
    · rename_i x hx
      obtain ⟨u, v, r', rfl, hb, ha, hr⟩ := ax_gs2 hs
      obtain ⟨x1, y1, z1, rfl, rfl, hz, hgz⟩ := hg env a b x v u he ha hb hx
      unfold sx_b2
      dsimp only
      rw [hz]
      exact ax_res1 h he hl ⟨hgz, hr⟩ hw
    · cases h
  · cases h
theorem ax_l2_ok {f : Int64 → Int64 → Int64} (h : ax_b2 (fun _ => ax_lex f) env pc l ast aw c s = some outs) (he : ax_env xs env) (hl : ax_gl xs l lv) (hs : ax_gs xs ast st) (hw : ax_gw xs aw w) : ax_res xs c s outs (sx_l2 pc lv st w f) := by
  unfold ax_b2 at h
  split at h
  · rename_i b a r
    split at h
    · rename_i x hx
      obtain ⟨u, v, r', rfl, hb, ha, hr⟩ := ax_gs2 hs
      obtain ⟨x1, y1, rfl, rfl, hgz⟩ := ax_lex_ok ha hb hx
      exact ax_res1 h he hl ⟨hgz, hr⟩ hw
    · cases h
  · cases h
theorem ax_ls_ok {f : Int64 → Int32 → Int64} (hf : ∀ y, f 0 y = 0) (h : ax_b2 (ax_lsh f) env pc l ast aw c s = some outs) (he : ax_env xs env) (hl : ax_gl xs l lv) (hs : ax_gs xs ast st) (hw : ax_gw xs aw w) : ax_res xs c s outs (sx_ls pc lv st w f) := by
  unfold ax_b2 at h
  split at h
  · rename_i b a r
    split at h
    · rename_i x hx
      obtain ⟨u, v, r', rfl, hb, ha, hr⟩ := ax_gs2 hs
      obtain ⟨x1, y1, rfl, rfl, hgz⟩ := ax_lsh_ok hf he ha hb hx
      exact ax_res1 h he hl ⟨hgz, hr⟩ hw
    · cases h
  · cases h
theorem ax_tag {a : ax_V} {v : Value} (h : ax_g xs a v) : (a.1 = 0 → ∃ x : Int32, v = .int x) ∧ (a.1 = 4 → ∃ x : Int32, v = .int x) ∧ (a.1 = 1 → ∃ x : Int64, v = .long x) ∧ (a.1 = 2 → v = .ref a.2.1.toNat) ∧ (a.1 = 3 → v = .retAddr 0) := by
  obtain ⟨t, lo, hh⟩ := a
  refine ⟨fun e => ?_, fun e => ?_, fun e => ?_, fun e => ?_, fun e => ?_⟩ <;> (dsimp only at e; subst e)
  · obtain ⟨x, hx, -⟩ := h; exact ⟨x, hx⟩
  · exact ⟨_, h⟩
  · obtain ⟨x, hx, -⟩ := h; exact ⟨x, hx⟩
  · exact h
  · exact h
theorem ax_ld_ok {t n i : Nat} (h : ax_ld t n i env pc l ast aw c s = some outs) (he : ax_env xs env) (hl : ax_gl xs l lv) (hs : ax_gs xs ast st) (hw : ax_gw xs aw w) : (t = 0 → ax_res xs c s outs (sx_ild pc n lv st w i)) ∧ (t = 1 → ax_res xs c s outs (sx_lld pc n lv st w i)) ∧ (t = 2 → ax_res xs c s outs (sx_ald pc n lv st w i)) := by
  unfold ax_ld at h
  split at h
  · rename_i a ha
    obtain ⟨v, h1, h2⟩ := ax_gl_get hl ha
    have ht := ax_tag h2
    by_cases hc : (t = 0 ∧ (a.1 = 0 ∨ a.1 = 4)) ∨ (t = 1 ∧ a.1 = 1) ∨ (t = 2 ∧ (a.1 = 2 ∨ a.1 = 3))
    · rw [if_pos hc] at h
      refine ⟨fun e => ?_, fun e => ?_, fun e => ?_⟩ <;> subst e
      · have : ∃ x : Int32, v = .int x := by
          rcases hc with ⟨-, h | h⟩ | ⟨h, -⟩ | ⟨h, -⟩
          · exact ht.1 h
          · exact ht.2.1 h
          · cases h
          · cases h
        obtain ⟨x, rfl⟩ := this
        unfold sx_ild
        rw [h1]
        exact ax_res1 h he hl ⟨h2, hs⟩ hw
      · have : ∃ x : Int64, v = .long x := by
          rcases hc with ⟨h, -⟩ | ⟨-, h⟩ | ⟨h, -⟩
          · cases h
          · exact ht.2.2.1 h
          · cases h
        obtain ⟨x, rfl⟩ := this
        unfold sx_lld
        rw [h1]
        exact ax_res1 h he hl ⟨h2, hs⟩ hw
      · rcases hc with ⟨h, -⟩ | ⟨h, -⟩ | ⟨-, hh | hh⟩
        · cases h
        · cases h
        · have := ht.2.2.2.1 hh
          subst this
          unfold sx_ald
          rw [h1]
          exact ax_res1 h he hl ⟨h2, hs⟩ hw
        · have := ht.2.2.2.2 hh
          subst this
          unfold sx_ald
          rw [h1]
          exact ax_res1 h he hl ⟨h2, hs⟩ hw
    · rw [if_neg hc] at h; cases h
  · cases h
theorem ax_sto_ok {t n nL i : Nat} (h : ax_sto t n nL i env pc l ast aw c s = some outs) (he : ax_env xs env) (hl : ax_gl xs l lv) (hs : ax_gs xs ast st) (hw : ax_gw xs aw w) : (t = 0 → ax_res xs c s outs (sx_ist pc n nL lv st w i)) ∧ (t = 1 → ax_res xs c s outs (sx_lst pc n nL lv st w i)) ∧ (t = 2 → ax_res xs c s outs (sx_ast pc n nL lv st w i)) := by
  unfold ax_sto at h
  split at h
  · rename_i a r
    obtain ⟨v, r', rfl, h2, hr⟩ := ax_gs1 hs
    have ht := ax_tag h2
    by_cases h1 : t = 1
    · rw [if_pos h1] at h
      refine ⟨fun e => by omega, fun _ => ?_, fun e => by omega⟩
      by_cases hc : a.1 = 1 ∧ i + 1 < nL
      · rw [if_pos hc] at h
        obtain ⟨x, rfl⟩ := ht.2.2.1 hc.1
        unfold sx_lst
        dsimp only
        rw [if_pos hc.2]
        exact ax_res1 h he (ax_gl_set2 hl h2) hr hw
      · rw [if_neg hc] at h; cases h
    · rw [if_neg h1] at h
      by_cases hc : i < nL ∧ ((t = 0 ∧ (a.1 = 0 ∨ a.1 = 4)) ∨ (t = 2 ∧ a.1 = 2))
      · rw [if_pos hc] at h
        refine ⟨fun e => ?_, fun e => absurd e h1, fun e => ?_⟩ <;> subst e
        · have : ∃ x : Int32, v = .int x := by
            rcases hc.2 with ⟨-, h | h⟩ | ⟨h, -⟩
            · exact ht.1 h
            · exact ht.2.1 h
            · cases h
          obtain ⟨x, rfl⟩ := this
          unfold sx_ist
          dsimp only
          rw [if_pos hc.1]
          exact ax_res1 h he (ax_gl_set hl h2) hr hw
        · have : v = .ref a.2.1.toNat := by
            rcases hc.2 with ⟨h, -⟩ | ⟨-, h⟩
            · cases h
            · exact ht.2.2.2.1 h
          subst this
          unfold sx_ast
          dsimp only
          rw [if_pos hc.1]
          exact ax_res1 h he (ax_gl_set hl h2) hr hw
      · rw [if_neg hc] at h; cases h
  · cases h
theorem ax_br_ok {k : ClassFile.Cond} {off : Int} {a b : ax_V} {x y : Int32} (h : ax_br k off a b env pc l ast aw c s = some outs) (he : ax_env xs env) (ha : ax_g xs a (.int x)) (hb : ax_g xs b (.int y)) (hl : ax_gl xs l lv) (hs : ax_gs xs ast st) (hw : ax_gw xs aw w) : ax_res xs c s outs (sx_jmp pc off lv st w (sx_cond k x y)) := by
  unfold ax_br at h
  split at h
  · rename_i p q hp hq
    by_cases hc : 0 ≤ (pc : Int) + off ∧ ¬ (a.1 = 4 ∧ b.1 = 4)
    · rw [if_pos hc] at h
      cases h
      obtain ⟨x', e1, g1, g2⟩ := ax_iv_ok he ha hp
      obtain ⟨y', e2, g3, g4⟩ := ax_iv_ok he hb hq
      cases e1; cases e2
      have hcut := ax_cut_ok k (x := x) (y := y) (p := p) (q := q) ⟨g1, g2⟩ ⟨g3, g4⟩
      unfold sx_jmp
      rw [if_pos hc.1]
      have key : ∀ (t : Bool) (tg : Nat), sx_cond k x y = t → ∃ S' ∈ ax_way k t env a b p q tg l ast aw c s, S'.2.1 = tg ∧ ax_ok xs S' lv st w ∧ S'.2.2.2.2.2.1 = c ∧ S'.2.2.2.2.2.2 = s := by
        intro t tg ht
        rw [ht] at hcut
        unfold ax_way
        have hne : ax_emp (ax_cut k t p q) = false := by
          unfold ax_emp
          obtain ⟨⟨q1, q2⟩, q3, q4⟩ := hcut
          simp only [Bool.or_eq_false_iff, decide_eq_false_iff_not]
          constructor <;> omega
        rw [hne]
        refine ⟨_, List.mem_singleton.mpr rfl, rfl, ⟨?_, hl, hs, hw⟩, rfl, rfl⟩
        have he1 := ax_upd_ok (p := (ax_cut k t p q).1) he ha hcut.1.1 hcut.1.2
        exact ax_upd_ok he1 hb hcut.2.1 hcut.2.2
      refine ⟨_, rfl, ?_⟩
      cases ht : sx_cond k x y with
      | true =>
        obtain ⟨S', hm, h1, h2, h3, h4⟩ := key true ((pc : Int) + off).toNat ht
        exact ⟨S', List.mem_append_left _ hm, h1, h2, h3, h4⟩
      | false =>
        obtain ⟨S', hm, h1, h2, h3, h4⟩ := key false (pc + 3) ht
        exact ⟨S', List.mem_append_right _ hm, h1, h2, h3, h4⟩
    · rw [if_neg hc] at h; cases h
  · cases h
theorem ax_g0 {x : Int32} : ax_g xs (0, x.toInt, x.toInt) (.int x) := ⟨x, rfl, Int.le_refl _, Int.le_refl _⟩
theorem ax_gL {x : Int64} : ax_g xs (1, x.toInt, x.toInt) (.long x) := ⟨x, rfl, Int.le_refl _, Int.le_refl _⟩
theorem ax_isI {a : ax_V} {v : Value} (he : ax_env xs env) (ha : ax_g xs a v) (h : (ax_iv env a).isSome = true) : ∃ x : Int32, v = .int x := by
  cases hi : ax_iv env a with
  | none => rw [hi] at h; cases h
  | some p => obtain ⟨x, e, -⟩ := ax_iv_ok he ha hi; exact ⟨x, e⟩
theorem ax_tsw1_ok {pc : Nat} {off : Int} {y : ax_S} {env : ax_N} (h : ax_tsw1 pc off env l ast aw c s = some y) (he : ax_env xs env) (hl : ax_gl xs l lv) (hs : ax_gs xs ast st) (hw : ax_gw xs aw w) : ∃ r, sx_jmp pc off lv st w true = some r ∧ y.2.1 = r.1 ∧ ax_ok xs y r.2.1 r.2.2.1 r.2.2.2.1 ∧ y.2.2.2.2.2.1 = c + r.2.2.2.2.1 ∧ y.2.2.2.2.2.2 = s + r.2.2.2.2.2 := by
  unfold ax_tsw1 at h
  unfold sx_jmp
  by_cases h0 : 0 ≤ (pc : Int) + off
  · rw [if_pos h0] at h ⊢
    cases h
    exact ⟨_, rfl, rfl, ⟨he, hl, hs, hw⟩, rfl, rfl⟩
  · rw [if_neg h0] at h; cases h
theorem ax_tswG_ok {p : Int × Int} {a : ax_V} {x : Int32} (he : ax_env xs env) (ha : ax_g xs a (.int x)) (hl : ax_gl xs l lv) (hs : ax_gs xs ast st) (hw : ax_gw xs aw w) (h1 : p.1 ≤ x.toInt) (h2 : x.toInt ≤ p.2) : ∀ (offs : List Int) (lo : Int) (ys : List ax_S), ax_tswG p lo offs a env pc l ast aw c s = some ys → ∀ off, lo ≤ x.toInt → offs[(x.toInt - lo).toNat]? = some off → ax_res xs c s ys (sx_jmp pc off lv st w true)
  | [], lo, ys, h, off, h3, h4 => by simp at h4
  | o :: r, lo, ys, h, off, h3, h4 => by
    unfold ax_tswG at h
    split at h
    · rename_i ys' hys
      by_cases hx : x.toInt = lo
      · have e : (x.toInt - lo).toNat = 0 := by omega
        rw [e] at h4
        cases h4
        rw [if_pos ⟨by omega, by omega⟩] at h
        split at h
        · rename_i y hy
          cases h
          obtain ⟨rr, e1, e2, e3, e4, e5⟩ := ax_tsw1_ok hy (ax_upd_ok (p := (lo, lo)) he ha (by show lo ≤ _; omega) (by show _ ≤ lo; omega)) hl hs hw
          exact ⟨rr, e1, y, List.mem_cons_self, e2, e3, e4, e5⟩
        · cases h
      · have e : (x.toInt - lo).toNat = (x.toInt - (lo + 1)).toNat + 1 := by omega
        rw [e, List.getElem?_cons_succ] at h4
        obtain ⟨rr, e1, y, hy, e2⟩ := ax_tswG_ok he ha hl hs hw h1 h2 r (lo + 1) ys' hys off (by omega) h4
        refine ⟨rr, e1, y, ?_, e2⟩
        split at h
        · split at h
          · cases h; exact List.mem_cons_of_mem _ hy
          · cases h
        · cases h; exact hy
    · cases h
theorem ax_tsw_ok {d lo hi : Int} {offs : Array Int} {a : ax_V} {x : Int32} (h : ax_tsw d lo hi offs a env pc l ast aw c s = some outs) (he : ax_env xs env) (ha : ax_g xs a (.int x)) (hl : ax_gl xs l lv) (hs : ax_gs xs ast st) (hw : ax_gw xs aw w) : ax_res xs c s outs (sx_tsw pc lv (.int x :: st) w d lo hi offs) := by
  unfold ax_tsw at h
  split at h
  · rename_i p hp
    obtain ⟨x', e1, g1, g2⟩ := ax_iv_ok he ha hp
    cases e1
    by_cases hn : lo + (offs.toList.length : Int) = hi + 1
    · rw [if_pos hn] at h
      split at h
      · rename_i ys hys
        split at h
        · rename_i y1 y2 hy1 hy2
          cases h
          unfold sx_tsw
          dsimp only
          by_cases ho : x.toInt < lo ∨ hi < x.toInt
          · rw [if_pos ho]
            rcases ho with ho | ho
            · obtain ⟨rr, e1, e2, e3, e4, e5⟩ := ax_tsw1_ok hy1 (ax_upd_ok (p := (p.1, min p.2 (lo - 1))) he ha g1 (by show _ ≤ min _ _; omega)) hl hs hw
              exact ⟨rr, e1, y1, List.mem_append_left _ (by rw [if_pos (by omega)]; exact List.mem_singleton.mpr rfl), e2, e3, e4, e5⟩
            · obtain ⟨rr, e1, e2, e3, e4, e5⟩ := ax_tsw1_ok hy2 (ax_upd_ok (p := (max p.1 (hi + 1), p.2)) he ha (by show max _ _ ≤ _; omega) g2) hl hs hw
              exact ⟨rr, e1, y2, List.mem_append_right _ (List.mem_append_left _ (by rw [if_pos (by omega)]; exact List.mem_singleton.mpr rfl)), e2, e3, e4, e5⟩
          · rw [if_neg ho]
            have hlt : (x.toInt - lo).toNat < offs.toList.length := by omega
            have hoff : offs[(x.toInt - lo).toNat]? = some (offs.toList[(x.toInt - lo).toNat]) := by
              rw [← Array.getElem?_toList]
              exact List.getElem?_eq_getElem hlt
            rw [hoff]
            obtain ⟨rr, e1, y, hy, e2⟩ := ax_tswG_ok he ha hl hs hw g1 g2 offs.toList lo ys hys _ (by omega) (List.getElem?_eq_getElem hlt)
            exact ⟨rr, e1, y, List.mem_append_right _ (List.mem_append_right _ hy), e2⟩
        · cases h
      · cases h
    · rw [if_neg hn] at h; cases h
  · cases h
theorem ax_lswG_ok {p : Int × Int} {a : ax_V} {x : Int32} {d : Int} (he : ax_env xs env) (ha : ax_g xs a (.int x)) (hl : ax_gl xs l lv) (hs : ax_gs xs ast st) (hw : ax_gw xs aw w) (h1 : p.1 ≤ x.toInt) (h2 : x.toInt ≤ p.2) : ∀ (ps : List (Int × Int)) (ys : List ax_S), ax_lswG p ps a env pc l ast aw c s = some ys → ((∃ q ∈ ps, q.1 = x.toInt) ∧ ax_res xs c s ys (sx_jmp pc (Op.lookupswitch.offset ps d x.toInt) lv st w true)) ∨ ((¬ ∃ q ∈ ps, q.1 = x.toInt) ∧ Op.lookupswitch.offset ps d x.toInt = d)
  | [], ys, h => Or.inr ⟨(fun ⟨q, hq, _⟩ => (List.not_mem_nil hq).elim), rfl⟩
  | (k, o) :: r, ys, h => by
    unfold ax_lswG at h
    split at h
    · rename_i ys' hys
      rw [Op.lookupswitch.offset_cons]
      by_cases hk : k = x.toInt
      · refine Or.inl ⟨⟨(k, o), List.mem_cons_self, hk⟩, ?_⟩
        rw [if_pos ⟨by omega, by omega⟩] at h
        rw [if_pos (by first | exact hk | exact hk.symm)]
        split at h
        · rename_i y hy
          cases h
          obtain ⟨rr, e1, e2, e3, e4, e5⟩ := ax_tsw1_ok hy (ax_upd_ok (p := (k, k)) he ha (by show k ≤ _; omega) (by show _ ≤ k; omega)) hl hs hw
          exact ⟨rr, e1, y, List.mem_cons_self, e2, e3, e4, e5⟩
        · cases h
      · rw [if_neg (by first | exact hk | exact fun e => hk e.symm)]
        rcases ax_lswG_ok (d := d) he ha hl hs hw h1 h2 r ys' hys with ⟨⟨q, hq, hqx⟩, rr, e1, y, hy, e2⟩ | ⟨hno, e⟩
        · refine Or.inl ⟨⟨q, List.mem_cons_of_mem _ hq, hqx⟩, rr, e1, y, ?_, e2⟩
          split at h
          · split at h
            · cases h; exact List.mem_cons_of_mem _ hy
            · cases h
          · cases h; exact hy
        · refine Or.inr ⟨fun ⟨q, hq, hqx⟩ => ?_, e⟩
          rcases List.mem_cons.mp hq with rfl | hq
          · exact hk hqx
          · exact hno ⟨q, hq, hqx⟩
    · cases h
theorem ax_lsw_ok {d : Int} {ps : Array (Int × Int)} {a : ax_V} {x : Int32} (h : ax_lsw d ps a env pc l ast aw c s = some outs) (he : ax_env xs env) (ha : ax_g xs a (.int x)) (hl : ax_gl xs l lv) (hs : ax_gs xs ast st) (hw : ax_gw xs aw w) : ax_res xs c s outs (sx_lsw pc lv (.int x :: st) w d ps) := by
  unfold ax_lsw at h
  split at h
  · rename_i p hp
    obtain ⟨x', e1, g1, g2⟩ := ax_iv_ok he ha hp
    cases e1
    split at h
    · rename_i hsort
      split at h
      · rename_i ys y hys hy
        cases h
        unfold sx_lsw
        dsimp only
        rw [if_pos hsort]
        rcases ax_lswG_ok (d := d) he ha hl hs hw g1 g2 ps.toList ys hys with ⟨-, rr, e1, y1, hy1, e2⟩ | ⟨hno, e⟩
        · refine ⟨rr, e1, y1, ?_, e2⟩
          split
          · exact hy1
          · exact List.mem_cons_of_mem _ hy1
        · rw [e]
          obtain ⟨rr, e1, e2, e3, e4, e5⟩ := ax_tsw1_ok hy he hl hs hw
          refine ⟨rr, e1, y, ?_, e2, e3, e4, e5⟩
          rw [if_neg]
          · exact List.mem_cons_self
          · intro ⟨q1, q2⟩
            obtain ⟨z, hz, hzx⟩ := List.any_eq_true.mp q2
            exact hno ⟨z, hz, by have : z.1 = p.1 := by simpa using hzx
                                 omega⟩
      · cases h
    · cases h
  · cases h
end AXS
