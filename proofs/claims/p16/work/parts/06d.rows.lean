/-! rows by runs: what they say of rows -/
theorem ax_seg_len {xs : List Int32} : ∀ {r : ax_A} {vs : List Value}, ax_seg xs r vs → vs.length = ax_len r
  | [], vs, h => by rw [show vs = [] from h]; rfl
  | (n, a) :: r, vs, h => by
    obtain ⟨h1, -, h3⟩ := h
    have := ax_seg_len h3
    rw [List.length_drop] at this
    show _ = n + ax_len r
    omega
theorem ax_seg_nth {xs : List Int32} : ∀ {r : ax_A} {vs : List Value} {k : Nat} {a : ax_V}, ax_seg xs r vs → ax_nth r k = some a → ∃ v, vs[k]? = some v ∧ ax_g xs a v
  | [], vs, k, a, h, hk => by cases hk
  | (n, b) :: r, vs, k, a, h, hk => by
    obtain ⟨h1, h2, h3⟩ := h
    unfold ax_nth at hk
    by_cases hkn : k < n
    · rw [if_pos hkn] at hk
      cases hk
      have hl : k < vs.length := by omega
      refine ⟨vs[k], List.getElem?_eq_getElem hl, h2 _ ?_⟩
      rw [List.mem_iff_getElem?]
      exact ⟨k, by rw [List.getElem?_take_of_lt hkn]; exact List.getElem?_eq_getElem hl⟩
    · rw [if_neg hkn] at hk
      obtain ⟨v, e1, e2⟩ := ax_seg_nth h3 hk
      rw [List.getElem?_drop, show n + (k - n) = k by omega] at e1
      exact ⟨v, e1, e2⟩
theorem ax_seg_con {xs : List Int32} {n : Nat} {a : ax_V} {r : ax_A} {vs : List Value} (h1 : n ≤ vs.length) (h2 : ∀ v ∈ vs.take n, ax_g xs a v) (h3 : ax_seg xs r (vs.drop n)) : ax_seg xs (ax_con n a r) vs := by
  unfold ax_con
  by_cases hn : n = 0
  · rw [if_pos hn]
    subst hn
    simpa using h3
  · rw [if_neg hn]
    match r, h3 with
    | [], h3 => exact ⟨h1, h2, h3⟩
    | (m, b) :: r', h3 =>
      by_cases hab : a = b
      · subst hab
        simp only [if_true]
        obtain ⟨g1, g2, g3⟩ := h3
        rw [List.length_drop] at g1
        refine ⟨by omega, fun v hv => ?_, by rw [← List.drop_drop]; exact g3⟩
        rw [List.take_add] at hv
        rcases List.mem_append.mp hv with h | h
        · exact h2 v h
        · exact g2 v h
      · simp only [if_neg hab]
        exact ⟨h1, h2, h3⟩
theorem ax_seg_app {xs : List Int32} : ∀ {l r : ax_A} {us vs : List Value}, ax_seg xs l us → ax_seg xs r vs → ax_seg xs (ax_app l r) (us ++ vs)
  | [], r, us, vs, h1, h2 => by rw [show us = [] from h1]; exact h2
  | (n, a) :: l, r, us, vs, h1, h2 => by
    obtain ⟨g1, g2, g3⟩ := h1
    refine ax_seg_con (by rw [List.length_append]; omega) ?_ ?_
    · rw [List.take_append_of_le_length g1]; exact g2
    · rw [List.drop_append_of_le_length g1]; exact ax_seg_app g3 h2
theorem ax_seg_take {xs : List Int32} : ∀ {r : ax_A} {vs : List Value} (k : Nat), ax_seg xs r vs → ax_seg xs (ax_take r k) (vs.take k)
  | [], vs, k, h => by rw [show vs = [] from h, List.take_nil]; rfl
  | (n, a) :: r, vs, k, h => by
    obtain ⟨g1, g2, g3⟩ := h
    unfold ax_take
    by_cases hk : k ≤ n
    · rw [if_pos hk]
      have hl : (vs.take k).length = k := by rw [List.length_take]; omega
      refine ax_seg_con (by omega) (fun v hv => g2 v ?_) ?_
      · rw [List.take_take, Nat.min_self] at hv
        exact (List.take_sublist_take_left hk).subset hv
      · rw [List.drop_eq_nil_of_le (by omega)]; rfl
    · rw [if_neg hk]
      refine ⟨by rw [List.length_take]; omega, fun v hv => g2 v ?_, ?_⟩
      · rw [List.take_take, Nat.min_eq_left (by omega)] at hv
        exact hv
      · rw [List.drop_take]
        exact ax_seg_take (k - n) g3
theorem ax_seg_drop {xs : List Int32} : ∀ {r : ax_A} {vs : List Value} (k : Nat), ax_seg xs r vs → ax_seg xs (ax_drop r k) (vs.drop k)
  | [], vs, k, h => by rw [show vs = [] from h, List.drop_nil]; rfl
  | (n, a) :: r, vs, k, h => by
    obtain ⟨g1, g2, g3⟩ := h
    unfold ax_drop
    by_cases hk : k < n
    · rw [if_pos hk]
      refine ⟨by rw [List.length_drop]; omega, fun v hv => g2 v ?_, by rw [List.drop_drop, show k + (n - k) = n by omega]; exact g3⟩
      rw [List.take_drop] at hv
      rw [show k + (n - k) = n by omega] at hv
      exact List.mem_of_mem_drop hv
    · rw [if_neg hk]
      have := ax_seg_drop (k - n) g3
      rw [List.drop_drop, show n + (k - n) = k by omega] at this
      exact this
theorem ax_seg_put {xs : List Int32} {r : ax_A} {vs : List Value} {k : Nat} {a : ax_V} {v : Value} (h : ax_seg xs r vs) (hk : k < vs.length) (hv : ax_g xs a v) : ax_seg xs (ax_put r k a) (vs.set k v) := by
  rw [List.set_eq_take_append_cons_drop, if_pos hk]
  unfold ax_put
  refine ax_seg_app (ax_seg_take k h) (ax_seg_con (by simp) (fun u hu => ?_) (ax_seg_drop (k + 1) h))
  have : u = v := by simpa using hu
  rw [this]; exact hv
theorem ax_iv_ok {xs : List Int32} {env : ax_N} {a : ax_V} {v : Value} {p : Int × Int} (he : ax_env xs env) (hg : ax_g xs a v) (hi : ax_iv env a = some p) : ∃ x : Int32, v = .int x ∧ p.1 ≤ x.toInt ∧ x.toInt ≤ p.2 := by
  obtain ⟨t, lo, hh⟩ := a
  unfold ax_iv at hi
  unfold ax_g at hg
  dsimp only at hi hg
  match t, hi, hg with
  | 0, hi, hg => cases hi; exact hg
  | 4, hi, hg => exact ⟨_, hg, he _ _ hi⟩
  | 1, hi, _ => cases hi
  | 2, hi, _ => cases hi
  | 3, hi, _ => cases hi
  | 5, hi, _ => cases hi
  | n + 6, hi, _ => cases hi
theorem ax_join_ok {xs : List Int32} {env : ax_N} {a b c : ax_V} (he : ax_env xs env) (h : ax_join env a b = some c) (v : Value) : (ax_g xs a v → ax_g xs c v) ∧ (ax_g xs b v → ax_g xs c v) := by
  unfold ax_join at h
  by_cases hab : a = b
  · rw [if_pos hab] at h
    cases h
    subst hab
    exact ⟨id, id⟩
  · rw [if_neg hab] at h
    split at h
    · rename_i p q hp hq
      cases h
      refine ⟨fun g => ?_, fun g => ?_⟩
      · obtain ⟨x, rfl, h1, h2⟩ := ax_iv_ok he g hp
        exact ⟨x, rfl, by show min p.1 q.1 ≤ _; omega, by show _ ≤ max p.2 q.2; omega⟩
      · obtain ⟨x, rfl, h1, h2⟩ := ax_iv_ok he g hq
        exact ⟨x, rfl, by show min p.1 q.1 ≤ _; omega, by show _ ≤ max p.2 q.2; omega⟩
    · by_cases h1 : a.1 = 1 ∧ b.1 = 1
      · rw [if_pos h1] at h
        cases h
        obtain ⟨a1, a2, a3⟩ := a
        obtain ⟨b1, b2, b3⟩ := b
        obtain ⟨e1, e2⟩ := h1
        dsimp only at e1 e2
        subst e1; subst e2
        refine ⟨fun g => ?_, fun g => ?_⟩
        · obtain ⟨x, rfl, h1, h2⟩ := g
          exact ⟨x, rfl, by dsimp only at h1 ⊢; omega, by dsimp only at h2 ⊢; omega⟩
        · obtain ⟨x, rfl, h1, h2⟩ := g
          exact ⟨x, rfl, by dsimp only at h1 ⊢; omega, by dsimp only at h2 ⊢; omega⟩
      · rw [if_neg h1] at h; cases h
theorem ax_seg_jmap {xs : List Int32} {env : ax_N} {a : ax_V} (he : ax_env xs env) : ∀ {r r' : ax_A} {vs us : List Value}, ax_jmap env a r = some r' → ax_seg xs r vs → us.length = vs.length → (∀ (i : Nat) (u : Value), us[i]? = some u → vs[i]? = some u ∨ ax_g xs a u) → ax_seg xs r' us
  | [], r', vs, us, h, hs, hl, hu => by
    cases h
    have : vs = [] := hs
    rw [this] at hl
    exact List.length_eq_zero_iff.mp hl
  | (n, b) :: r, r', vs, us, h, hs, hl, hu => by
    obtain ⟨g1, g2, g3⟩ := hs
    unfold ax_jmap at h
    split at h
    · rename_i c r2 hc hr
      cases h
      refine ax_seg_con (by omega) (fun v hv => ?_) (ax_seg_jmap he hr g3 (by rw [List.length_drop, List.length_drop, hl]) (fun i u hi => ?_))
      · obtain ⟨i, hi⟩ := List.mem_iff_getElem?.mp hv
        have hin : i < n := by
          have := (List.getElem?_eq_some_iff.mp hi).1
          rw [List.length_take] at this
          omega
        rw [List.getElem?_take_of_lt hin] at hi
        rcases hu i v hi with h | h
        · exact (ax_join_ok he hc v).2 (g2 v (List.mem_iff_getElem?.mpr ⟨i, by rw [List.getElem?_take_of_lt hin]; exact h⟩))
        · exact (ax_join_ok he hc v).1 h
      · rw [List.getElem?_drop] at hi ⊢
        exact hu _ _ hi
    · cases h
theorem ax_seg_weak {xs : List Int32} {env : ax_N} {a : ax_V} {v : Value} {r r' : ax_A} {vs : List Value} {l h i : Nat} (he : ax_env xs env) (hw : ax_weak env r l h a = some r') (hs : ax_seg xs r vs) (hv : ax_g xs a v) (h1 : l ≤ i) (h2 : i ≤ h) (h3 : h < vs.length) : ax_seg xs r' (vs.set i v) := by
  unfold ax_weak at hw
  split at hw
  · rename_i m hm
    cases hw
    have e : vs.set i v = vs.take l ++ (((vs.set i v).drop l).take (h + 1 - l) ++ vs.drop (h + 1)) := by
      have e1 : vs.take l = (vs.set i v).take l := by rw [List.take_set_of_le h1]
      have e2 : vs.drop (h + 1) = (vs.set i v).drop (h + 1) := by rw [List.drop_set_of_lt (by omega)]
      rw [e1, e2]
      have e3 : (vs.set i v).drop (h + 1) = ((vs.set i v).drop l).drop (h + 1 - l) := by rw [List.drop_drop, show l + (h + 1 - l) = h + 1 by omega]
      rw [e3, List.take_append_drop, List.take_append_drop]
    rw [e]
    refine ax_seg_app (ax_seg_take l hs) (ax_seg_app (ax_seg_jmap he hm (ax_seg_take _ (ax_seg_drop l hs)) (by simp) (fun j u hj => ?_)) (ax_seg_drop (h + 1) hs))
    have hjl : j < h + 1 - l := by
      have := (List.getElem?_eq_some_iff.mp hj).1
      rw [List.length_take] at this
      omega
    rw [List.getElem?_take_of_lt hjl, List.getElem?_drop] at hj ⊢
    by_cases hij : i = l + j
    · subst hij
      rw [List.getElem?_set_self (by omega)] at hj
      cases hj
      exact Or.inr hv
    · rw [List.getElem?_set_ne hij] at hj
      exact Or.inl hj
  · cases hw
theorem ax_seg_jall {xs : List Int32} {env : ax_N} (he : ax_env xs env) : ∀ {r : ax_A} {vs : List Value} {a : ax_V}, ax_jall env r = some a → ax_seg xs r vs → ∀ v ∈ vs, ax_g xs a v
  | [], vs, a, h, hs, v, hv => by cases h
  | [(n, b)], vs, a, h, hs, v, hv => by
    cases h
    obtain ⟨g1, g2, g3⟩ := hs
    refine g2 v ?_
    have h0 : vs.drop n = [] := g3
    rw [List.take_of_length_le (by simpa using h0)]
    exact hv
  | (n, b) :: c :: r, vs, a, h, hs, v, hv => by
    obtain ⟨g1, g2, g3⟩ := hs
    unfold ax_jall at h
    split at h
    · rename_i d hd
      rw [← List.take_append_drop n vs] at hv
      rcases List.mem_append.mp hv with h1 | h1
      · exact (ax_join_ok he h v).1 (g2 v h1)
      · exact (ax_join_ok he h v).2 (ax_seg_jall he hd g3 v h1)
    · cases h
theorem ax_gw_len {xs : List Int32} : ∀ {aw : ax_W} {w : sx_W}, ax_gw xs aw w → w.length = aw.length
  | [], w, h => by rw [show w = [] from h]; rfl
  | (t, r) :: l, [], h => h.elim
  | (t, r) :: l, x :: w, h => by rw [List.length_cons, List.length_cons, ax_gw_len h.2.2]
theorem ax_gw_at {xs : List Int32} : ∀ {aw : ax_W} {w : sx_W} {k : Nat} {c : Nat × ax_A}, ax_gw xs aw w → aw[k]? = some c → ∃ x, w[k]? = some x ∧ x.1 = c.1 ∧ ax_seg xs c.2 x.2
  | [], w, k, c, h, hk => by simp at hk
  | (t, r) :: l, [], k, c, h, hk => h.elim
  | (t, r) :: l, x :: w, 0, c, h, hk => by cases hk; exact ⟨x, rfl, h.1, h.2.1⟩
  | (t, r) :: l, x :: w, k + 1, c, h, hk => ax_gw_at (aw := l) (w := w) (k := k) h.2.2 hk
theorem ax_gw_set {xs : List Int32} : ∀ {aw : ax_W} {w : sx_W} {k : Nat} {c : Nat × ax_A} {x : Nat × List Value}, ax_gw xs aw w → x.1 = c.1 → ax_seg xs c.2 x.2 → ax_gw xs (aw.set k c) (w.set k x)
  | [], w, k, c, x, h, h1, h2 => by rw [show w = [] from h]; rfl
  | (t, r) :: l, [], k, c, x, h, h1, h2 => h.elim
  | (t, r) :: l, y :: w, 0, c, x, h, h1, h2 => ⟨h1, h2, h.2.2⟩
  | (t, r) :: l, y :: w, k + 1, c, x, h, h1, h2 => ⟨h.1, h.2.1, ax_gw_set (k := k) h.2.2 h1 h2⟩
theorem ax_gw_push {xs : List Int32} {c : Nat × ax_A} {x : Nat × List Value} (h1 : x.1 = c.1) (h2 : ax_seg xs c.2 x.2) : ∀ {aw : ax_W} {w : sx_W}, ax_gw xs aw w → ax_gw xs (aw ++ [c]) (w ++ [x])
  | [], w, h => by rw [show w = [] from h]; exact ⟨h1, h2, rfl⟩
  | (t, r) :: l, [], h => h.elim
  | (t, r) :: l, y :: w, h => ⟨h.1, h.2.1, ax_gw_push h1 h2 h.2.2⟩
theorem ax_gs_len {xs : List Int32} : ∀ {l : List ax_V} {st : List Value}, ax_gs xs l st → st.length = l.length
  | [], st, h => by rw [show st = [] from h]; rfl
  | a :: l, [], h => h.elim
  | a :: l, v :: st, h => by rw [List.length_cons, List.length_cons, ax_gs_len h.2]
theorem ax_gs_drop {xs : List Int32} : ∀ {l : List ax_V} {st : List Value} (k : Nat), ax_gs xs l st → ax_gs xs (l.drop k) (st.drop k)
  | [], st, k, h => by rw [show st = [] from h, List.drop_nil, List.drop_nil]; rfl
  | a :: l, [], k, h => h.elim
  | a :: l, v :: st, 0, h => h
  | a :: l, v :: st, k + 1, h => ax_gs_drop k h.2
theorem ax_gs_take {xs : List Int32} : ∀ {l : List ax_V} {st : List Value} (k : Nat), ax_gs xs l st → ax_gs xs (l.take k) (st.take k)
  | [], st, k, h => by rw [show st = [] from h, List.take_nil, List.take_nil]; rfl
  | a :: l, [], k, h => h.elim
  | a :: l, v :: st, 0, h => rfl
  | a :: l, v :: st, k + 1, h => ⟨h.1, ax_gs_take k h.2⟩
theorem ax_gs_app {xs : List Int32} : ∀ {l l2 : List ax_V} {st st2 : List Value}, ax_gs xs l st → ax_gs xs l2 st2 → ax_gs xs (l ++ l2) (st ++ st2)
  | [], l2, st, st2, h, h2 => by rw [show st = [] from h]; exact h2
  | a :: l, l2, [], st2, h, h2 => h.elim
  | a :: l, l2, v :: st, st2, h, h2 => ⟨h.1, ax_gs_app h.2 h2⟩
theorem ax_gs_rev {xs : List Int32} : ∀ {l : List ax_V} {st : List Value}, ax_gs xs l st → ax_gs xs l.reverse st.reverse
  | [], st, h => by rw [show st = [] from h]; rfl
  | a :: l, [], h => h.elim
  | a :: l, v :: st, h => by
    rw [List.reverse_cons, List.reverse_cons]
    exact ax_gs_app (ax_gs_rev h.2) ⟨h.1, rfl⟩
theorem ax_g_cat {xs : List Int32} {a : ax_V} {v : Value} (h : ax_g xs a v) : v.category = ax_cat a := by
  obtain ⟨t, lo, hh⟩ := a
  unfold ax_g at h
  dsimp only at h
  match t, h with
  | 0, h => obtain ⟨x, rfl, -⟩ := h; rfl
  | 1, h => obtain ⟨x, rfl, -⟩ := h; rfl
  | 2, h => rw [h]; rfl
  | 3, h => rw [h]; rfl
  | 4, h => rw [h]; rfl
  | 5, h => rw [h]; rfl
  | n + 6, h => exact h.elim
theorem ax_gs_csum {xs : List Int32} : ∀ {l : List ax_V} {st : List Value}, ax_gs xs l st → sx_csum st = ax_csum l
  | [], st, h => by rw [show st = [] from h]; rfl
  | a :: l, [], h => h.elim
  | a :: l, v :: st, h => by
    have h1 := ax_g_cat h.1
    have h2 : sx_csum st = ax_csum l := ax_gs_csum h.2
    unfold sx_csum ax_csum at h2 ⊢
    rw [List.map_cons, List.map_cons, List.sum_cons, List.sum_cons, h1, h2]
