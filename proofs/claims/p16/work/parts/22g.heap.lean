/-! steps that look at the world -/
def bx_all {α β : Type} (f : α → Option (List β)) : List α → Option (List β)
  | [] => some []
  | a :: l => match f a, bx_all f l with
    | some x, some y => some (x ++ y)
    | _, _ => none
theorem bx_all_mem {α β : Type} {f : α → Option (List β)} : ∀ {as : List α} {r : List β}, bx_all f as = some r → ∀ a ∈ as, ∃ x, f a = some x ∧ ∀ y ∈ x, y ∈ r
  | [], r, h, a, ha => by cases ha
  | b :: as, r, h, a, ha => by
    unfold bx_all at h
    split at h
    · rename_i x y hx hy
      cases h
      rcases List.mem_cons.mp ha with rfl | ha
      · exact ⟨x, hx, fun z hz => List.mem_append_left _ hz⟩
      · obtain ⟨x', h1, h2⟩ := bx_all_mem hy a ha
        exact ⟨x', h1, fun z hz => List.mem_append_right _ (h2 z hz)⟩
    · cases h
/-- an index that may lie in several stretches of a row: one stretch at a time -/
def bx_cuts (lo hi : Int) : ax_A → Int → List (Int × Int)
  | [], _ => []
  | (n, _) :: r, o => if hi < o ∨ o + n ≤ lo then bx_cuts lo hi r (o + n) else (max lo o, min hi (o + n - 1)) :: bx_cuts lo hi r (o + n)
theorem bx_cuts_ok {lo hi z : Int} : ∀ (r : ax_A) (o : Int), lo ≤ z → z ≤ hi → o ≤ z → z < o + ax_len r → ∃ q ∈ bx_cuts lo hi r o, q.1 ≤ z ∧ z ≤ q.2
  | [], o, h1, h2, h3, h4 => by unfold ax_len at h4; omega
  | (n, a) :: r, o, h1, h2, h3, h4 => by
    unfold ax_len at h4
    unfold bx_cuts
    by_cases hz : z < o + n
    · rw [if_neg (by omega)]
      exact ⟨_, List.mem_cons_self, by dsimp only; omega, by dsimp only; omega⟩
    · obtain ⟨q, hq, h5⟩ := bx_cuts_ok r (o + n) h1 h2 (by omega) (by omega)
      refine ⟨q, ?_, h5⟩
      split
      · exact hq
      · exact List.mem_cons_of_mem _ hq
noncomputable def bx_cutenv (INV : ax_W) (env : ax_N) (kn : bx_Kn) (c : Nat) (i : ax_V) : List ax_N := match sx_nth INV c, bx_iv env i with
  | some (_, r), some p => if i.1 = 4 ∧ (bx_find kn c (bx_key env i)).isNone = true ∧ 0 ≤ p.1 ∧ p.2 < (ax_len r : Int) then (bx_cuts p.1 p.2 r 0).map (fun q => bx_upd env i q) else [env]
  | _, _ => [env]
theorem bx_cutenv_ok {INV : ax_W} {env : ax_N} {vs : List Int} {kn : bx_Kn} {c : Nat} {i : ax_V} {x : Int32} (he : bx_env env vs) (hi : bx_g vs i (.int x)) : ∃ e ∈ bx_cutenv INV env kn c i, bx_env e vs := by
  unfold bx_cutenv
  rw [sx_nth_eq]
  split
  · rename_i t r p hI hp
    split
    · rename_i hc
      obtain ⟨y, e, h1, h2⟩ := bx_iv_ok he hi hp
      cases e
      obtain ⟨q, hq, h3, h4⟩ := bx_cuts_ok (lo := p.1) (hi := p.2) r 0 h1 h2 (by omega) (by omega)
      exact ⟨_, List.mem_map.mpr ⟨q, hq, rfl⟩, bx_upd_ok he hi h3 h4⟩
    · exact ⟨env, List.mem_singleton.mpr rfl, he⟩
  · exact ⟨env, List.mem_singleton.mpr rfl, he⟩
section BXH
variable {xs : List Int32} {INV : ax_W} {X : sx_W → Prop} {PC : bx_M} {mods : bx_M} {lm : List Nat} {vs : List Int} {env : ax_N} {kn : bx_Kn} {df : bx_Df} {w : sx_W} {pc : Nat} {l : ax_L} {ast : List ax_V} {lv : sx_L} {st : List Value} {outs : List bx_S}
noncomputable def bx_kind (INV : ax_W) (c t : Nat) : Bool := match sx_nth INV c with
  | some q => decide (q.1 = t)
  | none => false
theorem bx_kind_ok {c t : Nat} {q : Nat × ax_A} (h : bx_kind INV c t = true) (hq : INV[c]? = some q) : q.1 = t := by
  unfold bx_kind at h
  rw [sx_nth_eq] at h
  rw [hq] at h
  exact of_decide_eq_true h
noncomputable def bx_getf (INV : ax_W) (ci k : Nat) (env : ax_N) (pc : Nat) (l : ax_L) (st : List ax_V) (kn : bx_Kn) (df : bx_Df) : Option (List bx_S) := match st with
  | x :: r => if x.1 = 2 ∧ ci < 100 ∧ bx_kind INV x.2.1.toNat ci = true then (match bx_load INV env kn x.2.1.toNat (0, (k : Int), (k : Int)) with
    | some o => bx_1 o.1 (pc + 3) l (o.2.2 :: r) o.2.1 df
    | none => none) else none
  | _ => none
theorem bx_getf_ok {ci k : Nat} (h : bx_getf INV ci k env pc l ast kn df = some outs) (hA : bx_at0 xs INV X vs env l ast kn df lv st w) : bx_res xs INV X mods lm vs lv w outs (sx_getf pc lv st w ci k) := by
  unfold bx_getf at h
  split at h
  · rename_i x r
    split at h
    · rename_i hc
      split at h
      · rename_i o ho
        obtain ⟨u, r', rfl, hg, hr⟩ := bx_gs1 hA.2.2.1
        have e := (bx_tag hg).2.2.1 hc.1
        subst e
        obtain ⟨env', kn', a⟩ := o
        obtain ⟨he, hl, hs, hw, hk, hd⟩ := hA
        obtain ⟨t, r0, cs, v, vs', i1, i2, i3, i4, i5, i6, i7, i8, i9, i10⟩ := bx_load_ok he hw.1 hk (bx_at_nat k) ho
        have ht := bx_kind_ok hc.2.2 i1
        dsimp only at ht
        subst ht
        rw [Int.toNat_natCast] at i6
        unfold sx_getf
        dsimp only
        rw [i2]
        dsimp only
        rw [if_pos ⟨rfl, hc.2.1⟩, i6]
        cases h
        exact ⟨_, _, _, _, rfl, _, List.mem_singleton.mpr rfl, rfl, vs', i7, ⟨i8, i7.gl hl, ⟨i10, i7.gs hr⟩, hw, i9, i7.df hd⟩, bx_fl.rf, bx_fw.rf⟩
      · cases h
    · cases h
  · cases h
noncomputable def bx_putf (INV : ax_W) (PC : bx_M) (mods : bx_M) (ci k : Nat) (ty : FieldType) (env : ax_N) (pc : Nat) (l : ax_L) (st : List ax_V) (kn : bx_Kn) (df : bx_Df) : Option (List bx_S) := match st with
  | a :: x :: r => if x.1 = 2 ∧ ci < 100 ∧ bx_kind INV x.2.1.toNat ci = true ∧ ax_fit [] ty (bx_pl env a) = true then (match bx_store INV PC mods env kn x.2.1.toNat (0, (k : Int), (k : Int)) a with
    | some o => bx_1 o.1 (pc + 3) l r o.2 df
    | none => none) else none
  | _ => none
theorem bx_putf_ok {ci k : Nat} {ty : FieldType} (hX : bx_keeps xs PC X) (h : bx_putf INV PC mods ci k ty env pc l ast kn df = some outs) (hA : bx_at0 xs INV X vs env l ast kn df lv st w) : bx_res xs INV X mods lm vs lv w outs (sx_putf pc lv st w ci k ty) := by
  unfold bx_putf at h
  split at h
  · rename_i a x r
    split at h
    · rename_i hc
      split at h
      · rename_i o ho
        obtain ⟨v, u, r', rfl, hg, hgx, hr⟩ := bx_gs2 hA.2.2.1
        have e := (bx_tag hgx).2.2.1 hc.1
        subst e
        obtain ⟨env', kn'⟩ := o
        obtain ⟨he, hl, hs, hw, hk, hd⟩ := hA
        obtain ⟨t, r0, cs, vs', i1, i2, i3, i4, i5, i7, i8, i9, i10, i11, i12⟩ := bx_store_ok hX he hw.1 hw.2 hk (bx_at_nat k) hg ho
        have ht := bx_kind_ok hc.2.2.1 i1
        dsimp only at ht
        subst ht
        rw [Int.toNat_natCast] at i9 i10 i11 i12
        unfold sx_putf
        dsimp only
        rw [i2]
        dsimp only
        rw [if_pos ⟨rfl, hc.2.1, by omega, ax_fit_ok bx_nil (bx_pl_ok he hg) hc.2.2.2⟩]
        cases h
        exact ⟨_, _, _, _, rfl, _, List.mem_singleton.mpr rfl, rfl, vs', i7, ⟨i8, i7.gl hl, i7.gs hr, ⟨i9, i10⟩, i11, i7.df hd⟩, bx_fl.rf, i12⟩
      · cases h
    · cases h
  · cases h
/-- a number of the script -/
def bx_xld (env : ax_N) (kn : bx_Kn) (df : bx_Df) (i : ax_V) : Option (ax_N × bx_Kn × ax_V) := match bx_find kn 100001 (some (0, 0, 0)), bx_iv env i with
  | some n, some p => if i.1 = 4 ∧ n.1 = 4 ∧ 0 ≤ p.1 ∧ bx_dle df n.2.1.toNat i.2.1.toNat (i.2.2 + 1 - n.2.2) = true then (match bx_find kn 100000 (some i) with
      | some a => some (env, kn, a)
      | none => some ((bx_fr env ax_top).1, (100000, i, (bx_fr env ax_top).2) :: kn, (bx_fr env ax_top).2)) else none
  | _, _ => none
theorem bx_xld_ok (hxs : xs.length ≤ 4096) {i a : ax_V} {env' : ax_N} {kn' : bx_Kn} {x : Int32} (he : bx_env env vs) (hk : ∀ q ∈ kn, bx_kn xs vs w q) (hd : ∀ q ∈ df, bx_df vs q) (hi : bx_g vs i (.int x)) (h : bx_xld env kn df i = some (env', kn', a)) :
    ∃ (v : Int32) (vs' : List Int), 0 ≤ x.toInt ∧ x.toInt < (xs.length : Int) ∧ xs[x.toInt.toNat]? = some v ∧ bx_ext vs vs' ∧ bx_env env' vs' ∧ (∀ q ∈ kn', bx_kn xs vs' w q) ∧ bx_g vs' a (.int v) := by
  unfold bx_xld at h
  split at h
  · rename_i n p hn hp
    split at h
    · rename_i hc
      obtain ⟨hi4, hn4, hp0, hdl⟩ := hc
      obtain ⟨x', e, g1, g2⟩ := bx_iv_ok he hi hp
      cases e
      obtain ⟨j, hj, hm⟩ := bx_find_ok hn
      cases hj
      obtain ⟨z0, e1, e2⟩ := hk _ hm
      have hz0 : z0 = 0 := by
        unfold bx_ixz at e1
        rw [if_neg (fun h => Nat.noConfusion h), if_pos ⟨rfl, rfl⟩] at e1
        cases e1; rfl
      subst hz0
      have hlen := e2 (.int (Int32.ofNat xs.length)) (Int.le_refl _) (show bx_rd xs w 100001 0 = some (.int (Int32.ofNat xs.length)) by unfold bx_rd; rw [if_neg (by decide), if_pos rfl])
      have hofn : (Int32.ofNat xs.length).toInt = (xs.length : Int) := ax_ofNat (by omega)
      obtain ⟨zi, zj, d1, d2, d3⟩ := bx_dle_ok hd hdl
      have hxl : x.toInt < (xs.length : Int) := by
        rcases hlen with ⟨-, y, z, e, hz, hy⟩ | ⟨hh, -⟩
        · cases e
          rcases hi with ⟨-, y2, z2, e', hz2, hy2⟩ | ⟨hh, -⟩
          · cases e'
            dsimp only at hz hy
            rw [d1] at hz
            rw [d2] at hz2
            cases hz; cases hz2
            omega
          · exact absurd hi4 hh
        · exact absurd hn4 hh
      have hx0 : 0 ≤ x.toInt := by omega
      have hxn : x.toInt.toNat < xs.length := by omega
      have hget : xs[x.toInt.toNat]? = some (xs[x.toInt.toNat]'hxn) := List.getElem?_eq_getElem hxn
      have hrd : bx_rd xs w 100000 x.toInt.toNat = some (.int (xs[x.toInt.toNat]'hxn)) := by
        unfold bx_rd
        rw [if_pos rfl, hget]
        rfl
      have hix := (bx_at_int he hi).2.2 hi4
      split at h
      · rename_i a0 hf
        cases h
        obtain ⟨j, hj, hm⟩ := bx_find_ok hf
        cases hj
        obtain ⟨z', e3, e4⟩ := hk _ hm
        dsimp only at e3 e4
        rw [hix] at e3
        cases e3
        exact ⟨_, vs, hx0, hxl, hget, bx_ext.rf, he, hk, e4 _ hx0 hrd⟩
      · cases h
        have hg : bx_g vs ax_top (.int (xs[x.toInt.toNat]'hxn)) := bx_g0 (ax_lo _) (ax_hi _)
        obtain ⟨vs', x1, x2, x3⟩ := bx_fr_ext he hg
        refine ⟨_, vs', hx0, hxl, hget, x1, x2, fun q hq => ?_, x3⟩
        rcases List.mem_cons.mp hq with rfl | hq
        · refine ⟨x.toInt, x1.ixz hix, fun u _ hu => ?_⟩
          have hu' : bx_rd xs w 100000 x.toInt.toNat = some u := hu
          rw [hrd] at hu'
          cases hu'
          exact x3
        · exact x1.kn hk q hq
    · cases h
  · cases h
noncomputable def bx_aget (INV : ax_W) (t : Nat) (env : ax_N) (pc : Nat) (l : ax_L) (st : List ax_V) (kn : bx_Kn) (df : bx_Df) : Option (List bx_S) := match st with
  | i :: x :: r => if x.1 = 2 ∧ bx_kind INV x.2.1.toNat t = true ∧ (bx_iv env i).isSome = true then bx_all (fun e => match bx_load INV e kn x.2.1.toNat i with
      | some o => if o.2.2.1 = 0 ∨ o.2.2.1 = 4 then bx_1 o.1 (pc + 1) l (o.2.2 :: r) o.2.1 df else none
      | none => none) (bx_cutenv INV env kn x.2.1.toNat i)
    else if x.1 = 3 ∧ t = 100 then (match bx_xld env kn df i with
      | some o => bx_1 o.1 (pc + 1) l (o.2.2 :: r) o.2.1 df
      | none => none) else none
  | _ => none
theorem bx_isI {a : ax_V} {v : Value} {p : Int × Int} (he : bx_env env vs) (hg : bx_g vs a v) (h : bx_iv env a = some p) : ∃ x : Int32, v = .int x := by
  obtain ⟨x, e, -⟩ := bx_iv_ok he hg h
  exact ⟨x, e⟩
theorem bx_load_iv {c : Nat} {i : ax_V} {o : ax_N × bx_Kn × ax_V} (h : bx_load INV env kn c i = some o) : ∃ p, bx_iv env i = some p := by
  unfold bx_load at h
  split at h
  · rename_i p _ hp; exact ⟨_, hp⟩
  · cases h
theorem bx_xld_iv {i : ax_V} {o : ax_N × bx_Kn × ax_V} (h : bx_xld env kn df i = some o) : ∃ p, bx_iv env i = some p := by
  unfold bx_xld at h
  split at h
  · rename_i p _ hp; exact ⟨_, hp⟩
  · cases h
theorem bx_aget_ok {t : Nat} (hxs : xs.length ≤ 4096) (h : bx_aget INV t env pc l ast kn df = some outs) (hA : bx_at0 xs INV X vs env l ast kn df lv st w) : bx_res xs INV X mods lm vs lv w outs (sx_aget pc lv st w xs t) := by
  unfold bx_aget at h
  split at h
  · rename_i i x r
    obtain ⟨u, v, r', rfl, hi, hx, hr⟩ := bx_gs2 hA.2.2.1
    obtain ⟨he, hl, hs, hw, hk, hd⟩ := hA
    split at h
    · rename_i hc
      have e := (bx_tag hx).2.2.1 hc.1
      subst e
      cases hp : bx_iv env i with
      | none => rw [hp] at hc; exact absurd hc.2.2 (by decide)
      | some p =>
      obtain ⟨y, rfl⟩ := bx_isI he hi hp
      obtain ⟨env0, hem, he0⟩ := bx_cutenv_ok (INV := INV) (kn := kn) (c := x.2.1.toNat) he hi
      obtain ⟨x', hx', hsub⟩ := bx_all_mem h env0 hem
      split at hx'
      · rename_i o ho
        obtain ⟨env', kn', a⟩ := o
        obtain ⟨t', r0, cs, v, vs', i1, i2, i3, i4, i5, i6, i7, i8, i9, i10⟩ := bx_load_ok he0 hw.1 hk (bx_at_int he0 hi) ho
        have ht := bx_kind_ok hc.2.1 i1
        dsimp only at ht
        subst ht
        split at hx'
        · rename_i h04
          obtain ⟨z, rfl⟩ := (bx_tag i10).1 h04
          unfold sx_aget
          dsimp only
          rw [i2]
          dsimp only
          rw [if_pos rfl, ax_ix i4 i5]
          dsimp only
          rw [i6]
          cases hx'
          exact ⟨_, _, _, _, rfl, _, hsub _ (List.mem_singleton.mpr rfl), rfl, vs', i7, ⟨i8, i7.gl hl, ⟨i10, i7.gs hr⟩, hw, i9, i7.df hd⟩, bx_fl.rf, bx_fw.rf⟩
        · cases hx'
      · cases hx'
    · split at h
      · rename_i hc
        have e := (bx_tag hx).2.2.2 hc.1
        subst e
        split at h
        · rename_i o ho
          obtain ⟨p, hp⟩ := bx_xld_iv ho
          obtain ⟨y, rfl⟩ := bx_isI he hi hp
          obtain ⟨env', kn', a⟩ := o
          obtain ⟨z, vs', i4, i5, i6, i7, i8, i9, i10⟩ := bx_xld_ok (w := w) hxs he hk hd hi ho
          unfold sx_aget
          dsimp only
          rw [if_pos hc.2, ax_ix i4 i5]
          dsimp only
          rw [show xs.getD y.toInt.toNat 0 = z by rw [List.getD_eq_getElem?_getD, i6]; rfl]
          cases h
          exact ⟨_, _, _, _, rfl, _, List.mem_singleton.mpr rfl, rfl, vs', i7, ⟨i8, i7.gl hl, ⟨i10, i7.gs hr⟩, hw, i9, i7.df hd⟩, bx_fl.rf, bx_fw.rf⟩
        · cases h
      · cases h
  · cases h
def bx_nar (t : Nat) (a : ax_V) : ax_V := if t = 100 then a else (0, -128, 127)
noncomputable def bx_aput (INV : ax_W) (PC : bx_M) (mods : bx_M) (t : Nat) (env : ax_N) (pc : Nat) (l : ax_L) (st : List ax_V) (kn : bx_Kn) (df : bx_Df) : Option (List bx_S) := match st with
  | a :: i :: x :: r => if x.1 = 2 ∧ bx_kind INV x.2.1.toNat t = true ∧ (a.1 = 0 ∨ a.1 = 4) then (match bx_store INV PC mods env kn x.2.1.toNat i (bx_nar t a) with
      | some o => bx_1 o.1 (pc + 1) l r o.2 df
      | none => none) else none
  | _ => none
theorem bx_store_iv {c : Nat} {i a : ax_V} {o : ax_N × bx_Kn} (h : bx_store INV PC mods env kn c i a = some o) : ∃ p, bx_iv env i = some p := by
  unfold bx_store at h
  split at h
  · rename_i p _ hp; exact ⟨_, hp⟩
  · cases h
theorem bx_gs3 {a b c : ax_V} {r : List ax_V} (h : bx_gs vs (c :: b :: a :: r) st) : ∃ (x u v : Value) (r' : List Value), st = x :: u :: v :: r' ∧ bx_g vs c x ∧ bx_g vs b u ∧ bx_g vs a v ∧ bx_gs vs r r' := by
  match st, h with
  | x :: u :: v :: r', h => exact ⟨x, u, v, r', rfl, h.1, h.2.1, h.2.2.1, h.2.2.2⟩
  | [x, u], h => exact h.2.2.elim
  | [x], h => exact h.2.elim
theorem bx_aput_ok {t : Nat} {f : Int32 → Int32} (ht : (t = 100 ∧ f = fun x => x) ∨ (t = 101 ∧ f = fun x => vp_nar .byte x)) (hX : bx_keeps xs PC X) (h : bx_aput INV PC mods t env pc l ast kn df = some outs) (hA : bx_at0 xs INV X vs env l ast kn df lv st w) : bx_res xs INV X mods lm vs lv w outs (sx_aput pc lv st w t f) := by
  unfold bx_aput at h
  split at h
  · rename_i a i x r
    obtain ⟨v, u, y, r', rfl, hg, hi, hx, hr⟩ := bx_gs3 hA.2.2.1
    obtain ⟨he, hl, hs, hw, hk, hd⟩ := hA
    split at h
    · rename_i hc
      have e := (bx_tag hx).2.2.1 hc.1
      subst e
      obtain ⟨z, rfl⟩ := (bx_tag hg).1 hc.2.2
      split at h
      · rename_i o ho
        obtain ⟨p, hp⟩ := bx_store_iv ho
        obtain ⟨k, rfl⟩ := bx_isI he hi hp
        obtain ⟨env', kn'⟩ := o
        have hg' : bx_g vs (bx_nar t a) (.int (f z)) := by
          rcases ht with ⟨rfl, rfl⟩ | ⟨rfl, rfl⟩
          · exact hg
          · unfold bx_nar
            rw [if_neg (by decide)]
            have := ax_i8 z
            exact bx_g0 this.1 this.2
        obtain ⟨t', r0, cs, vs', i1, i2, i3, i4, i5, i7, i8, i9, i10, i11, i12⟩ := bx_store_ok hX he hw.1 hw.2 hk (bx_at_int he hi) hg' ho
        have ht' := bx_kind_ok hc.2.1 i1
        dsimp only at ht'
        subst ht'
        unfold sx_aput
        dsimp only
        rw [i2]
        dsimp only
        rw [if_pos rfl, ax_ix i4 i5]
        cases h
        exact ⟨_, _, _, _, rfl, _, List.mem_singleton.mpr rfl, rfl, vs', i7, ⟨i8, i7.gl hl, i7.gs hr, ⟨i9, i10⟩, i11, i7.df hd⟩, bx_fl.rf, i12⟩
      · cases h
    · cases h
  · cases h
def bx_alen (INV : ax_W) (env : ax_N) (pc : Nat) (l : ax_L) (st : List ax_V) (kn : bx_Kn) (df : bx_Df) : Option (List bx_S) := match st with
  | x :: r => if x.1 = 2 then (match INV[x.2.1.toNat]? with
      | some (t, q) => if (t = 100 ∨ t = 101) ∧ ax_len q < 2147483648 then bx_1 env (pc + 1) l ((0, (ax_len q : Int), (ax_len q : Int)) :: r) kn df else none
      | none => none)
    else if x.1 = 3 then (match bx_find kn 100001 (some (0, 0, 0)) with
      | some a => bx_1 env (pc + 1) l (a :: r) kn df
      | none => bx_1 (bx_fr env (0, 0, 4096)).1 (pc + 1) l ((bx_fr env (0, 0, 4096)).2 :: r) ((100001, (0, 0, 0), (bx_fr env (0, 0, 4096)).2) :: kn) df) else none
  | _ => none
theorem bx_alen_ok (hxs : xs.length ≤ 4096) (h : bx_alen INV env pc l ast kn df = some outs) (hA : bx_at0 xs INV X vs env l ast kn df lv st w) : bx_res xs INV X mods lm vs lv w outs (sx_alen pc lv st w xs) := by
  unfold bx_alen at h
  split at h
  · rename_i x r
    have hA0 := hA
    obtain ⟨u, r', rfl, hx, hr⟩ := bx_gs1 hA.2.2.1
    obtain ⟨he, hl, hs, hw, hk, hd⟩ := hA
    split at h
    · rename_i hc
      have e := (bx_tag hx).2.2.1 hc
      subst e
      split at h
      · rename_i t q hq
        split at h
        · rename_i hc2
          obtain ⟨cs, j1, j2, j3⟩ := hw.1.2 _ t q hq
          unfold sx_alen
          dsimp only
          rw [j1]
          dsimp only
          rw [if_pos hc2.1]
          have hofn := ax_ofNat (n := cs.length) (by omega)
          exact bx_st1 h hA0 ⟨bx_g0 (by rw [hofn, j2]; exact Int.le_refl _) (by rw [hofn, j2]; exact Int.le_refl _), hr⟩
        · cases h
      · cases h
    · split at h
      · rename_i hc
        have e := (bx_tag hx).2.2.2 hc
        subst e
        have hofn := ax_ofNat (n := xs.length) (by omega)
        have hrd : bx_rd xs w 100001 (0 : Int).toNat = some (.int (Int32.ofNat xs.length)) := by unfold bx_rd; rw [if_neg (by decide), if_pos rfl]
        have hix : ∀ vs : List Int, bx_ixz vs (0, 0, 0) = some 0 := fun vs => by unfold bx_ixz; rw [if_neg (fun h => Nat.noConfusion h), if_pos ⟨rfl, rfl⟩]
        unfold sx_alen
        dsimp only
        split at h
        · rename_i a hf
          obtain ⟨j, hj, hm⟩ := bx_find_ok hf
          cases hj
          obtain ⟨z0, e1, e2⟩ := hk _ hm
          have e1' : bx_ixz vs (0, 0, 0) = some z0 := e1
          rw [hix] at e1'
          cases e1'
          exact bx_st1 h hA0 ⟨e2 _ (Int.le_refl _) hrd, hr⟩
        · cases h
          have hg : bx_g vs (0, 0, 4096) (.int (Int32.ofNat xs.length)) := bx_g0 (by rw [hofn]; omega) (by rw [hofn]; omega)
          obtain ⟨vs', x1, x2, x3⟩ := bx_fr_ext he hg
          refine ⟨_, _, _, _, rfl, _, List.mem_singleton.mpr rfl, rfl, vs', x1, ⟨x2, x1.gl hl, ⟨x3, x1.gs hr⟩, hw, fun q hq => ?_, x1.df hd⟩, bx_fl.rf, bx_fw.rf⟩
          rcases List.mem_cons.mp hq with rfl | hq
          · refine ⟨0, hix vs', fun u _ hu => ?_⟩
            have hu' : bx_rd xs w 100001 (0 : Int).toNat = some u := hu
            rw [hrd] at hu'
            cases hu'
            exact x3
          · exact x1.kn hk q hq
      · cases h
  · cases h
end BXH
