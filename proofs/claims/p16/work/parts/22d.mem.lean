/-! reading from and writing to the world -/
def bx_ext (vs vs' : List Int) : Prop := ∃ us, vs' = vs ++ us
theorem bx_ext.rf {vs : List Int} : bx_ext vs vs := ⟨[], (List.append_nil vs).symm⟩
theorem bx_ext.tr {vs vs1 vs2 : List Int} (h : bx_ext vs vs1) (h' : bx_ext vs1 vs2) : bx_ext vs vs2 := by
  obtain ⟨u, rfl⟩ := h
  obtain ⟨v, rfl⟩ := h'
  exact ⟨u ++ v, List.append_assoc ..⟩
theorem bx_ext.g {vs vs' : List Int} (h : bx_ext vs vs') {a : ax_V} {v : Value} (hg : bx_g vs a v) : bx_g vs' a v := by
  obtain ⟨u, rfl⟩ := h
  exact hg.up u
theorem bx_ext.gl {vs vs' : List Int} (h : bx_ext vs vs') {l : ax_L} {lv : sx_L} (hg : bx_gl vs l lv) : bx_gl vs' l lv := by
  obtain ⟨u, rfl⟩ := h
  exact hg.up u
theorem bx_ext.gs {vs vs' : List Int} (h : bx_ext vs vs') {l : List ax_V} {st : List Value} (hg : bx_gs vs l st) : bx_gs vs' l st := by
  obtain ⟨u, rfl⟩ := h
  exact bx_gs_up u hg
theorem bx_ext.kn {vs vs' : List Int} (h : bx_ext vs vs') {xs : List Int32} {w : sx_W} {kn : bx_Kn} (hg : ∀ q ∈ kn, bx_kn xs vs w q) : ∀ q ∈ kn, bx_kn xs vs' w q := by
  obtain ⟨u, rfl⟩ := h
  exact fun q hq => (hg q hq).up u
theorem bx_ext.df {vs vs' : List Int} (h : bx_ext vs vs') {df : bx_Df} (hg : ∀ q ∈ df, bx_df vs q) : ∀ q ∈ df, bx_df vs' q := by
  obtain ⟨u, rfl⟩ := h
  exact fun q hq => (hg q hq).up u
theorem bx_ext.ixz {vs vs' : List Int} (h : bx_ext vs vs') {a : ax_V} {z : Int} (hg : bx_ixz vs a = some z) : bx_ixz vs' a = some z := by
  obtain ⟨u, rfl⟩ := h
  exact bx_ixz_up u hg
theorem bx_fr_ext {env : ax_N} {vs : List Int} {a : ax_V} {v : Value} (he : bx_env env vs) (hg : bx_g vs a v) : ∃ vs', bx_ext vs vs' ∧ bx_env (bx_fr env a).1 vs' ∧ bx_g vs' (bx_fr env a).2 v := by
  obtain ⟨us, h1, h2⟩ := bx_fr_ok he hg
  exact ⟨_, ⟨us, rfl⟩, h1, h2⟩
def bx_at (env : ax_N) (vs : List Int) (i : ax_V) (z : Int) : Prop := (∀ p, bx_iv env i = some p → p.1 ≤ z ∧ z ≤ p.2) ∧ (∀ j, bx_key env i = some j → bx_ixz vs j = some z) ∧ (i.1 = 4 → bx_ixz vs i = some z)
theorem bx_at_int {env : ax_N} {vs : List Int} {i : ax_V} {x : Int32} (he : bx_env env vs) (hg : bx_g vs i (.int x)) : bx_at env vs i x.toInt := by
  refine ⟨fun p hp => ?_, fun j hj => bx_key_ok he hg hj, fun h4 => ?_⟩
  · obtain ⟨y, e, h1, h2⟩ := bx_iv_ok he hg hp
    cases e
    exact ⟨h1, h2⟩
  · rcases hg with ⟨-, y, z, e, hz, hx⟩ | ⟨hn, -⟩
    · cases e
      unfold bx_ixz
      rw [if_pos h4, hz, hx]
      rfl
    · exact absurd h4 hn
theorem bx_at_nat {env : ax_N} {vs : List Int} (k : Nat) : bx_at env vs (0, (k : Int), (k : Int)) (k : Int) := by
  refine ⟨fun p hp => ?_, fun j hj => ?_, fun h => Nat.noConfusion h⟩
  · cases hp
    exact ⟨Int.le_refl _, Int.le_refl _⟩
  · have e : bx_key env (0, (k : Int), (k : Int)) = some (0, (k : Int), (k : Int)) := by
      show (if (k : Int) = (k : Int) then some ((0 : Nat), (k : Int), (k : Int)) else _) = _
      rw [if_pos rfl]
    rw [e] at hj
    cases hj
    unfold bx_ixz
    rw [if_neg (fun h => Nat.noConfusion h), if_pos ⟨rfl, rfl⟩]
def bx_find (kn : bx_Kn) (c : Nat) (j : Option ax_V) : Option ax_V := match j with
  | none => none
  | some j => (kn.find? (fun q => decide (q.1 = c) && decide (q.2.1 = j))).map (fun q => q.2.2)
theorem bx_find_ok {kn : bx_Kn} {c : Nat} {j : Option ax_V} {a : ax_V} (h : bx_find kn c j = some a) : ∃ i, j = some i ∧ (c, i, a) ∈ kn := by
  unfold bx_find at h
  split at h
  · cases h
  · rename_i i
    cases hf : kn.find? (fun q => decide (q.1 = c) && decide (q.2.1 = i)) with
    | none => rw [hf] at h; cases h
    | some q =>
      rw [hf] at h
      have h1 := List.find?_some hf
      have h2 := List.mem_of_find?_eq_some hf
      simp only [Bool.and_eq_true, decide_eq_true_eq] at h1
      obtain ⟨c0, i0, a0⟩ := q
      obtain ⟨e1, e2⟩ := h1
      dsimp only at e1 e2
      subst e1; subst e2
      cases h
      exact ⟨_, rfl, h2⟩
theorem bx_rd_w {xs : List Int32} {w : sx_W} {c k : Nat} (hc : c < 100000) : bx_rd xs w c k = (w[c]?).bind (fun x => x.2[k]?) := by
  unfold bx_rd
  rw [if_neg (by omega), if_neg (by omega)]
def bx_addk (kn : bx_Kn) (c : Nat) (j : Option ax_V) (a : ax_V) : bx_Kn := match j with
  | some j => if a.1 = 4 then (c, j, a) :: kn else kn
  | none => kn
theorem bx_addk_ok {xs : List Int32} {vs : List Int} {w : sx_W} {kn : bx_Kn} {c : Nat} {j : Option ax_V} {a : ax_V} {z : Int} {v : Value} (hk : ∀ q ∈ kn, bx_kn xs vs w q) (hj : ∀ i, j = some i → bx_ixz vs i = some z) (hr : bx_rd xs w c z.toNat = some v) (hg : bx_g vs a v) : ∀ q ∈ bx_addk kn c j a, bx_kn xs vs w q := by
  unfold bx_addk
  split
  · split
    · intro q hq
      rcases List.mem_cons.mp hq with rfl | hq
      · refine ⟨z, hj _ rfl, fun u _ hu => ?_⟩
        have hu' : bx_rd xs w c z.toNat = some u := hu
        rw [hr] at hu'
        cases hu'
        exact hg
      · exact hk q hq
    · exact hk
  · exact hk
noncomputable def bx_load (INV : ax_W) (env : ax_N) (kn : bx_Kn) (c : Nat) (i : ax_V) : Option (ax_N × bx_Kn × ax_V) := match sx_nth INV c, bx_iv env i with
  | some (_, r), some p => if c < 100000 ∧ 0 ≤ p.1 ∧ p.2 < (ax_len r : Int) then (match bx_find kn c (bx_key env i) with
      | some a => some (env, kn, a)
      | none => match bx_jr p.1 p.2 r 0 with
        | some (some a) => if a.1 = 4 then none else some ((bx_fr env a).1, bx_addk kn c (bx_key env i) (bx_fr env a).2, (bx_fr env a).2)
        | _ => none) else none
  | _, _ => none
section BXM
variable {xs : List Int32} {INV : ax_W} {X : sx_W → Prop} {PC : bx_M} {vs : List Int} {env : ax_N} {kn : bx_Kn} {w : sx_W}
theorem bx_load_ok {c : Nat} {i a : ax_V} {env' : ax_N} {kn' : bx_Kn} {z : Int} (he : bx_env env vs) (hin : bx_in INV w) (hk : ∀ q ∈ kn, bx_kn xs vs w q) (hi : bx_at env vs i z) (h : bx_load INV env kn c i = some (env', kn', a)) :
    ∃ (t : Nat) (r : ax_A) (cs : List Value) (v : Value) (vs' : List Int), INV[c]? = some (t, r) ∧ w[c]? = some (t, cs) ∧ cs.length = ax_len r ∧ 0 ≤ z ∧ z < (cs.length : Int) ∧ cs[z.toNat]? = some v ∧ bx_ext vs vs' ∧ bx_env env' vs' ∧ (∀ q ∈ kn', bx_kn xs vs' w q) ∧ bx_g vs' a v := by
  unfold bx_load at h
  rw [sx_nth_eq] at h
  split at h
  · rename_i t r p hI hp
    split at h
    · rename_i hc
      obtain ⟨h1, h2⟩ := hi.1 p hp
      obtain ⟨cs, hw, hl, hv⟩ := hin.2 c t r hI
      have hz0 : 0 ≤ z := by omega
      have hzl : z < (cs.length : Int) := by rw [hl]; omega
      have hzn : z.toNat < cs.length := by omega
      obtain ⟨b, hb⟩ := bx_nth_len r z.toNat (by omega)
      have hcv : cs[z.toNat]? = some (cs[z.toNat]'hzn) := List.getElem?_eq_getElem hzn
      have hrd : bx_rd xs w c z.toNat = some (cs[z.toNat]'hzn) := by
        rw [bx_rd_w hc.1, hw]
        exact hcv
      split at h
      · rename_i a0 hf
        cases h
        obtain ⟨j, hj, hm⟩ := bx_find_ok hf
        obtain ⟨z', e1, e2⟩ := hk _ hm
        have e3 := hi.2.1 j hj
        dsimp only at e1 e2
        rw [e3] at e1
        cases e1
        exact ⟨t, r, cs, _, vs, hI, hw, hl, hz0, hzl, hcv, bx_ext.rf, he, hk, e2 _ hz0 hrd⟩
      · split at h
        · rename_i a0 hj
          split at h
          · cases h
          · rename_i h4
            cases h
            obtain ⟨c0, e1, e2⟩ := bx_jr_ok r 0 _ z.toNat b hj hb (by omega) (by omega)
            cases e1
            have hg : bx_g vs a0 (cs[z.toNat]'hzn) := .inr ⟨h4, e2 _ (hv _ _ _ hb hcv)⟩
            obtain ⟨vs', x1, x2, x3⟩ := bx_fr_ext he hg
            exact ⟨t, r, cs, _, vs', hI, hw, hl, hz0, hzl, hcv, x1, x2, bx_addk_ok (x1.kn hk) (fun i hi' => x1.ixz (hi.2.1 i hi')) hrd x3, x3⟩
        · cases h
    · cases h
  · cases h
def bx_apart (env : ax_N) (a b : ax_V) : Bool := (decide (a.1 = 4) && decide (b.1 = 4) && decide (a.2.1 = b.2.1) && !decide (a.2.2 = b.2.2)) || (match bx_iv env a, bx_iv env b with
  | some p, some q => decide (p.2 < q.1) || decide (q.2 < p.1)
  | _, _ => false)
theorem bx_ixz_iv {a : ax_V} {z : Int} {p : Int × Int} (he : bx_env env vs) (h : bx_ixz vs a = some z) (hp : bx_iv env a = some p) : p.1 ≤ z ∧ z ≤ p.2 := by
  obtain ⟨t, lo, hh⟩ := a
  unfold bx_ixz at h
  unfold bx_iv at hp
  dsimp only at h hp
  by_cases h4 : t = 4
  · subst h4
    rw [if_pos rfl] at h
    cases hz : vs[lo.toNat]? with
    | none => rw [hz] at h; cases h
    | some y =>
      rw [hz] at h
      cases hq : env[lo.toNat]? with
      | none => rw [hq] at hp; cases hp
      | some q =>
        rw [hq] at hp
        cases h; cases hp
        have := he.2 _ _ _ hq hz
        constructor <;> dsimp only <;> omega
  · rw [if_neg h4] at h
    split at h
    · rename_i hs
      obtain ⟨rfl, hs⟩ := hs
      cases h; cases hp
      constructor <;> dsimp only <;> omega
    · cases h
theorem bx_apart_ok {a i : ax_V} {za z : Int} (he : bx_env env vs) (ha : bx_ixz vs a = some za) (hi : bx_at env vs i z) (h : bx_apart env a i = true) : za ≠ z := by
  unfold bx_apart at h
  rw [Bool.or_eq_true] at h
  rcases h with h | h
  · simp only [Bool.and_eq_true, decide_eq_true_eq, Bool.not_eq_true', decide_eq_false_iff_not] at h
    obtain ⟨⟨⟨h1, h2⟩, h3⟩, h4⟩ := h
    have hz := hi.2.2 h2
    unfold bx_ixz at ha hz
    rw [if_pos h1] at ha
    rw [if_pos h2, ← h3] at hz
    cases hv : vs[a.2.1.toNat]? with
    | none => rw [hv] at ha; cases ha
    | some y =>
      rw [hv] at ha hz
      simp only [Option.map_some, Option.some.injEq] at ha hz
      omega
  · split at h
    · rename_i p q hp hq
      have h1 := bx_ixz_iv he ha hp
      have h2 := hi.1 q hq
      simp only [Bool.or_eq_true, decide_eq_true_eq] at h
      omega
    · cases h
def bx_inm (mods : List (Nat × Nat × Nat)) (c : Nat) (p : Int × Int) : Bool := bx_star mods || mods.any (fun q => decide (q.1 = c) && decide ((q.2.1 : Int) ≤ p.1) && decide (p.2 < (q.2.2 : Int)))
def bx_kst (env : ax_N) (kn : bx_Kn) (c : Nat) (i v : ax_V) : bx_Kn := match bx_key env i with
  | some j => (c, j, v) :: kn.filter (fun q => !decide (q.1 = c) || bx_apart env q.2.1 i)
  | none => kn.filter (fun q => !decide (q.1 = c) || bx_apart env q.2.1 i)
noncomputable def bx_store (INV : ax_W) (PC : bx_M) (mods : List (Nat × Nat × Nat)) (env : ax_N) (kn : bx_Kn) (c : Nat) (i v : ax_V) : Option (ax_N × bx_Kn) := match sx_nth INV c, bx_iv env i with
  | some (_, r), some p => if c < 100000 ∧ 0 ≤ p.1 ∧ p.2 < (ax_len r : Int) ∧ bx_clear PC c p = true ∧ bx_inm mods c p = true ∧ bx_cov (ax_leV [] (bx_pl env v)) p.1 p.2 r 0 = true then
      some ((bx_fr env v).1, bx_kst env kn c i (bx_fr env v).2) else none
  | _, _ => none
theorem bx_rd_set {c t k : Nat} {cs : List Value} {v : Value} (hc : c < 100000) (hw : w[c]? = some (t, cs)) (hk : k < cs.length) : bx_rd xs (w.set c (t, cs.set k v)) c k = some v := by
  rw [bx_rd_w hc, List.getElem?_set_self (List.getElem?_eq_some_iff.mp hw).1]
  show (cs.set k v)[k]? = _
  rw [List.getElem?_set_self hk]
theorem bx_rd_set_ne {c t k c' k' : Nat} {cs : List Value} {v : Value} (hc : c < 100000) (hw : w[c]? = some (t, cs)) (hne : ¬ (c' = c ∧ k' = k)) : bx_rd xs (w.set c (t, cs.set k v)) c' k' = bx_rd xs w c' k' := by
  by_cases hcc : c' = c
  · subst hcc
    have hkk : ¬ k' = k := fun h => hne ⟨rfl, h⟩
    rw [bx_rd_w hc, bx_rd_w hc, List.getElem?_set_self (List.getElem?_eq_some_iff.mp hw).1, hw]
    show (cs.set k v)[k']? = cs[k']?
    rw [List.getElem?_set_ne (fun h => hkk h.symm)]
  · unfold bx_rd
    rw [List.getElem?_set_ne (fun h => hcc h.symm)]
theorem bx_store_ok {c : Nat} {i a : ax_V} {v : Value} {env' : ax_N} {kn' : bx_Kn} {mods : List (Nat × Nat × Nat)} {z : Int} (hX : bx_keeps xs PC X) (he : bx_env env vs) (hin : bx_in INV w) (hx : X w) (hk : ∀ q ∈ kn, bx_kn xs vs w q) (hi : bx_at env vs i z) (hg : bx_g vs a v) (h : bx_store INV PC mods env kn c i a = some (env', kn')) :
    ∃ (t : Nat) (r : ax_A) (cs : List Value) (vs' : List Int), INV[c]? = some (t, r) ∧ w[c]? = some (t, cs) ∧ cs.length = ax_len r ∧ 0 ≤ z ∧ z < (cs.length : Int) ∧ bx_ext vs vs' ∧ bx_env env' vs' ∧ bx_in INV (w.set c (t, cs.set z.toNat v)) ∧ X (w.set c (t, cs.set z.toNat v)) ∧ (∀ q ∈ kn', bx_kn xs vs' (w.set c (t, cs.set z.toNat v)) q) ∧ bx_fw xs mods w (w.set c (t, cs.set z.toNat v)) := by
  unfold bx_store at h
  rw [sx_nth_eq] at h
  split at h
  · rename_i t r p hI hp
    split at h
    · rename_i hc
      obtain ⟨hc1, hc2, hc3, hc4, hc5, hc6⟩ := hc
      cases h
      obtain ⟨h1, h2⟩ := hi.1 p hp
      obtain ⟨cs, hw, hl, hv⟩ := hin.2 c t r hI
      have hz0 : 0 ≤ z := by omega
      have hzl : z < (cs.length : Int) := by rw [hl]; omega
      have hzn : z.toNat < cs.length := by omega
      have hcl : c < w.length := (List.getElem?_eq_some_iff.mp hw).1
      obtain ⟨vs', x1, x2, x3⟩ := bx_fr_ext he hg
      refine ⟨t, r, cs, vs', hI, hw, hl, hz0, hzl, x1, x2, ⟨by rw [List.length_set]; exact hin.1, fun c' t' r' hI' => ?_⟩, ?_, ?_, ?_⟩
      · by_cases hcc : c' = c
        · subst hcc
          rw [hI] at hI'
          cases hI'
          refine ⟨cs.set z.toNat v, List.getElem?_set_self hcl, by rw [List.length_set]; exact hl, fun k b u hb hu => ?_⟩
          by_cases hkz : k = z.toNat
          · subst hkz
            rw [List.getElem?_set_self hzn] at hu
            cases hu
            exact ax_leV_ok bx_nil (bx_cov_ok r 0 z.toNat b hc6 hb (by omega) (by omega)) (bx_pl_ok he hg)
          · rw [List.getElem?_set_ne (fun h => hkz h.symm)] at hu
            exact hv k b u hb hu
        · rw [List.getElem?_set_ne (fun h => hcc h.symm)]
          exact hin.2 c' t' r' hI'
      · refine hX w _ (fun c' k' hc' => bx_rd_set_ne hc1 hw ?_) hx
        rintro ⟨rfl, rfl⟩
        obtain ⟨q, hq, g1, g2, g3⟩ := hc'
        exact bx_clear_ok hc4 hq g1 (by omega) (by omega) g2 g3
      · have hold : ∀ q ∈ kn.filter (fun q => !decide (q.1 = c) || bx_apart env q.2.1 i), bx_kn xs vs' (w.set c (t, cs.set z.toNat v)) q := by
          intro q hq
          obtain ⟨hm, hf⟩ := List.mem_filter.mp hq
          obtain ⟨zq, e1, e2⟩ := hk q hm
          refine ⟨zq, x1.ixz e1, fun u hu0 hu => ?_⟩
          refine x1.g (e2 u hu0 ?_)
          rw [bx_rd_set_ne hc1 hw] at hu
          · exact hu
          · rintro ⟨rfl, hkz⟩
            simp only [decide_true, Bool.not_true, Bool.false_or] at hf
            exact bx_apart_ok he e1 hi hf (by omega)
        unfold bx_kst
        split
        · rename_i j hj
          intro q hq
          rcases List.mem_cons.mp hq with rfl | hq
          · refine ⟨z, x1.ixz (hi.2.1 j hj), fun u _ hu => ?_⟩
            rw [bx_rd_set hc1 hw hzn] at hu
            cases hu
            exact x3
          · exact hold q hq
        · exact hold
      · unfold bx_inm at hc5
        rw [Bool.or_eq_true] at hc5
        rcases hc5 with hc5 | hc5
        · exact .inl hc5
        refine .inr (fun c' k' hq => bx_rd_set_ne hc1 hw ?_)
        rintro ⟨rfl, rfl⟩
        obtain ⟨q, hm, hq2⟩ := List.any_eq_true.mp hc5
        simp only [Bool.and_eq_true, decide_eq_true_eq] at hq2
        exact hq q hm ⟨hq2.1.1, by omega, by omega⟩
    · cases h
  · cases h
end BXM
