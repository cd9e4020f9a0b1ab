/-! rows copied; the greater and the smaller of two -/
theorem bx_splice {α : Type} (f g : List α) (s d n k : Nat) (hs : s + n ≤ f.length) (hd : d + n ≤ g.length) : (g.take d ++ ((f.drop s).take n ++ g.drop (d + n)))[k]? = if d ≤ k ∧ k < d + n then f[s + (k - d)]? else g[k]? := by
  have h1 : (g.take d).length = d := by rw [List.length_take]; omega
  have h2 : ((f.drop s).take n).length = n := by rw [List.length_take, List.length_drop]; omega
  by_cases hk : k < d
  · rw [if_neg (by omega), List.getElem?_append_left (by omega), List.getElem?_take_of_lt hk]
  · rw [List.getElem?_append_right (by omega), h1]
    by_cases hk2 : k < d + n
    · rw [if_pos ⟨by omega, hk2⟩, List.getElem?_append_left (by omega), List.getElem?_take_of_lt (by omega), List.getElem?_drop]
    · rw [if_neg (by omega), List.getElem?_append_right (by omega), h2, List.getElem?_drop]
      congr 1
      omega
def bx_sg (env : ax_N) (a : ax_V) : Option Nat := match bx_iv env a with
  | some p => if p.1 = p.2 ∧ 0 ≤ p.1 then some p.1.toNat else none
  | none => none
section BXC
variable {xs : List Int32} {INV : ax_W} {X : sx_W → Prop} {PC : bx_M} {mods : bx_M} {lm : List Nat} {vs : List Int} {env : ax_N} {kn : bx_Kn} {df : bx_Df} {w : sx_W} {pc : Nat} {l : ax_L} {ast : List ax_V} {lv : sx_L} {st : List Value} {outs : List bx_S}
theorem bx_clamp {x : Int32} (h : 0 ≤ x.toInt) : ¬ x < 0 ∧ (x.toNatClampNeg : Int) = x.toInt := by
  refine ⟨ax_nonneg h, ?_⟩
  have e : x.toNatClampNeg = x.toInt.toNat := rfl
  rw [e]
  omega
theorem bx_sg_ok {a : ax_V} {v : Value} {n : Nat} (he : bx_env env vs) (hg : bx_g vs a v) (h : bx_sg env a = some n) : ∃ x : Int32, v = .int x ∧ ¬ x < 0 ∧ x.toNatClampNeg = n := by
  unfold bx_sg at h
  split at h
  · rename_i p hp
    obtain ⟨x, e, h1, h2⟩ := bx_iv_ok he hg hp
    split at h
    · rename_i hc
      cases h
      have := bx_clamp (x := x) (by omega)
      exact ⟨x, e, this.1, by omega⟩
    · cases h
  · cases h
theorem bx_csum {l : List ax_V} {st : List Value} : bx_gs vs l st → sx_csum st = ax_csum l := by
  induction l generalizing st with
  | nil => intro h; rw [show st = [] from h]; rfl
  | cons a l ih =>
    intro h
    match st, h with
    | v :: st', h =>
      have e1 : sx_csum (v :: st') = v.category + sx_csum st' := by unfold sx_csum; rw [List.map_cons, List.sum_cons]
      have e2 : ax_csum (a :: l) = ax_cat a + ax_csum l := by unfold ax_csum; rw [List.map_cons, List.sum_cons]
      rw [e1, e2, bx_cat h.1, ih h.2]
def bx_cpok (f g : ax_A) (sp dp : Nat) (q : Int × Int) : Bool := match bx_jr (sp : Int) ((sp : Int) + q.2 - 1) f 0 with
  | some (some a) => bx_cov (ax_leV [] a) (dp : Int) ((dp : Int) + q.2 - 1) g 0
  | some none => decide (q.2 ≤ 0)
  | none => false
def bx_copy (INV : ax_W) (PC : bx_M) (mods : bx_M) (env : ax_N) (pc : Nat) (l : ax_L) (st : List ax_V) (kn : bx_Kn) (df : bx_Df) : Option (List bx_S) := match st with
  | n :: dp :: x1 :: sp :: x0 :: r => match bx_iv env n, bx_sg env dp, bx_sg env sp, INV[x0.2.1.toNat]?, INV[x1.2.1.toNat]? with
    | some q, some d, some s, some (t0, f), some (t1, g) => if x0.1 = 2 ∧ x1.1 = 2 ∧ ax_csum r ≤ 8 ∧ t0 = 100 ∧ t1 = 100 ∧ 0 ≤ q.1 ∧ (s : Int) + q.2 ≤ (ax_len f : Int) ∧ (d : Int) + q.2 ≤ (ax_len g : Int) ∧ x1.2.1.toNat < 100000 ∧ bx_clear PC x1.2.1.toNat ((d : Int), (d : Int) + q.2 - 1) = true ∧ bx_inm mods x1.2.1.toNat ((d : Int), (d : Int) + q.2 - 1) = true ∧ bx_cpok f g s d q = true then
        bx_1 env (pc + 3) l r (kn.filter (fun k => !decide (k.1 = x1.2.1.toNat))) df else none
    | _, _, _, _, _ => none
  | _ => none
theorem bx_copy_ok (hX : bx_keeps xs PC X) (h : bx_copy INV PC mods env pc l ast kn df = some outs) (hA : bx_at0 xs INV X vs env l ast kn df lv st w) : bx_res xs INV X mods lm vs lv w outs (sx_copy pc lv st w) := by
  unfold bx_copy at h
  split at h
  · rename_i n dp x1 sp x0 r
    obtain ⟨he, hl, hs, hw, hk, hd⟩ := hA
    match st, hs with
    | [], hs => exact hs.elim
    | [_], hs => exact hs.2.elim
    | [_, _], hs => exact hs.2.2.elim
    | [_, _, _], hs => exact hs.2.2.2.elim
    | [_, _, _, _], hs => exact hs.2.2.2.2.elim
    | vn :: vd :: v1 :: v2 :: v0 :: r', hs =>
    obtain ⟨hn, hdp, h1, hsp, h0, hr⟩ := hs
    split at h
    · rename_i q d s t0 f t1 g hq ed es hf hg
      obtain ⟨xn, rfl, an, bn⟩ := bx_iv_ok he hn hq
      obtain ⟨xd, rfl, ad, bd⟩ := bx_sg_ok he hdp ed
      obtain ⟨xp, rfl, as, bs⟩ := bx_sg_ok he hsp es
      split at h
      · rename_i hc
        obtain ⟨c1, c2, c3, rfl, rfl, c6, c7, c8, c9, c10, c11, c12⟩ := hc
        have e0 := (bx_tag h0).2.2.1 c1
        have e1 := (bx_tag h1).2.2.1 c2
        subst e0; subst e1
        generalize x0.2.1.toNat = a0 at hf h ⊢
        generalize x1.2.1.toNat = a1 at hg h c9 c10 c11 ⊢
        obtain ⟨fv, f1, f2, f3⟩ := hw.1.2 a0 100 f hf
        obtain ⟨gv, g1, g2, g3⟩ := hw.1.2 a1 100 g hg
        have hcl := bx_clamp (x := xn) (by omega)
        have l1 : s + xn.toNatClampNeg ≤ fv.length := by omega
        have l2 : d + xn.toNatClampNeg ≤ gv.length := by omega
        unfold sx_copy
        dsimp only
        rw [f1, g1]
        dsimp only
        rw [bd, bs, if_pos ⟨rfl, rfl, as, ad, hcl.1, l1, l2, by rw [bx_csum hr]; exact c3⟩]
        generalize xn.toNatClampNeg = N at hcl l1 l2 ⊢
        have hlen : (gv.take d ++ ((fv.drop s).take N ++ gv.drop (d + N))).length = gv.length := by
          rw [List.length_append, List.length_append, List.length_take, List.length_take, List.length_drop, List.length_drop]
          omega
        have hal : a1 < w.length := (List.getElem?_eq_some_iff.mp g1).1
        have hother : ∀ c k : Nat, ¬ (c = a1 ∧ d ≤ k ∧ k < d + N) → bx_rd xs (w.set a1 (100, gv.take d ++ ((fv.drop s).take N ++ gv.drop (d + N)))) c k = bx_rd xs w c k := by
          intro c k hne
          by_cases hc : c = a1
          · subst hc
            rw [bx_rd_w c9, bx_rd_w c9, List.getElem?_set_self hal, g1]
            show (gv.take d ++ ((fv.drop s).take N ++ gv.drop (d + N)))[k]? = gv[k]?
            rw [bx_splice fv gv s d N k l1 l2, if_neg (fun h => hne ⟨rfl, h⟩)]
          · unfold bx_rd
            rw [List.getElem?_set_ne (fun h => hc h.symm)]
        cases h
        refine ⟨_, _, _, _, rfl, _, List.mem_singleton.mpr rfl, rfl, vs, bx_ext.rf, ⟨he, hl, hr, ⟨⟨by rw [List.length_set]; exact hw.1.1, fun c' t' r' hI' => ?_⟩, ?_⟩, fun q' hq' => ?_, hd⟩, bx_fl.rf, ?_⟩
        · by_cases hcc : c' = a1
          · subst hcc
            rw [hg] at hI'
            cases hI'
            refine ⟨_, List.getElem?_set_self hal, by rw [hlen]; exact g2, fun k b u hb hu => ?_⟩
            rw [bx_splice fv gv s d N k l1 l2] at hu
            split at hu
            · rename_i hkk
              obtain ⟨a, ha⟩ := bx_nth_len f (s + (k - d)) (by omega)
              have hfa := f3 _ _ _ ha hu
              unfold bx_cpok at c12
              split at c12
              · rename_i a' hj
                obtain ⟨c0, e1, e2⟩ := bx_jr_ok f 0 _ (s + (k - d)) a hj ha (by omega) (by omega)
                cases e1
                exact ax_leV_ok bx_nil (bx_cov_ok g 0 k b c12 hb (by omega) (by omega)) (e2 _ hfa)
              · have := of_decide_eq_true c12
                omega
              · cases c12
            · exact g3 k b u hb hu
          · rw [List.getElem?_set_ne (fun h => hcc h.symm)]
            exact hw.1.2 c' t' r' hI'
        · refine hX w _ (fun c' k' hc' => hother c' k' ?_) hw.2
          rintro ⟨rfl, hk1, hk2⟩
          obtain ⟨q', hq', g1', g2', g3'⟩ := hc'
          exact bx_clear_ok c10 hq' g1' (by dsimp only; omega) (by dsimp only; omega) g2' g3'
        · obtain ⟨hm, hf'⟩ := List.mem_filter.mp hq'
          obtain ⟨zq, e1, e2⟩ := hk q' hm
          refine ⟨zq, e1, fun u hu0 hu => e2 u hu0 ?_⟩
          rw [hother] at hu
          · exact hu
          · rintro ⟨h1, -⟩
            simp [h1] at hf'
        · unfold bx_inm at c11
          rw [Bool.or_eq_true] at c11
          rcases c11 with c11 | c11
          · exact .inl c11
          refine .inr fun c k hno => hother c k ?_
          rintro ⟨rfl, hk1, hk2⟩
          obtain ⟨q', hm, hq2⟩ := List.any_eq_true.mp c11
          simp only [Bool.and_eq_true, decide_eq_true_eq] at hq2
          exact hno q' hm ⟨hq2.1.1, by omega, by omega⟩
      · cases h
    · cases h
  · cases h
def bx_mm (up : Bool) (env : ax_N) (pc : Nat) (l : ax_L) (st : List ax_V) (kn : bx_Kn) (df : bx_Df) : Option (List bx_S) := match st with
  | b :: a :: r => match bx_iv env a, bx_iv env b with
    | some p, some q => if ax_csum r ≤ 8 then (if up = true then bx_1 (bx_fr env (0, max p.1 q.1, max p.2 q.2)).1 (pc + 3) l ((bx_fr env (0, max p.1 q.1, max p.2 q.2)).2 :: r) kn (bx_ge (bx_fr env (0, max p.1 q.1, max p.2 q.2)).2 a 0 ++ df)
        else bx_1 (bx_fr env (0, min p.1 q.1, min p.2 q.2)).1 (pc + 3) l ((bx_fr env (0, min p.1 q.1, min p.2 q.2)).2 :: r) kn df) else none
    | _, _ => none
  | _ => none
theorem bx_mm_ok {up : Bool} {f : Int32 → Int32 → Int32} (hf : (up = true ∧ f = fun x y => if x < y then y else x) ∨ (up = false ∧ f = fun x y => if y < x then y else x)) (h : bx_mm up env pc l ast kn df = some outs) (hA : bx_at0 xs INV X vs env l ast kn df lv st w) : bx_res xs INV X mods lm vs lv w outs (sx_mm pc lv st w f) := by
  unfold bx_mm at h
  split at h
  · rename_i b a r
    obtain ⟨u, v, r', rfl, hb, ha, hr⟩ := bx_gs2 hA.2.2.1
    obtain ⟨he, hl, hs, hw, hk, hd⟩ := hA
    split at h
    · rename_i p q hp hq
      obtain ⟨x, rfl, g1, g2⟩ := bx_iv_ok he ha hp
      obtain ⟨y, rfl, g3, g4⟩ := bx_iv_ok he hb hq
      split at h
      · rename_i hc
        unfold sx_mm
        dsimp only
        rw [if_pos (by rw [bx_csum hr]; exact hc)]
        rcases hf with ⟨rfl, rfl⟩ | ⟨rfl, rfl⟩
        · rw [if_pos rfl] at h
          have hm : bx_g vs (0, max p.1 q.1, max p.2 q.2) (.int (if x < y then y else x)) ∧ x.toInt ≤ (if x < y then y else x).toInt := by
            by_cases hxy : x < y
            · have := Int32.lt_iff_toInt_lt.mp hxy
              rw [if_pos hxy]
              exact ⟨bx_g0 (by omega) (by omega), by omega⟩
            · have : ¬ x.toInt < y.toInt := fun c => hxy (Int32.lt_iff_toInt_lt.mpr c)
              rw [if_neg hxy]
              exact ⟨bx_g0 (by omega) (by omega), Int.le_refl _⟩
          obtain ⟨vs', x1, x2, x3⟩ := bx_fr_ext he hm.1
          cases h
          refine ⟨_, _, _, _, rfl, _, List.mem_singleton.mpr rfl, rfl, vs', x1, ⟨x2, x1.gl hl, ⟨x3, x1.gs hr⟩, hw, x1.kn hk, fun q hq => ?_⟩, bx_fl.rf, bx_fw.rf⟩
          rcases List.mem_append.mp hq with hq | hq
          · exact bx_ge_ok x3 (x1.g ha) (by have := hm.2; omega) q hq
          · exact x1.df hd q hq
        · rw [if_neg (by decide)] at h
          have hm : bx_g vs (0, min p.1 q.1, min p.2 q.2) (.int (if y < x then y else x)) := by
            by_cases hxy : y < x
            · have := Int32.lt_iff_toInt_lt.mp hxy
              rw [if_pos hxy]
              exact bx_g0 (by omega) (by omega)
            · have : ¬ y.toInt < x.toInt := fun c => hxy (Int32.lt_iff_toInt_lt.mpr c)
              rw [if_neg hxy]
              exact bx_g0 (by omega) (by omega)
          obtain ⟨vs', x1, x2, x3⟩ := bx_fr_ext he hm
          cases h
          exact ⟨_, _, _, _, rfl, _, List.mem_singleton.mpr rfl, rfl, vs', x1, ⟨x2, x1.gl hl, ⟨x3, x1.gs hr⟩, hw, x1.kn hk, x1.df hd⟩, bx_fl.rf, bx_fw.rf⟩
      · cases h
    · cases h
  · cases h
end BXC
