/-! the reader's steps at the heap, and one theorem of its step -/
theorem ax_fit_ok {xs : List Int32} {env : ax_N} {ty : FieldType} {a : ax_V} {v : Value} (he : ax_env xs env) (hg : ax_g xs a v) (h : ax_fit env ty a = true) : sx_fit ty v = true := by
  cases ty with
  | int =>
    obtain ⟨x, rfl⟩ := ax_isI he hg h
    simp [sx_fit, narrow, fits]
  | boolean =>
    unfold ax_fit at h
    dsimp only at h
    split at h
    · rename_i p hp
      obtain ⟨x, rfl, h1, h2⟩ := ax_iv_ok he hg hp
      rw [Bool.and_eq_true, decide_eq_true_eq, decide_eq_true_eq] at h
      have hx : x = 0 ∨ x = 1 := by
        rcases (show x.toInt = 0 ∨ x.toInt = 1 by omega) with e | e
        · exact Or.inl (Int32.toInt_inj.mp e)
        · exact Or.inr (Int32.toInt_inj.mp e)
      rcases hx with rfl | rfl <;> decide
    · cases h
  | long =>
    obtain ⟨x, rfl⟩ := (ax_tag hg).2.2.1 (by simpa [ax_fit] using h)
    simp [sx_fit, narrow, fits]
  | object n =>
    have := (ax_tag hg).2.2.2.1 (by simpa [ax_fit] using h)
    subst this
    simp [sx_fit, narrow, fits]
  | array t =>
    have := (ax_tag hg).2.2.2.1 (by simpa [ax_fit] using h)
    subst this
    simp [sx_fit, narrow, fits]
  | byte => cases h
  | char => cases h
  | short => cases h
  | float => cases h
  | double => cases h
theorem ax_dv_ok {xs : List Int32} {t : FieldType} (h : ax_nofp t = true) : ax_g xs (ax_dv t) (defaultValue t) := by
  cases t <;> first | (cases h; done) | exact rfl | exact ⟨0, rfl, by decide, by decide⟩
theorem ax_rep_ok {xs : List Int32} {f : Nat → ax_V} {g : Nat → Value} : ∀ (n i : Nat), (∀ j, i ≤ j → j < i + n → ax_g xs (f j) (g j)) → ax_seg xs (ax_rep f i n) ((List.range' i n).map g)
  | 0, i, h => rfl
  | n + 1, i, h => by
    rw [List.range'_succ, List.map_cons]
    refine ax_seg_con (by simp) (fun v hv => ?_) (ax_rep_ok n (i + 1) (fun j h1 h2 => h j (by omega) (by omega)))
    have : v = g i := by simpa using hv
    rw [this]
    exact h i (Nat.le_refl _) (by omega)
theorem ax_ofNat {n : Nat} (h : n < 2147483648) : (Int32.ofNat n).toInt = (n : Int) := nI_toInt (by simpa using h)
theorem ax_ofNat_le (n : Nat) : (Int32.ofNat n).toInt ≤ (n : Int) := by
  have e : ((Int32.size : Nat) : Int) = 4294967296 := rfl
  rw [Int32.toInt_ofNat', Int.bmod_def, e]
  split <;> omega
theorem ax_ix {i : Int32} {n : Nat} (h1 : 0 ≤ i.toInt) (h2 : i.toInt < (n : Int)) : sx_ix i n = some i.toInt.toNat := by
  unfold sx_ix
  rw [if_neg]
  · rfl
  · intro h
    rcases h with h | h
    · have := Int32.lt_iff_toInt_lt.mp h
      rw [Int32.toInt_zero] at this
      omega
    · have : n ≤ i.toInt.toNat := h
      omega
theorem ax_nonneg {i : Int32} (h : 0 ≤ i.toInt) : ¬ i < 0 := fun c => by
  have := Int32.lt_iff_toInt_lt.mp c
  rw [Int32.toInt_zero] at this
  omega
theorem ax_i8 (x : Int32) : -128 ≤ (x.toInt8.toInt32).toInt ∧ (x.toInt8.toInt32).toInt ≤ 127 := by
  rw [Int8.toInt_toInt32]
  have h1 := Int8.le_toInt x.toInt8
  have h2 := Int8.toInt_lt x.toInt8
  omega
section AXT
variable {xs : List Int32} {P : sx_P} {env : ax_N} {pc : Nat} {l : ax_L} {ast : List ax_V} {aw : ax_W} {c s : Nat} {outs : List ax_S} {lv : sx_L} {st : List Value} {w : sx_W}
theorem ax_aget_ok {t : Nat} (ht : t = 100 ∨ t = 101) (h : ax_aget t env pc l ast aw c s = some outs) (he : ax_env xs env) (hl : ax_gl xs l lv) (hs : ax_gs xs ast st) (hw : ax_gw xs aw w) : ax_res xs c s outs (sx_aget pc lv st w xs t) := by
  unfold ax_aget at h
  split at h
  · rename_i i x r
    obtain ⟨u, v, r', rfl, hi, hx, hr⟩ := ax_gs2 hs
    split at h
    · rename_i p hp
      obtain ⟨i0, rfl, g1, g2⟩ := ax_iv_ok he hi hp
      by_cases h2 : x.1 = 2
      · rw [if_pos h2] at h
        have hv := (ax_tag hx).2.2.2.1 h2
        subst hv
        split at h
        · rename_i t' vs hvs
          obtain ⟨cl, e1, e2, e3⟩ := ax_gw_at hw hvs
          by_cases hc : t' = t ∧ 0 ≤ p.1 ∧ p.2 < (ax_len vs : Int)
          · rw [if_pos hc] at h
            obtain ⟨ct, cvs⟩ := cl
            dsimp only at e2 e3
            have hlen := ax_seg_len e3
            unfold sx_aget
            dsimp only
            rw [e1]
            dsimp only
            rw [if_pos (by rw [e2]; exact hc.1), ax_ix (by omega) (by rw [hlen]; omega)]
            dsimp only
            by_cases hpp : p.1 = p.2
            · rw [if_pos hpp] at h
              split at h
              · rename_i y hy
                have e4 : i0.toInt.toNat = p.1.toNat := by omega
                obtain ⟨v, f1, f2⟩ := ax_seg_nth e3 hy
                by_cases hI : (ax_iv env y).isSome = true
                · rw [if_pos hI] at h
                  obtain ⟨x0, rfl⟩ := ax_isI he f2 hI
                  rw [e4, f1]
                  exact ax_res1 h he hl ⟨f2, hr⟩ hw
                · rw [if_neg hI] at h; cases h
              · cases h
            · rw [if_neg hpp] at h
              split at h
              · rename_i y hy
                have hlt : i0.toInt.toNat < cvs.length := by rw [hlen]; omega
                have hm : cvs[i0.toInt.toNat] ∈ (cvs.drop p.1.toNat).take (p.2.toNat + 1 - p.1.toNat) := by
                  rw [List.mem_iff_getElem?]
                  refine ⟨i0.toInt.toNat - p.1.toNat, ?_⟩
                  rw [List.getElem?_take_of_lt (by omega), List.getElem?_drop, show p.1.toNat + (i0.toInt.toNat - p.1.toNat) = i0.toInt.toNat by omega]
                  exact List.getElem?_eq_getElem hlt
                have f2 := ax_seg_jall he hy (ax_seg_take _ (ax_seg_drop _ e3)) _ hm
                by_cases hI : (ax_iv env y).isSome = true
                · rw [if_pos hI] at h
                  obtain ⟨x0, hx0⟩ := ax_isI he f2 hI
                  rw [List.getElem?_eq_getElem hlt, hx0]
                  rw [hx0] at f2
                  exact ax_res1 h he hl ⟨f2, hr⟩ hw
                · rw [if_neg hI] at h; cases h
              · cases h
          · rw [if_neg hc] at h; cases h
        · cases h
      · rw [if_neg h2] at h
        by_cases h3 : x.1 = 3 ∧ t = 100
        · rw [if_pos h3] at h
          have hv := (ax_tag hx).2.2.2.2 h3.1
          subst hv
          split at h
          · rename_i q hq
            by_cases hc : p.1 = p.2 ∧ 0 ≤ p.1 ∧ p.1 < 8 ∧ p.1 < q.1 ∧ p.1.toNat < env.length
            · rw [if_pos hc] at h
              have h8 := (he 8 q hq).1
              have h9 : (ax_var xs 8).toInt ≤ (xs.length : Int) := ax_ofNat_le _
              unfold sx_aget
              dsimp only
              rw [if_pos h3.2, ax_ix (by omega) (by omega)]
              dsimp only
              refine ax_res1 h he hl ⟨?_, hr⟩ hw
              show Value.int (xs.getD i0.toInt.toNat 0) = .int (ax_var xs p.1.toNat)
              unfold ax_var
              rw [if_neg (by omega), show i0.toInt.toNat = p.1.toNat by omega]
            · rw [if_neg hc] at h; cases h
          · cases h
        · rw [if_neg h3] at h; cases h
    · cases h
  · cases h
theorem ax_nar_ok {t : Nat} {q : Int × Int} {a : ax_V} {x : Int32} (hx : ax_g xs a (.int x)) (h1 : q.1 ≤ x.toInt) (h2 : x.toInt ≤ q.2) : (t = 100 → ax_g xs (ax_nar t q a) (.int x)) ∧ (¬ t = 100 → ax_g xs (ax_nar t q a) (.int (vp_nar .byte x))) := by
  unfold ax_nar
  refine ⟨fun e => by rw [if_pos e]; exact hx, fun e => ?_⟩
  rw [if_neg e]
  by_cases hq : q.1 = q.2
  · rw [if_pos hq, ← ax_one x h1 h2 hq]
    exact ax_g0
  · rw [if_neg hq, vp_nar_byte]
    exact ⟨_, rfl, (ax_i8 x).1, (ax_i8 x).2⟩
theorem ax_aput_ok {t : Nat} {f : Int32 → Int32} (ht : (t = 100 ∧ f = fun x => x) ∨ (t = 101 ∧ f = fun x => vp_nar .byte x)) (h : ax_aput t env pc l ast aw c s = some outs) (he : ax_env xs env) (hl : ax_gl xs l lv) (hs : ax_gs xs ast st) (hw : ax_gw xs aw w) : ax_res xs c s outs (sx_aput pc lv st w t f) := by
  unfold ax_aput at h
  split at h
  · rename_i va i x r
    match st, hs with
    | [], hs => exact hs.elim
    | [_], hs => exact hs.2.elim
    | [_, _], hs => exact hs.2.2.elim
    | u :: v :: z :: r', hs =>
    obtain ⟨hu, hi, hx, hr⟩ := hs
    split at h
    · rename_i p q hp hq
      obtain ⟨i0, rfl, g1, g2⟩ := ax_iv_ok he hi hp
      obtain ⟨x0, rfl, g3, g4⟩ := ax_iv_ok he hu hq
      by_cases h2 : x.1 = 2
      · rw [if_pos h2] at h
        have hv := (ax_tag hx).2.2.2.1 h2
        subst hv
        split at h
        · rename_i t' vs hvs
          obtain ⟨cl, e1, e2, e3⟩ := ax_gw_at hw hvs
          by_cases hc : t' = t ∧ 0 ≤ p.1 ∧ p.2 < (ax_len vs : Int)
          · rw [if_pos hc] at h
            obtain ⟨ct, cvs⟩ := cl
            dsimp only at e2 e3
            have hlen := ax_seg_len e3
            have hgf : ax_g xs (ax_nar t q va) (.int (f x0)) := by
              have hh := ax_nar_ok (t := t) hu g3 g4
              rcases ht with ⟨h1, rfl⟩ | ⟨h1, rfl⟩
              · exact hh.1 h1
              · exact hh.2 (by omega)
            unfold sx_aput
            dsimp only
            rw [e1]
            dsimp only
            rw [if_pos (by rw [e2]; exact hc.1), ax_ix (by omega) (by rw [hlen]; omega)]
            dsimp only
            by_cases hpp : p.1 = p.2
            · rw [if_pos hpp] at h
              refine ax_res1 h he hl hr (ax_gw_set hw e2 ?_)
              rw [show p.1.toNat = i0.toInt.toNat by omega]
              exact ax_seg_put e3 (by rw [hlen]; omega) hgf
            · rw [if_neg hpp] at h
              split at h
              · rename_i vs' hvs'
                refine ax_res1 h he hl hr (ax_gw_set hw e2 ?_)
                exact ax_seg_weak he hvs' e3 hgf (by omega) (by omega) (by rw [hlen]; omega)
              · cases h
          · rw [if_neg hc] at h; cases h
        · cases h
      · rw [if_neg h2] at h; cases h
    · cases h
  · cases h
theorem ax_sg_ok {a : ax_V} {v : Value} {n : Nat} (he : ax_env xs env) (hg : ax_g xs a v) (h : ax_sg env a = some n) : ∃ x : Int32, v = .int x ∧ ¬ x < 0 ∧ x.toNatClampNeg = n := by
  unfold ax_sg at h
  split at h
  · rename_i p hp
    obtain ⟨x, rfl, h1, h2⟩ := ax_iv_ok he hg hp
    by_cases hc : p.1 = p.2 ∧ 0 ≤ p.1
    · rw [if_pos hc] at h
      cases h
      exact ⟨x, rfl, ax_nonneg (by omega), by show x.toInt.toNat = _; omega⟩
    · rw [if_neg hc] at h; cases h
  · cases h
theorem ax_copy_ok (h : ax_copy env pc l ast aw c s = some outs) (he : ax_env xs env) (hl : ax_gl xs l lv) (hs : ax_gs xs ast st) (hw : ax_gw xs aw w) : ax_res xs c s outs (sx_copy pc lv st w) := by
  unfold ax_copy at h
  split at h
  · rename_i n dp x1 sp x0 r
    match st, hs with
    | [], hs => exact hs.elim
    | [_], hs => exact hs.2.elim
    | [_, _], hs => exact hs.2.2.elim
    | [_, _, _], hs => exact hs.2.2.2.elim
    | [_, _, _, _], hs => exact hs.2.2.2.2.elim
    | vn :: vd :: v1 :: vs :: v0 :: r', hs =>
    obtain ⟨hn, hd, h1, hsp, h0, hr⟩ := hs
    split at h
    · rename_i n' dp' sp' en ed es
      obtain ⟨xn, rfl, an, bn⟩ := ax_sg_ok he hn en
      obtain ⟨xd, rfl, ad, bd⟩ := ax_sg_ok he hd ed
      obtain ⟨xp, rfl, as, bs⟩ := ax_sg_ok he hsp es
      by_cases hc : x0.1 = 2 ∧ x1.1 = 2 ∧ ax_csum r ≤ 8
      · rw [if_pos hc] at h
        have e0 := (ax_tag h0).2.2.2.1 hc.1
        have e1 := (ax_tag h1).2.2.2.1 hc.2.1
        subst e0; subst e1
        split at h
        · rename_i t0 f t1 g hf hg
          by_cases hc2 : t0 = 100 ∧ t1 = 100 ∧ sp' + n' ≤ ax_len f ∧ dp' + n' ≤ ax_len g
          · rw [if_pos hc2] at h
            obtain ⟨⟨c0, cf⟩, f1, f2, f3⟩ := ax_gw_at hw hf
            obtain ⟨⟨c1, cg⟩, g1, g2, g3⟩ := ax_gw_at hw hg
            dsimp only at f2 f3 g2 g3
            have lf := ax_seg_len f3
            have lg := ax_seg_len g3
            unfold sx_copy
            dsimp only
            rw [f1, g1]
            dsimp only
            rw [bn, bd, bs, if_pos ⟨by rw [f2]; exact hc2.1, by rw [g2]; exact hc2.2.1, as, ad, an, by omega, by omega, by rw [ax_gs_csum hr]; exact hc.2.2⟩]
            exact ax_res1 h he hl hr (ax_gw_set hw g2 (ax_seg_app (ax_seg_take _ g3) (ax_seg_app (ax_seg_take _ (ax_seg_drop _ f3)) (ax_seg_drop _ g3))))
          · rw [if_neg hc2] at h; cases h
        · cases h
      · rw [if_neg hc] at h; cases h
    · cases h
  · cases h
theorem ax_mm_ok {up : Bool} {f : Int32 → Int32 → Int32} (hf : (up = true ∧ f = fun x y => if x < y then y else x) ∨ (up = false ∧ f = fun x y => if y < x then y else x)) (h : ax_mm up env pc l ast aw c s = some outs) (he : ax_env xs env) (hl : ax_gl xs l lv) (hs : ax_gs xs ast st) (hw : ax_gw xs aw w) : ax_res xs c s outs (sx_mm pc lv st w f) := by
  unfold ax_mm at h
  split at h
  · rename_i b a r
    obtain ⟨u, v, r', rfl, hb, ha, hr⟩ := ax_gs2 hs
    split at h
    · rename_i p q hp hq
      obtain ⟨x, rfl, g1, g2⟩ := ax_iv_ok he ha hp
      obtain ⟨y, rfl, g3, g4⟩ := ax_iv_ok he hb hq
      by_cases hc : ax_csum r ≤ 8
      · rw [if_pos hc] at h
        unfold sx_mm
        dsimp only
        rw [if_pos (by rw [ax_gs_csum hr]; exact hc)]
        refine ax_res1 h he hl ⟨?_, hr⟩ hw
        rcases hf with ⟨rfl, rfl⟩ | ⟨rfl, rfl⟩
        · by_cases hxy : x < y
          · have := Int32.lt_iff_toInt_lt.mp hxy
            refine ⟨y, by dsimp only; rw [if_pos hxy], ?_, ?_⟩
            · show max p.1 q.1 ≤ _; omega
            · show _ ≤ max p.2 q.2; omega
          · have : ¬ x.toInt < y.toInt := fun c => hxy (Int32.lt_iff_toInt_lt.mpr c)
            refine ⟨x, by dsimp only; rw [if_neg hxy], ?_, ?_⟩
            · show max p.1 q.1 ≤ _; omega
            · show _ ≤ max p.2 q.2; omega
        · by_cases hxy : y < x
          · have := Int32.lt_iff_toInt_lt.mp hxy
            refine ⟨y, by dsimp only; rw [if_pos hxy], ?_, ?_⟩
            · show min p.1 q.1 ≤ _; omega
            · show _ ≤ min p.2 q.2; omega
          · have : ¬ y.toInt < x.toInt := fun c => hxy (Int32.lt_iff_toInt_lt.mpr c)
            refine ⟨x, by dsimp only; rw [if_neg hxy], ?_, ?_⟩
            · show min p.1 q.1 ≤ _; omega
            · show _ ≤ min p.2 q.2; omega
      · rw [if_neg hc] at h; cases h
    · cases h
  · cases h
end AXT
