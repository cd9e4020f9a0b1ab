/-! the second reader's runs hold the machine's -/
section BXR
variable {P : sx_P} {xs : List Int32} {INV : ax_W} {PC : bx_M} {X : sx_W → Prop} {T : List bx_K}
theorem bx_sel_ok {C : bx_C} {reg : Bool} {mi pc d : Nat} {env : ax_N} {l : ax_L} {kn : bx_Kn} {K : bx_K} (h : bx_sel T C reg mi pc d env l kn = some K) : K ∈ T ∧ K.1 = mi ∧ K.2.1 = pc ∧ bx_can C reg d env l kn K = true := by
  unfold bx_sel at h
  have h1 := List.find?_some h
  simp only [Bool.and_eq_true, decide_eq_true_eq] at h1
  exact ⟨List.mem_of_find?_eq_some h, h1.1.1, h1.1.2, h1.2⟩
theorem bx_can_lm {C : bx_C} {d : Nat} {env : ax_N} {l : ax_L} {kn : bx_Kn} {K : bx_K} (h : bx_can C true d env l kn K = true) : bx_subl K.2.2.2.2.2.2.1 C.2.2.2 = true := by
  obtain ⟨mi, pc, pre, prek, exits, mods, lm, dk, ctr⟩ := K
  unfold bx_can at h
  simp only [Bool.and_eq_true, Bool.not_true, Bool.false_or] at h
  exact h.2
theorem bx_isE {st : List ax_V} (h : st.isEmpty = true) : st = [] := by
  cases st with
  | nil => rfl
  | cons a l => cases h
theorem bx_run_ok (hxs : xs.length ≤ 4096) (hX : bx_keeps xs PC X) (hT : ∀ K ∈ T, bx_Kok P xs INV X K) : ∀ (n d : Nat) (mods : bx_M) (lm : List Nat) (M : sx_M) (mi : Nat) (stops : List Nat) (first : Bool) (S : bx_S) (outs : List bx_O), (∀ K ∈ T, K.1 = mi → bx_KokM P xs INV X M K) → bx_run P T n d (INV, PC, mods, lm) M mi stops first S = some outs →
    ∀ (vs : List Int) (lv : sx_L) (st : List Value) (w : sx_W), bx_ok xs INV X vs S lv st w → ∀ d0, d ≤ d0 → bx_out P xs (INV, PC, mods, lm) X stops d0 M outs vs S.2.1 lv st w := by
  intro n
  induction n with
  | zero => intro d mods lm M mi stops first S outs hmi h; cases h
  | succ n ih =>
    intro d mods lm M mi stops first S outs hmi h vs lv st w hok d0 hd
    have hok0 := hok
    obtain ⟨he, hl, hs, hw, hk, hdf⟩ := hok
    unfold bx_run at h
    split at h
    · rename_i hst
      split at h
      · rename_i hemp
        cases h
        have e := bx_isE hemp
        rw [e] at hs
        have hs' : st = [] := hs
        subst hs'
        exact ⟨_, List.mem_singleton.mpr rfl, vs, bx_ext.rf, lv, w, bx_fw.rf, ⟨he, hl, by rw [e]; exact rfl, hw, hk, hdf⟩, bx_fl.rf, hst.2, fun res hres => hres⟩
      · cases h
    · split at h
      · rename_i K hsel
        split at hsel
        · cases hsel
        · rename_i hfe
          obtain ⟨hm, h1, h2, h3⟩ := bx_sel_ok hsel
          have hst : st = [] := by
            have e : S.2.2.2.1.isEmpty = true := by
              cases hb : S.2.2.2.1.isEmpty with
              | true => rfl
              | false => exact absurd (Or.inr hb) hfe
            have e2 := bx_isE e
            rw [e2] at hs
            exact hs
          subst hst
          obtain ⟨e, hem, vs', lv', w', x1, fw, hmt⟩ := bx_aft_ok (C := (INV, PC, mods, lm)) (hmi K hm h1) hd h3 he hl hw hk hdf
          obtain ⟨x, hx, hxm⟩ := bx_all_mem h e hem
          generalize hq : bx_aft K S.1 S.2.2.1 S.2.2.2.2.1 S.2.2.2.2.2 e = q at hx hmt
          obtain ⟨r, S'⟩ := q
          rw [h2] at hmt
          match r, hx, hmt with
          | none, hx, hmt =>
            obtain ⟨g1, g2, g3⟩ := hmt
            exact bx_out_back x1 (bx_subl_ok (bx_can_lm h3) g2) fw g3 hxm (ih d mods lm M mi stops false S' x hmi hx vs' lv' [] w' g1 d0 hd)
          | some r, hx, hmt =>
            cases hx
            obtain ⟨g1, rv, g2, g3⟩ := hmt
            exact ⟨_, hxm _ (List.mem_singleton.mpr rfl), vs', x1, lv', w', fw, g1, rv, g2, g3⟩
      · split at h
        · cases h
        · rename_i E hE
          have hEp : E.1 = S.2.1 := by
            have hE' := hE
            unfold sx_row at hE'
            rw [sx_fnd_eq] at hE'
            simpa using List.find?_some hE'
          split at h
          · rename_i hr
            cases hq : bx_ret S.1 M.2.2.2.1 E.2.1 S.2.2.2.1 with
            | none => rw [hq] at h; cases h
            | some r =>
              rw [hq] at h
              cases h
              obtain ⟨rv, g1, g2⟩ := bx_ret_ok he hq hs
              exact ⟨_, List.mem_singleton.mpr rfl, vs, bx_ext.rf, lv, w, bx_fw.rf, ⟨he, hw, hk, hdf⟩, rv, g2, sx_rn_ret hE hr g1⟩
          · rename_i hr
            have hr' : sx_isRet E.2.1 = false := by simpa using hr
            split at h
            · rename_i hc
              rw [sx_nth_eq] at h
              cases hM' : P.2.2.2.1[E.2.2.2.1]? with
              | none => rw [hM'] at h; cases h
              | some M' =>
                rw [hM'] at h
                cases d with
                | zero => cases h
                | succ d' =>
                dsimp only at h
                split at h
                · rename_i hcok
                  have hck := bx_callOk_ok hw.1 hs hcok
                  obtain ⟨d1, rfl⟩ : ∃ d1, d0 = d1 + 1 := ⟨d0 - 1, by omega⟩
                  have hav : bx_gs vs (S.2.2.2.1.take M'.2.2.2.2.1).reverse (st.take M'.2.2.2.2.1).reverse := bx_gs_rev (bx_gs_take _ hs)
                  have hrest : bx_gs vs (S.2.2.2.1.drop M'.2.2.2.2.1) (st.drop M'.2.2.2.2.1) := bx_gs_drop _ hs
                  have hargs : bx_gl vs (ax_args 0 (S.2.2.2.1.take M'.2.2.2.2.1).reverse) (lv_args 0 (st.take M'.2.2.2.2.1).reverse) := fun q hq => (bx_args_ok 0 hav q hq).2
                  have call : ∀ (r : Option ax_V) (S' : bx_S) (vs' : List Int) (w' : sx_W) (rv : Option Value) (x : List bx_O), bx_ext vs vs' → bx_fw xs mods w w' → bx_okW xs INV X vs' S' w' → bx_go vs' r rv → sx_rn P xs d1 M' 0 (lv_args 0 (st.take M'.2.2.2.2.1).reverse) [] w (rv, w') →
                      bx_run P T n (d' + 1) (INV, PC, mods, lm) M mi stops false (S'.1, S.2.1 + 3, S.2.2.1, r.toList ++ S.2.2.2.1.drop M'.2.2.2.2.1, S'.2.2.2.2) = some x → (∀ y ∈ x, y ∈ outs) → bx_out P xs (INV, PC, mods, lm) X stops (d1 + 1) M outs vs S.2.1 lv st w := by
                    intro r S' vs' w' rv x x1 fw g1 g2 g3 hx hxm
                    obtain ⟨j1, j2, j3, j4⟩ := g1
                    refine bx_out_back x1 bx_fl.rf fw (fun res hres => sx_rn_call hE hr' hc hM' hck g3 hres) hxm (ih (d' + 1) mods lm M mi stops false _ x hmi hx vs' lv _ w' ⟨j1, x1.gl hl, bx_gs_app (bx_go_list g2) (x1.gs hrest), j2, j3, j4⟩ (d1 + 1) hd)
                  split at h
                  · rename_i K hsel
                    obtain ⟨hm, h1, h2, h3⟩ := bx_sel_ok hsel
                    obtain ⟨e, hem, vs', lv', w', x1, fw, hmt⟩ := bx_aft_ok (C := (INV, PC, mods, lm)) (df := S.2.2.2.2.2) (d0 := d1) (hT K hm M' (by rw [h1]; exact hM')) (by omega) h3 he hargs hw hk hdf
                    obtain ⟨x, hx, hxm⟩ := bx_all_mem h e hem
                    have hind : bx_aft K S.1 [] S.2.2.2.2.1 S.2.2.2.2.2 e = bx_aft K S.1 (ax_args 0 (S.2.2.2.1.take M'.2.2.2.2.1).reverse) S.2.2.2.2.1 S.2.2.2.2.2 e ∨ ∃ S', bx_aft K S.1 [] S.2.2.2.2.1 S.2.2.2.2.2 e = (none, S') := by
                      unfold bx_aft
                      obtain ⟨ret, rest⟩ := e
                      match ret with
                      | none => exact .inr ⟨_, rfl⟩
                      | some none => exact .inl rfl
                      | some (some a) => exact .inl rfl
                    rcases hind with hind | ⟨S', hind⟩
                    · rw [hind] at hx
                      generalize hq : bx_aft K S.1 (ax_args 0 (S.2.2.2.1.take M'.2.2.2.2.1).reverse) S.2.2.2.2.1 S.2.2.2.2.2 e = q at hx hmt
                      obtain ⟨r, S'⟩ := q
                      rw [h2] at hmt
                      match r, hx, hmt with
                      | none, hx, hmt => cases hx
                      | some r, hx, hmt =>
                        obtain ⟨g1, rv, g2, g3⟩ := hmt
                        exact call r S' vs' w' rv x x1 fw g1 g2 g3 hx hxm
                    · rw [hind] at hx
                      cases hx
                  · split at h
                    · cases h
                    · rename_i os hos
                      obtain ⟨o, hom, vs', x1, lv', w', fw, hmt⟩ := ih d' mods bx_any M' E.2.2.2.1 [] true _ os (fun K hK h1 => hT K hK M' (by rw [h1]; exact hM')) hos vs _ [] w ⟨he, hargs, rfl, hw, hk, hdf⟩ d1 (by omega)
                      obtain ⟨x, hx, hxm⟩ := bx_all_mem h o hom
                      obtain ⟨r, S'⟩ := o
                      match r, hx, hmt with
                      | none, hx, hmt => cases hx
                      | some r, hx, hmt =>
                        obtain ⟨g1, rv, g2, g3⟩ := hmt
                        exact call r S' vs' w' rv x x1 fw g1 g2 g3 hx hxm
                · cases h
            · rename_i hc
              have hc' : sx_isCall E = false := by simpa using hc
              split at h
              · cases h
              · rename_i Ss hSs
                have hSeq : S = (S.1, E.1, S.2.2.1, S.2.2.2.1, S.2.2.2.2.1, S.2.2.2.2.2) := by rw [hEp]
                rw [hSeq] at hSs
                obtain ⟨pc', lv', st', w', hr1, S', hS', e1, vs', x1, g1, g2, g3⟩ := bx_step_ok (C := (INV, PC, mods, lm)) (X := X) hxs hX hSs ⟨he, hl, hs, hw, hk, hdf⟩
                obtain ⟨x, hx, hxm⟩ := bx_all_mem h S' hS'
                refine bx_out_back x1 g2 g3 (fun res hres => sx_rn_step hE hr' hc' hr1 ⟨rfl, rfl⟩ hres) hxm ?_
                rw [← e1]
                exact ih d mods lm M mi stops false S' x hmi hx vs' lv' st' w' g1 d0 hd
end BXR
