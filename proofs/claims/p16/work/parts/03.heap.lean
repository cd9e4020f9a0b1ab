/-! steps that touch the heap -/
theorem sx_fit_sh {ty : FieldType} {v : Value} (N0 b : Nat) (h : sx_fit ty v = true) : narrow ty (sx_sh N0 b v) = sx_sh N0 b v ∧ fits ty (sx_sh N0 b v) = true := by
  unfold sx_fit at h
  rw [Bool.and_eq_true, decide_eq_true_eq] at h
  obtain ⟨h1, h2⟩ := h
  cases v with
  | retAddr q => cases ty <;> simp [fits] at h2
  | ref q => cases ty <;> first | exact ⟨rfl, rfl⟩ | (simp [fits] at h2)
  | _ => exact ⟨h1, h2⟩
theorem sx_dflt_sh (N0 b : Nat) (t : FieldType) : sx_sh N0 b (defaultValue t) = defaultValue t := by cases t <;> rfl
theorem sx_arrV_ext {cI : ClassId} {n : Nat} {f g : Nat → Value} (h : ∀ j, j < n → f j = g j) : arrV cI n f = arrV cI n g := by
  unfold arrV
  congr 1
  apply congrArg
  funext j
  exact h j.val j.isLt
theorem sx_nar_b (x : Int32) : narrow .byte (.int x) = .int (vp_nar .byte x) := rfl
section SXH
variable {p : Program} {l : Launch} {e : Env} {R : Room} {s : State} {m : MethodId} {args : Array Value} {below : List Frame} {meth : Method} {c : Code} {Q : State → Prop}
variable {P : sx_P} {D : va_G} {cA : Nat → ClassId} {N0 b nL : Nat} {xs : List Int32} {own : String} {cc : ByteArray}
theorem sx_getf_G (hF : sx_Fx P D cA N0 b nL xs own cc p R s m args c) (hO : sx_kindOk P) {pc i ci k q : Nat} {z : Int} {lv : sx_L} {st : List Value} {w : sx_W} {r : sx_R} {cells slots : Nat} (hd : decode cc pc = .ok (.getfield i, 3)) (hp : sx_pool P own false (pc, .getfield i, 3, ci, k, q, z) = true)
    (hs : sx_getf pc lv st w ci k = some r) (kk : sx_G p l e R s m args below meth c Q P D cA N0 b nL (cells + r.2.2.2.2.1) (slots + r.2.2.2.2.2) r.2.2.2.1 r.1 r.2.1 r.2.2.1) : sx_G p l e R s m args below meth c Q P D cA N0 b nL cells slots w pc lv st := by
  unfold sx_getf at hs
  split at hs
  · rename_i a rest
    split at hs
    · rename_i c0 fs hw
      by_cases hc : c0 = ci ∧ ci < 100
      · rw [if_pos hc] at hs
        obtain ⟨rfl, hci⟩ := hc
        split at hs
        · rename_i v hv
          cases hs
          intro H locs ls hH hS hl
          simp only [sx_pool] at hp
          split at hp
          · rename_i C T N hcl
            simp only [Bool.and_eq_true, decide_eq_true_eq] at hp
            obtain ⟨⟨hk, hlink⟩, hT⟩ := hp
            obtain ⟨h1, h2, h3⟩ := hO c0 _ hcl
            refine va_get (v := sx_sh N0 b v) (ref := C) (index := i) hF.1 hF.2.1 (Ts := u_ws C T N) (fun w hw => ?_) (fun _ h => h) hF.2.2.2.1 hF.2.2.2.2.2.1.1 (sx_obj hH hw hci) 0 rfl hcl k hk (sx_wd_at hF hlink) (fun x hx => by rw [hT] at hx; exact hx) (by rw [List.getElem?_map, hv]; rfl) hd (kk H locs ls hH hS hl)
            obtain ⟨j, hj, rfl⟩ := List.mem_map.mp hw
            exact hF.2.2.2.2.1 _ (h1 j (List.mem_range.mp hj)).1 (h1 j (List.mem_range.mp hj)).2
          · cases hp
        · cases hs
      · rw [if_neg hc] at hs; cases hs
    · cases hs
  · cases hs
theorem sx_putf_G (hF : sx_Fx P D cA N0 b nL xs own cc p R s m args c) (hO : sx_kindOk P) {ini : Bool} (hini : ini = true → meth.name = "<init>") {pc i ci k q : Nat} {z : Int} {lv : sx_L} {st : List Value} {w : sx_W} {r : sx_R} {cells slots : Nat} (hd : decode cc pc = .ok (.putfield i, 3)) (hp : sx_pool P own ini (pc, .putfield i, 3, ci, k, q, z) = true)
    (hs : sx_putf pc lv st w ci k (P.2.2.1 ci k) = some r) (kk : sx_G p l e R s m args below meth c Q P D cA N0 b nL (cells + r.2.2.2.2.1) (slots + r.2.2.2.2.2) r.2.2.2.1 r.1 r.2.1 r.2.2.1) : sx_G p l e R s m args below meth c Q P D cA N0 b nL cells slots w pc lv st := by
  unfold sx_putf at hs
  split at hs
  · rename_i v a rest
    split at hs
    · rename_i c0 fs hw
      by_cases hc : c0 = ci ∧ ci < 100 ∧ k < fs.length ∧ sx_fit (P.2.2.1 ci k) v = true
      · rw [if_pos hc] at hs
        obtain ⟨rfl, hci, hkl, hfit⟩ := hc
        cases hs
        intro H locs ls hH hS hl
        simp only [sx_pool] at hp
        split at hp
        · rename_i C T N hcl
          simp only [Bool.and_eq_true, Bool.or_eq_true, decide_eq_true_eq] at hp
          obtain ⟨⟨⟨hk, hlink⟩, hT⟩, hfin⟩ := hp
          obtain ⟨h1, h2, h3⟩ := hO c0 _ hcl
          obtain ⟨hn, hfi⟩ := sx_fit_sh N0 b hfit
          have hts : ∀ w ∈ u_ws C T N, w.before args s = true := fun w hw => by
            obtain ⟨j, hj, rfl⟩ := List.mem_map.mp hw
            exact hF.2.2.2.2.1 _ (h1 j (List.mem_range.mp hj)).1 (h1 j (List.mem_range.mp hj)).2
          have hK := hF.2.2.2.2.2.1.1
          have hap := va_apart (own := own) hts (fun _ h => h) (P.2.2.1 c0) h2 h3 hK hcl
          have hob := sx_obj hH hw hci
          obtain ⟨r0, g1, cell, q1, q2, q3, q4⟩ := hob 0 _ rfl
          have hr : r0 = (C, T, N) := Option.some.inj (g1.symm.trans hcl)
          subst hr
          obtain ⟨hSl, hfc, kC, hkC, hkind⟩ := hK.1 c0 _ hcl
          obtain ⟨cf, kf, fi, f, hi, hsl⟩ := hSl k hk
          have hlay := hts _ (u_in_lay hk)
          unfold u_lay at hlay
          have hst := (u_facts hfc hkC (u_lays hts (fun _ h => h) hk) hi).1
          have hi' : s.fieldFound? C (T k).2.1 (T k).2.2.1 = some (cf, kf, fi, f) := by have := hi; rw [hT] at this; exact this
          have hlt : f.slot < cell.slots.size := by rw [hsl]; exact k2_hasslot (q4 k hk)
          have fin : ∀ H' : Heap, H'[N0 + a]? = some (cell.setSlot f.slot (sx_sh N0 b v)) → H'.size = H.size → (∀ q, q ≠ N0 + a → H'[q]? = H[q]?) → W p l e R s m args below meth c H' (locs ++ [⟨N0 + a, f.slot⟩]) cells slots Q (F0 m (pc + 3) ls (sx_st N0 b rest)) := by
            intro H' e1 e2 e3
            rw [hsl] at e1
            refine kk H' _ (ls) (hH.put (List.getElem?_eq_some_iff.mp hw).1 e2 ?_ e3) (hS.put e2 e3 (Nat.le_add_right _ _)) hl
            unfold sx_e
            rw [if_pos hci]
            refine ⟨_, hcl, ?_⟩
            rw [List.map_set]
            exact t_OB.to (V := updV (vp_V (fs.map (sx_sh N0 b))) k (sx_sh N0 b v)) ⟨_, e1, q2, q3, t_set q4 hap hk _⟩ (fun j _ => vp_updV_set (by rw [List.length_map]; exact hkl) _ j)
          rcases hfin with hfin | ⟨⟨hin, hCo⟩, hfin⟩
          · rw [if_neg (by rw [hfin]; decide)] at hlay
            have h6 := u_store hfc hkC hkind hlay hi (h2 k hk) hn hfi
            exact W.putK hF.1 hF.2.1 (f := f) ⟨hF.2.2.2.1, sx_wd_at hF hlink, ⟨_, _, _, hi'⟩, hst⟩ (by rw [q2]; exact h6) q1 q3 hlt rfl rfl hd fin
          · rw [if_pos hfin] at hlay
            have hcf : m.cls = cf := by
              obtain ⟨_, _, c', _, _, _, -, -, hf', -, -, -, hown2, -⟩ := Cond.laysFinal_spec hlay
              have e1 : c' = cf := by have := hi.symm.trans hf'; simp at this; exact this.1.symm
              rw [hT, hCo] at hown2
              rw [← e1]; exact Option.some.inj (hF.2.2.2.1.symm.trans hown2)
            have h6 := u_fits hfc hkC hkind (Or.inr hlay) hi (h2 k hk) hn hfi
            exact W.putFinK hF.1 hF.2.1 hF.2.2.2.1 (sx_wd_at hF hlink) hi' hst hcf (hini hin) (by rw [q2]; exact h6) q1 q3 hlt rfl rfl hd fin
        · cases hp
      · rw [if_neg hc] at hs; cases hs
    · cases hs
  · cases hs
theorem sx_vecAt {w : sx_W} {H : Heap} (hH : sx_H P D cA N0 b w H) {a t : Nat} {vs : List Value} (ha : w[a]? = some (100 + t, vs)) : H[N0 + a]? = some (arrV (cA t) vs.length (fun j => .int (sx_toI (vs.getD j .null)))) := sx_vec hH ha 0 _ rfl
theorem sx_aget_G (hF : sx_Fx P D cA N0 b nL xs own cc p R s m args c) {pc t : Nat} {I : Instr} (hI : (I = .iaload ∧ t = 0) ∨ (I = .baload ∧ t = 1)) {lv : sx_L} {st : List Value} {w : sx_W} {r : sx_R} {cells slots : Nat} (hd : decode cc pc = .ok (I, 1))
    (hs : sx_aget pc lv st w xs (100 + t) = some r) (kk : sx_G p l e R s m args below meth c Q P D cA N0 b nL (cells + r.2.2.2.2.1) (slots + r.2.2.2.2.2) r.2.2.2.1 r.1 r.2.1 r.2.2.1) : sx_G p l e R s m args below meth c Q P D cA N0 b nL cells slots w pc lv st := by
  unfold sx_aget at hs
  split at hs
  · rename_i i a rest
    split at hs
    · rename_i c0 vs hw
      by_cases hc : c0 = 100 + t
      · rw [if_pos hc] at hs
        subst hc
        split at hs
        · rename_i j hj
          obtain ⟨hin, hcl, hlt⟩ := sx_ix_inv hj
          split at hs
          · rename_i x hx
            cases hs
            intro H locs ls hH hS hl
            have hP := sx_vec hH hw
            have e : sx_toI (vs.getD i.toNatClampNeg .null) = x := by rw [hcl, List.getD_eq_getElem?_getD, hx]; rfl
            have k1 := kk H locs ls hH hS hl
            rcases hI with ⟨rfl, rfl⟩ | ⟨rfl, rfl⟩
            · exact va_iald hF.1 hF.2.1 hF.2.2.2.2.2.1.1 hP 0 0 rfl rfl hin hd (by rw [← e] at k1; exact k1)
            · exact va_bald hF.1 hF.2.1 hF.2.2.2.2.2.1.1 hP 0 1 rfl rfl hin hd (by rw [← e] at k1; exact k1)
          · cases hs
        · cases hs
      · rw [if_neg hc] at hs; cases hs
    · cases hs
  · rename_i i a rest
    by_cases h0 : 100 + t = 100
    · rw [if_pos h0] at hs
      have ht : t = 0 := by omega
      subst ht
      split at hs
      · rename_i j hj
        obtain ⟨hin, hcl, hlt⟩ := sx_ix_inv hj
        cases hs
        intro H locs ls hH hS hl
        rcases hI with ⟨rfl, -⟩ | ⟨rfl, h⟩
        · have k1 := kk H locs ls hH hS hl
          rw [← hcl] at k1
          exact va_sld hF.1 hF.2.1 hF.2.2.2.2.2.2.2.1 (Nat.lt_of_lt_of_le hF.2.2.2.2.2.2.2.2.1 hF.2.2.2.2.2.2.1) (Nat.not_le.mpr hF.2.2.2.2.2.2.2.2.1) hS hin hd k1
        · cases h
      · cases hs
    · rw [if_neg h0] at hs; cases hs
  · cases hs
theorem sx_aput_G (hF : sx_Fx P D cA N0 b nL xs own cc p R s m args c) {pc t : Nat} {I : Instr} {f : Int32 → Int32} (hI : (I = .iastore ∧ t = 0 ∧ f = fun x => x) ∨ (I = .bastore ∧ t = 1 ∧ f = fun x => vp_nar .byte x)) {lv : sx_L} {st : List Value} {w : sx_W} {r : sx_R} {cells slots : Nat} (hd : decode cc pc = .ok (I, 1))
    (hs : sx_aput pc lv st w (100 + t) f = some r) (kk : sx_G p l e R s m args below meth c Q P D cA N0 b nL (cells + r.2.2.2.2.1) (slots + r.2.2.2.2.2) r.2.2.2.1 r.1 r.2.1 r.2.2.1) : sx_G p l e R s m args below meth c Q P D cA N0 b nL cells slots w pc lv st := by
  unfold sx_aput at hs
  split at hs
  · rename_i x i a rest
    split at hs
    · rename_i c0 vs hw
      by_cases hc : c0 = 100 + t
      · rw [if_pos hc] at hs
        subst hc
        split at hs
        · rename_i j hj
          obtain ⟨hin, hcl, hlt⟩ := sx_ix_inv hj
          cases hs
          intro H locs ls hH hS hl
          have hat := sx_vecAt hH hw
          have hK := hF.2.2.2.2.2.1.1
          have fin : ∀ H' : Heap, H'[N0 + a]? = some ((arrV (cA t) vs.length (fun j => .int (sx_toI (vs.getD j .null)))).setSlot i.toNatClampNeg (.int (f x))) → H'.size = H.size → (∀ q, q ≠ N0 + a → H'[q]? = H[q]?) → W p l e R s m args below meth c H' (locs ++ [⟨N0 + a, i.toNatClampNeg⟩]) cells slots Q (F0 m (pc + 1) ls (sx_st N0 b rest)) := by
            intro H' e1 e2 e3
            refine kk H' _ ls (hH.put (List.getElem?_eq_some_iff.mp hw).1 e2 ?_ e3) (hS.put e2 e3 (Nat.le_add_right _ _)) hl
            unfold sx_e
            rw [if_neg (by show ¬ 100 + t < 100; omega)]
            show H'[N0 + a]? = some (vp_cell (cA (100 + t - 100)) (sx_arr (vs.set j (.int (f x)))))
            rw [e1, arrV_store, show 100 + t - 100 = t by omega]
            show some (arrV _ _ _) = some (arrV (cA t) (vs.set j (.int (f x))).length (fun q => .int (sx_toI ((vs.set j (.int (f x))).getD q .null))))
            rw [List.length_set, hcl]
            congr 1
            apply sx_arrV_ext
            intro q hq
            unfold updV
            by_cases hqj : q = j
            · subst hqj
              rw [if_pos rfl, List.getD_eq_getElem?_getD, List.getElem?_set_self hq]
              rfl
            · rw [if_neg hqj]
              show Value.int (sx_toI (vs.getD q .null)) = _
              rw [List.getD_eq_getElem?_getD, List.getD_eq_getElem?_getD, List.getElem?_set_ne (Ne.symm hqj)]
          have hsz : ¬ (i < 0 ∨ (arrV (cA t) vs.length (fun j => .int (sx_toI (vs.getD j .null)))).slots.size ≤ i.toNatClampNeg) := by rw [arrV_size]; exact hin
          rcases hI with ⟨rfl, rfl, rfl⟩ | ⟨rfl, rfl, rfl⟩
          · exact W.iast hF.1 hF.2.1 hat ((hK.2 0 _ rfl).1 _ _) (fun q => by cases q) hsz rfl rfl hd fin
          · exact W.bast hF.1 hF.2.1 hat ((hK.2 1 _ rfl).1 _ _) (fun q => by cases q) hsz rfl rfl hd fin
        · cases hs
      · rw [if_neg hc] at hs; cases hs
    · cases hs
  · cases hs
theorem sx_alen_G (hF : sx_Fx P D cA N0 b nL xs own cc p R s m args c) {pc : Nat} {lv : sx_L} {st : List Value} {w : sx_W} {r : sx_R} {cells slots : Nat} (hd : decode cc pc = .ok (.arraylength, 1))
    (hs : sx_alen pc lv st w xs = some r) (kk : sx_G p l e R s m args below meth c Q P D cA N0 b nL (cells + r.2.2.2.2.1) (slots + r.2.2.2.2.2) r.2.2.2.1 r.1 r.2.1 r.2.2.1) : sx_G p l e R s m args below meth c Q P D cA N0 b nL cells slots w pc lv st := by
  unfold sx_alen at hs
  split at hs
  · rename_i a rest
    split at hs
    · rename_i c0 vs hw
      by_cases hc : c0 = 100 ∨ c0 = 101
      · rw [if_pos hc] at hs
        cases hs
        intro H locs ls hH hS hl
        rcases hc with rfl | rfl
        · exact va_alen (x := sx_arr vs) hF.1 hF.2.1 hF.2.2.2.2.2.1.1 (sx_vec (t := 0) hH hw) 0 0 rfl rfl rfl hd (kk H locs ls hH hS hl)
        · exact va_alen (x := sx_arr vs) hF.1 hF.2.1 hF.2.2.2.2.2.1.1 (sx_vec (t := 1) hH hw) 0 1 rfl rfl rfl hd (kk H locs ls hH hS hl)
      · rw [if_neg hc] at hs; cases hs
    · cases hs
  · rename_i a rest
    cases hs
    intro H locs ls hH hS hl
    exact va_slen hF.1 hF.2.1 hF.2.2.2.2.2.2.2.1 (Nat.lt_of_lt_of_le hF.2.2.2.2.2.2.2.2.1 hF.2.2.2.2.2.2.1) (Nat.not_le.mpr hF.2.2.2.2.2.2.2.2.1) hS hd (kk H locs ls hH hS hl)
  · cases hs
end SXH
