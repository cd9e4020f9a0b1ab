/-! the second reader's runs -/
def bx_ret (env : ax_N) (ret : Option FieldType) (I : Instr) (st : List ax_V) : Option (Option ax_V) := match ax_ret [] ret I (st.map (bx_pl env)) with
  | some none => some none
  | some (some _) => match st with
    | a :: _ => some (some a)
    | [] => none
  | none => none
theorem bx_gs_pl {env : ax_N} {vs : List Int} (he : bx_env env vs) : ∀ {l : List ax_V} {st : List Value}, bx_gs vs l st → ax_gs [] (l.map (bx_pl env)) st
  | [], _, h => h
  | _ :: _, [], h => h.elim
  | _ :: _, _ :: _, h => ⟨bx_pl_ok he h.1, bx_gs_pl he h.2⟩
theorem bx_retOk_head {ret : Option FieldType} {I : Instr} {st : List Value} {v : Value} (h : sx_retOk ret I st = some (some v)) : st.head? = some v := by
  unfold sx_retOk at h
  split at h
  · cases h
  · rename_i ty x
    split at h
    · cases h; rfl
    · cases h
  · cases h; rfl
  · cases h
theorem bx_ret_ok {env : ax_N} {vs : List Int} {ret : Option FieldType} {I : Instr} {ast : List ax_V} {st : List Value} {a : Option ax_V} (he : bx_env env vs) (h : bx_ret env ret I ast = some a) (hs : bx_gs vs ast st) : ∃ r, sx_retOk ret I st = some r ∧ bx_go vs a r := by
  unfold bx_ret at h
  split at h
  · rename_i hr
    cases h
    obtain ⟨r, h1, h2⟩ := ax_ret_ok bx_nil hr (bx_gs_pl he hs)
    cases r with
    | none => exact ⟨none, h1, trivial⟩
    | some v => exact h2.elim
  · rename_i b hr
    obtain ⟨r, h1, h2⟩ := ax_ret_ok bx_nil hr (bx_gs_pl he hs)
    split at h
    · rename_i a0 rest
      cases h
      cases r with
      | none => exact h2.elim
      | some v =>
        have hh := bx_retOk_head h1
        match st, hs with
        | u :: st', hs =>
          cases hh
          exact ⟨some v, h1, hs.1⟩
    · cases h
  · cases h
theorem bx_gs_len {vs : List Int} : ∀ {l : List ax_V} {st : List Value}, bx_gs vs l st → st.length = l.length
  | [], _, h => by rw [show _ = [] from h]; rfl
  | _ :: _, [], h => h.elim
  | _ :: _, _ :: _, h => by rw [List.length_cons, List.length_cons, bx_gs_len h.2]
theorem bx_gs_drop {vs : List Int} : ∀ {l : List ax_V} {st : List Value} (k : Nat), bx_gs vs l st → bx_gs vs (l.drop k) (st.drop k)
  | l, st, 0, h => h
  | [], _, k + 1, h => by rw [show _ = [] from h]; rfl
  | _ :: _, [], _, h => h.elim
  | _ :: _, _ :: _, k + 1, h => bx_gs_drop k h.2
theorem bx_gs_take {vs : List Int} : ∀ {l : List ax_V} {st : List Value} (k : Nat), bx_gs vs l st → bx_gs vs (l.take k) (st.take k)
  | l, st, 0, h => rfl
  | [], _, k + 1, h => by rw [show _ = [] from h]; rfl
  | _ :: _, [], _, h => h.elim
  | _ :: _, _ :: _, k + 1, h => ⟨h.1, bx_gs_take k h.2⟩
theorem bx_gs_app {vs : List Int} : ∀ {l l2 : List ax_V} {st st2 : List Value}, bx_gs vs l st → bx_gs vs l2 st2 → bx_gs vs (l ++ l2) (st ++ st2)
  | [], _, _, _, h, h2 => by rw [show _ = [] from h]; exact h2
  | _ :: _, _, [], _, h, _ => h.elim
  | _ :: _, _, _ :: _, _, h, h2 => ⟨h.1, bx_gs_app h.2 h2⟩
theorem bx_gs_rev {vs : List Int} : ∀ {l : List ax_V} {st : List Value}, bx_gs vs l st → bx_gs vs l.reverse st.reverse
  | [], _, h => by rw [show _ = [] from h]; rfl
  | _ :: _, [], h => h.elim
  | a :: l, v :: st, h => by
    rw [List.reverse_cons, List.reverse_cons]
    exact bx_gs_app (bx_gs_rev h.2) ⟨h.1, rfl⟩
theorem bx_args_ok {vs : List Int} : ∀ {l : List ax_V} {us : List Value} (i : Nat), bx_gs vs l us → ∀ q ∈ ax_args i l, i ≤ q.1 ∧ ∃ v, sx_get (lv_args i us) q.1 = some v ∧ bx_g vs q.2 v
  | [], us, i, h, q, hq => by cases hq
  | a :: l, [], i, h, q, hq => h.elim
  | a :: l, v :: us, i, h, q, hq => by
    have hc : (if v.category = 2 then i + 2 else i + 1) = i + ax_cat a := by
      rw [bx_cat h.1]
      unfold ax_cat
      split <;> simp
    show i ≤ q.1 ∧ ∃ u, sx_get ((i, v) :: lv_args (if v.category = 2 then i + 2 else i + 1) us) q.1 = some u ∧ bx_g vs q.2 u
    rw [hc]
    rcases List.mem_cons.mp hq with rfl | hq
    · exact ⟨Nat.le_refl _, v, sx_get_self _ _ _, h.1⟩
    · obtain ⟨h1, u, h2, h3⟩ := bx_args_ok (i + ax_cat a) h.2 q hq
      have hp : 0 < ax_cat a := by unfold ax_cat; split <;> decide
      refine ⟨by omega, u, ?_, h3⟩
      unfold sx_get at h2 ⊢
      rw [List.find?_cons]
      have hb : (i == q.1) = false := by simp; omega
      rw [hb]
      exact h2
def bx_recv (P : sx_P) (INV : ax_W) (M : sx_M) (av : List ax_V) : Bool := M.2.2.2.2.2.1 || match av with
  | x :: _ => decide (x.1 = 2) && (sx_isIni M || match INV[x.2.1.toNat]? with
    | some (ci, _) => decide (ci < 100) && match P.2.1[ci]? with
      | some (C, _, _) => decide (C = M.1.cls)
      | none => false
    | none => false)
  | _ => false
theorem bx_recv_ok {P : sx_P} {INV : ax_W} {M : sx_M} {vs : List Int} {w : sx_W} {al : List ax_V} {av : List Value} (hw : bx_in INV w) (hs : bx_gs vs al av) (h : bx_recv P INV M al = true) : sx_recv P M w av = true := by
  unfold bx_recv at h
  unfold sx_recv
  rw [Bool.or_eq_true] at h ⊢
  rcases h with h | h
  · exact Or.inl h
  · right
    split at h
    · rename_i x r
      obtain ⟨v, r', rfl, hx, hr⟩ := bx_gs1 hs
      rw [Bool.and_eq_true, decide_eq_true_eq] at h
      have hv := (bx_tag hx).2.2.1 h.1
      subst hv
      dsimp only
      have h2 := h.2
      rw [Bool.or_eq_true] at h2 ⊢
      rcases h2 with h2 | h2
      · exact Or.inl h2
      · right
        split at h2
        · rename_i ci cr hci
          obtain ⟨cs, e1, -, -⟩ := hw.2 _ ci cr hci
          rw [e1]
          exact h2
        · cases h2
    · cases h
def bx_callOk (P : sx_P) (INV : ax_W) (M' : sx_M) (st : List ax_V) : Bool := decide (M'.2.2.2.2.1 ≤ st.length) && decide (ax_csum (st.drop M'.2.2.2.2.1) ≤ 8) && decide (ax_csum (st.take M'.2.2.2.2.1) ≤ M'.2.2.1) && bx_recv P INV M' (st.take M'.2.2.2.2.1).reverse
theorem bx_callOk_ok {P : sx_P} {INV : ax_W} {M : sx_M} {vs : List Int} {w : sx_W} {ast : List ax_V} {st : List Value} (hw : bx_in INV w) (hs : bx_gs vs ast st) (h : bx_callOk P INV M ast = true) : sx_callOk P M w st = true := by
  unfold bx_callOk at h
  unfold sx_callOk
  simp only [Bool.and_eq_true, decide_eq_true_eq] at h ⊢
  exact ⟨⟨⟨by rw [bx_gs_len hs]; exact h.1.1.1, by rw [bx_csum (bx_gs_drop _ hs)]; exact h.1.1.2⟩, by rw [bx_csum (bx_gs_take _ hs)]; exact h.1.2⟩, bx_recv_ok hw (bx_gs_rev (bx_gs_take _ hs)) h.2⟩
def bx_any : List Nat := List.range 48
def bx_sel (T : List bx_K) (C : bx_C) (reg : Bool) (mi pc d : Nat) (env : ax_N) (l : ax_L) (kn : bx_Kn) : Option bx_K := T.find? (fun K => decide (K.1 = mi) && decide (K.2.1 = pc) && bx_can C reg d env l kn K)
noncomputable def bx_run (P : sx_P) (T : List bx_K) : Nat → Nat → bx_C → sx_M → Nat → List Nat → Bool → bx_S → Option (List bx_O)
  | 0, _, _, _, _, _, _, _ => none
  | n + 1, d, C, M, mi, stops, first, S =>
    if first = false ∧ stops.contains S.2.1 = true then (if S.2.2.2.1.isEmpty = true then some [(none, S)] else none)
    else match (if first = true ∨ S.2.2.2.1.isEmpty = false then none else bx_sel T C true mi S.2.1 d S.1 S.2.2.1 S.2.2.2.2.1) with
      | some K => bx_all (fun e => match bx_aft K S.1 S.2.2.1 S.2.2.2.2.1 S.2.2.2.2.2 e with
        | (none, S') => bx_run P T n d C M mi stops false S'
        | (some r, S') => some [(some r, S')]) K.2.2.2.2.1
      | none => match sx_row M S.2.1 with
        | none => none
        | some E => if sx_isRet E.2.1 = true then (bx_ret S.1 M.2.2.2.1 E.2.1 S.2.2.2.1).map (fun r => [(some r, S)])
          else if sx_isCall E = true then (match sx_nth P.2.2.2.1 E.2.2.2.1, d with
            | some M', d' + 1 => if bx_callOk P C.1 M' S.2.2.2.1 = true then
                (match bx_sel T C false E.2.2.2.1 0 d' S.1 (ax_args 0 (S.2.2.2.1.take M'.2.2.2.2.1).reverse) S.2.2.2.2.1 with
                | some K => bx_all (fun e => match bx_aft K S.1 [] S.2.2.2.2.1 S.2.2.2.2.2 e with
                  | (some r, S') => bx_run P T n (d' + 1) C M mi stops false (S'.1, S.2.1 + 3, S.2.2.1, r.toList ++ S.2.2.2.1.drop M'.2.2.2.2.1, S'.2.2.2.2)
                  | (none, _) => none) K.2.2.2.2.1
                | none => match bx_run P T n d' (C.1, C.2.1, C.2.2.1, bx_any) M' E.2.2.2.1 [] true (S.1, 0, ax_args 0 (S.2.2.2.1.take M'.2.2.2.2.1).reverse, [], S.2.2.2.2) with
                  | none => none
                  | some outs => bx_all (fun o => match o with
                    | (some r, S') => bx_run P T n (d' + 1) C M mi stops false (S'.1, S.2.1 + 3, S.2.2.1, r.toList ++ S.2.2.2.1.drop M'.2.2.2.2.1, S'.2.2.2.2)
                    | (none, _) => none) outs) else none
            | _, _ => none)
          else match bx_step P C M.2.2.1 E S with
            | none => none
            | some Ss => bx_all (fun S' => bx_run P T n d C M mi stops false S') Ss
/-- what a run's ends say of the machine -/
noncomputable def bx_out (P : sx_P) (xs : List Int32) (C : bx_C) (X : sx_W → Prop) (stops : List Nat) (d0 : Nat) (M : sx_M) (outs : List bx_O) (vs : List Int) (pc : Nat) (lv : sx_L) (st : List Value) (w : sx_W) : Prop :=
  ∃ o ∈ outs, ∃ vs', bx_ext vs vs' ∧ ∃ (lv' : sx_L) (w' : sx_W), bx_fw xs C.2.2.1 w w' ∧ (match o.1 with
    | none => bx_ok xs C.1 X vs' o.2 lv' [] w' ∧ bx_fl C.2.2.2 lv lv' ∧ stops.contains o.2.2.1 = true ∧ ∀ res, sx_rn P xs d0 M o.2.2.1 lv' [] w' res → sx_rn P xs d0 M pc lv st w res
    | some r => bx_okW xs C.1 X vs' o.2 w' ∧ ∃ rv, bx_go vs' r rv ∧ sx_rn P xs d0 M pc lv st w (rv, w'))
theorem bx_out_back {P : sx_P} {xs : List Int32} {C : bx_C} {X : sx_W → Prop} {stops : List Nat} {d0 : Nat} {M : sx_M} {outs outs1 : List bx_O} {vs vs1 : List Int} {pc pc1 : Nat} {lv lv1 : sx_L} {st st1 : List Value} {w w1 : sx_W} (hx : bx_ext vs vs1) (fl : bx_fl C.2.2.2 lv lv1) (fw : bx_fw xs C.2.2.1 w w1) (hr : ∀ res, sx_rn P xs d0 M pc1 lv1 st1 w1 res → sx_rn P xs d0 M pc lv st w res) (hsub : ∀ y ∈ outs1, y ∈ outs) (h : bx_out P xs C X stops d0 M outs1 vs1 pc1 lv1 st1 w1) : bx_out P xs C X stops d0 M outs vs pc lv st w := by
  obtain ⟨o, hm, vs', hx', lv', w', fw', h'⟩ := h
  refine ⟨o, hsub o hm, vs', hx.tr hx', lv', w', fw.tr fw', ?_⟩
  obtain ⟨r, S⟩ := o
  match r, h' with
  | none, h' => exact ⟨h'.1, fl.tr h'.2.1, h'.2.2.1, fun res hres => hr res (h'.2.2.2 res hres)⟩
  | some r, h' =>
    obtain ⟨h1, rv, h2, h3⟩ := h'
    exact ⟨h1, rv, h2, hr _ h3⟩
theorem bx_go_list {vs : List Int} {a : Option ax_V} {r : Option Value} (h : bx_go vs a r) : bx_gs vs a.toList r.toList := by
  match a, r, h with
  | none, none, _ => rfl
  | some a, some v, h => exact ⟨h, rfl⟩
  | none, some _, h => exact h.elim
  | some _, none, h => exact h.elim
