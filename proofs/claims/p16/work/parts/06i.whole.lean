/-! whole roads hold the machine's roads -/
def sx_rowOk (P : sx_P) (own : String) (ini : Bool) (E : sx_E) : Bool := if sx_isCall E then (match P.2.2.2.1[E.2.2.2.1]? with
  | some M => sx_link P own E M
  | none => false) else sx_pool P own ini E
def sx_rowsOk (P : sx_P) (M : sx_M) : Bool := M.2.2.2.2.2.2.2.all (fun E => sx_rowOk P M.1.cls (sx_isIni M) E)
def sx_Mok (P : sx_P) (M : sx_M) : Prop := ∀ E ∈ M.2.2.2.2.2.2.2, sx_dec M.2.1 E = true ∧ sx_rowOk P M.1.cls (sx_isIni M) E = true
def sx_Pok (P : sx_P) : Prop := sx_kindOk P ∧ (∀ w ∈ P.2.2.2.2, sx_isNest w = true) ∧ ∀ M ∈ P.2.2.2.1, sx_mOk P M = true ∧ sx_rowsOk P M = true
theorem sx_mOk_rows {P : sx_P} {M : sx_M} (h : sx_mOk P M = true) : plainName M.1.cls = true ∧ ∀ E ∈ M.2.2.2.2.2.2.2, sx_dec M.2.1 E = true := by
  obtain ⟨y, bytes, maxL, ret, n, isS, ⟨q1, q2, q3, q4⟩, rows⟩ := M
  simp only [sx_mOk, Bool.and_eq_true] at h
  exact ⟨h.1.1.1.1.1.1.1, List.all_eq_true.mp h.2⟩
theorem sx_Pok.row {P : sx_P} (h : sx_Pok P) {M : sx_M} (hM : M ∈ P.2.2.2.1) : sx_Mok P M := fun E hE => ⟨(sx_mOk_rows (h.2.2 M hM).1).2 E hE, List.all_eq_true.mp (h.2.2 M hM).2 E hE⟩
theorem sx_lgsl_len (N0 b : Nat) (av : List Value) : (lg_sl (sx_st N0 b av)).length = sx_csum av := by
  induction av with
  | nil => rfl
  | cons v vs ih =>
    have e : lg_sl (sx_st N0 b (v :: vs)) = (if (sx_sh N0 b v).category = 2 then [.val (sx_sh N0 b v), .second] else [.val (sx_sh N0 b v)]) ++ lg_sl (sx_st N0 b vs) := rfl
    rw [e, List.length_append, ih, sx_sh_cat]
    unfold sx_csum
    rw [List.map_cons, List.sum_cons]
    rcases lv_cat v with h | h <;> simp [h]
theorem sx_args_sh (N0 b : Nat) : ∀ (av : List Value) (i : Nat), lv_args i (sx_st N0 b av) = sx_lv N0 b (lv_args i av)
  | [], i => rfl
  | v :: vs, i => by
    show (i, sx_sh N0 b v) :: lv_args (if (sx_sh N0 b v).category = 2 then i + 2 else i + 1) (sx_st N0 b vs) = (i, sx_sh N0 b v) :: sx_lv N0 b (lv_args (if v.category = 2 then i + 2 else i + 1) vs)
    rw [sx_sh_cat, sx_args_sh N0 b vs]
theorem ax_args_ok {xs : List Int32} : ∀ {l : List ax_V} {vs : List Value} (i : Nat), ax_gs xs l vs → ∀ q ∈ ax_args i l, i ≤ q.1 ∧ ∃ v, sx_get (lv_args i vs) q.1 = some v ∧ ax_g xs q.2 v
  | [], vs, i, h, q, hq => by cases hq
  | a :: l, [], i, h, q, hq => h.elim
  | a :: l, v :: vs, i, h, q, hq => by
    have hc : (if v.category = 2 then i + 2 else i + 1) = i + ax_cat a := by
      rw [ax_g_cat h.1]
      unfold ax_cat
      split <;> simp
    show i ≤ q.1 ∧ ∃ u, sx_get ((i, v) :: lv_args (if v.category = 2 then i + 2 else i + 1) vs) q.1 = some u ∧ ax_g xs q.2 u
    rw [hc]
    rcases List.mem_cons.mp hq with rfl | hq
    · exact ⟨Nat.le_refl _, v, sx_get_self _ _ _, h.1⟩
    · obtain ⟨h1, u, h2, h3⟩ := ax_args_ok (i + ax_cat a) h.2 q hq
      have hp : 0 < ax_cat a := by unfold ax_cat; split <;> decide
      refine ⟨by omega, u, ?_, h3⟩
      unfold sx_get at h2 ⊢
      rw [List.find?_cons]
      have hb : (i == q.1) = false := by simp; omega
      rw [hb]
      exact h2
section AXR
variable {P : sx_P} {l : Launch} {D : va_G} {cA : Nat → ClassId} {N0 b : Nat} {xs : List Int32}
theorem sx_met {M : sx_M} (hm : sx_mOk P M = true) {d mc ms : Nat} {av : List Value} {w : sx_W} {F : Option Value → sx_W → Prop} (hfit : sx_csum av ≤ M.2.2.1)
    (body : ∀ (p : Program) (e : Env) (s : State) (m : MethodId) (args : Array Value) (below : List Frame) (meth : Method) (c : Code), sx_Fx P D cA N0 b M.2.2.1 xs M.1.cls M.2.1 p (sx_rm d mc ms) s m args c → (sx_isIni M = true → meth.name = "<init>") → meth.sig.returnType = M.2.2.2.1 → meth.locks = false →
      sx_G p l e (sx_rm d mc ms) s m args below meth c (sx_MQ P D cA N0 b xs F mc ms s args below) P D cA N0 b M.2.2.1 0 0 w 0 (lv_args 0 av) []) : sx_C P l D cA N0 b xs M d mc ms av w F := by
  unfold sx_C
  refine Met.ofW (cc := M.2.1) (maxL := M.2.2.1) (ret := M.2.2.2.1) (sx_mOk_rows hm).1 rfl ?_
  intro p e s m args below meth c s₁ B hml hv
  obtain ⟨rfl, hB⟩ := hv
  have hts := atoms_spec (ws := sx_words P M) B.pre
  have hF : sx_Fx P D cA N0 b M.2.2.1 xs M.1.cls M.2.1 p (sx_rm d mc ms) s m (sx_st N0 b av).toArray c := ⟨B.exec, B.bytes, hml, findClass_of_methodNamed B.named, fun w hw hg => hts w (List.mem_cons_of_mem _ (List.mem_filter.mpr ⟨hw, hg⟩)), hB.2.1, by rw [hB.1.1]; exact Nat.le_add_right _ _, hB.2.2.1, hB.2.2.2, Nat.le_add_left _ _, by show 64 ≤ 64 * (d + 1); omega⟩
  have hl := lv_entry (sx_st N0 b av) (n := M.2.2.1) (by rw [sx_lgsl_len]; exact hfit)
  rw [sx_args_sh] at hl
  rw [lg_entry_eq]
  generalize (lg_sl (sx_st N0 b av) ++ List.replicate (M.2.2.1 - (lg_sl (sx_st N0 b av)).length) Slot.unset).toArray = ls at hl ⊢
  exact body p e s m _ below meth c hF (fun hi => by
    have h1 := (name_of_methodNamed B.named B.method).1
    have h2 : M.1.name = "<init>" := by simpa [sx_isIni] using hi
    rw [h1]; exact h2) B.returns B.notSynchronized s.heap [] ls hB.1 va_S.rf hl
def ax_go (xs : List Int32) (a : Option ax_V) (r : Option Value) : Prop := match a, r with
  | none, none => True
  | some a, some v => ax_g xs a v
  | _, _ => False
theorem ax_go_list {a : Option ax_V} {r : Option Value} (h : ax_go xs a r) : ax_gs xs a.toList r.toList := by
  cases a <;> cases r
  · exact rfl
  · exact h.elim
  · exact h.elim
  · exact ⟨h, rfl⟩
theorem ax_leV_ok {env : ax_N} {a c : ax_V} {v : Value} (he : ax_env xs env) (h : ax_leV env a c = true) (hg : ax_g xs a v) : ax_g xs c v := by
  unfold ax_leV at h
  by_cases hac : a = c
  · rw [← hac]; exact hg
  · rw [if_neg hac] at h
    obtain ⟨t, lo, hh⟩ := c
    dsimp only at h
    split at h
    · split at h
      · rename_i p hp
        obtain ⟨x, rfl, h1, h2⟩ := ax_iv_ok he hg hp
        rw [Bool.and_eq_true, decide_eq_true_eq, decide_eq_true_eq] at h
        exact ⟨x, rfl, by dsimp only; omega, by dsimp only; omega⟩
      · cases h
    · simp only [Bool.and_eq_true, decide_eq_true_eq] at h
      obtain ⟨x, rfl, h1, h2⟩ := ax_g1 hg h.1.1
      exact ⟨x, rfl, by dsimp only; omega, by dsimp only; omega⟩
    · cases h
/-- a run's head cut shorter -/
theorem ax_seg_cut {n m : Nat} {a : ax_V} {r : ax_A} {vs : List Value} (hm : m ≤ n) (h : ax_seg xs ((n, a) :: r) vs) : ax_seg xs ((n - m, a) :: r) (vs.drop m) := by
  obtain ⟨h1, h2, h3⟩ := h
  refine ⟨by rw [List.length_drop]; omega, fun v hv => h2 v ?_, by rw [List.drop_drop, show m + (n - m) = n by omega]; exact h3⟩
  rw [List.take_drop, show m + (n - m) = n by omega] at hv
  exact List.mem_of_mem_drop hv
theorem ax_leA_ok {env : ax_N} (he : ax_env xs env) : ∀ (f : Nat) (r r' : ax_A) (vs : List Value), ax_leA env f r r' = true → ax_seg xs r vs → ax_seg xs r' vs
  | 0, r, r', vs, h, hs => by cases h
  | f + 1, [], [], vs, h, hs => hs
  | f + 1, [], _ :: _, vs, h, hs => by cases h
  | f + 1, _ :: _, [], vs, h, hs => by cases h
  | f + 1, (n, a) :: r, (m, c) :: r', vs, h, hs => by
    unfold ax_leA at h
    rw [Bool.and_eq_true] at h
    obtain ⟨hv, h⟩ := h
    obtain ⟨h1, h2, h3⟩ := hs
    by_cases hnm : n = m
    · subst hnm
      rw [if_pos rfl] at h
      exact ⟨h1, fun v hm => ax_leV_ok he hv (h2 v hm), ax_leA_ok he f r r' _ h h3⟩
    · rw [if_neg hnm] at h
      by_cases hlt : n < m
      · rw [if_pos hlt] at h
        obtain ⟨g1, g2, g3⟩ := ax_leA_ok he f r ((m - n, c) :: r') _ h h3
        rw [List.length_drop] at g1
        refine ⟨by omega, fun v hm => ?_, ?_⟩
        · rw [show m = n + (m - n) by omega, List.take_add] at hm
          rcases List.mem_append.mp hm with hh | hh
          · exact ax_leV_ok he hv (h2 v hh)
          · exact g2 v hh
        · rw [List.drop_drop, show n + (m - n) = m by omega] at g3
          exact g3
      · rw [if_neg hlt] at h
        have hc := ax_leA_ok he f ((n - m, a) :: r) r' _ h (ax_seg_cut (by omega) ⟨h1, h2, h3⟩)
        refine ⟨by omega, fun v hm => ax_leV_ok he hv (h2 v ?_), hc⟩
        exact (List.take_sublist_take_left (by omega)).subset hm
theorem ax_leW_ok {env : ax_N} (he : ax_env xs env) : ∀ (aw aw' : ax_W) (w : sx_W), ax_leW env aw aw' = true → ax_gw xs aw w → ax_gw xs aw' w
  | [], [], w, h, hs => hs
  | [], _ :: _, w, h, hs => by cases h
  | _ :: _, [], w, h, hs => by cases h
  | (t, r) :: aw, (t', r') :: aw', [], h, hs => hs.elim
  | (t, r) :: aw, (t', r') :: aw', x :: w, h, hs => by
    simp only [ax_leW, Bool.and_eq_true, Bool.or_eq_true, decide_eq_true_eq] at h
    obtain ⟨⟨h1, h2⟩, h3⟩ := h
    refine ⟨by rw [← h1]; exact hs.1, ?_, ax_leW_ok he aw aw' w h3 hs.2.2⟩
    rcases h2 with h2 | h2
    · rw [← h2]; exact hs.2.1
    · exact ax_leA_ok he 60 r r' _ h2 hs.2.1
theorem ax_leL_ok {env : ax_N} (he : ax_env xs env) : ∀ (al al' : List ax_V) (st : List Value), ax_leL env al al' = true → ax_gs xs al st → ax_gs xs al' st
  | [], [], st, h, hs => hs
  | [], _ :: _, st, h, hs => by cases h
  | _ :: _, [], st, h, hs => by cases h
  | a :: al, a' :: al', [], h, hs => hs.elim
  | a :: al, a' :: al', v :: st, h, hs => by
    simp only [ax_leL, Bool.and_eq_true] at h
    exact ⟨ax_leV_ok he h.1 hs.1, ax_leL_ok he al al' st h.2 hs.2⟩
theorem ax_jA_ok {env : ax_N} (he : ax_env xs env) : ∀ (f : Nat) (r r' q : ax_A) (vs : List Value), ax_jA env f r r' = some q → (ax_seg xs r vs → ax_seg xs q vs) ∧ (ax_seg xs r' vs → ax_seg xs q vs)
  | 0, r, r', q, vs, h => by cases h
  | f + 1, [], [], q, vs, h => by cases h; exact ⟨id, id⟩
  | f + 1, [], _ :: _, q, vs, h => by cases h
  | f + 1, _ :: _, [], q, vs, h => by cases h
  | f + 1, (n, a) :: r, (m, c) :: r', q, vs, h => by
    unfold ax_jA at h
    split at h
    · rename_i d hd
      split at h
      · rename_i q' hq'
        cases h
        have hj := ax_join_ok he hd
        by_cases hnm : n = m
        · subst hnm
          rw [if_pos rfl] at hq'
          have ih := ax_jA_ok he f r r' q' (vs.drop n) hq'
          rw [Nat.min_self]
          exact ⟨fun ⟨h1, h2, h3⟩ => ax_seg_con h1 (fun v hv => (hj v).1 (h2 v hv)) (ih.1 h3), fun ⟨h1, h2, h3⟩ => ax_seg_con h1 (fun v hv => (hj v).2 (h2 v hv)) (ih.2 h3)⟩
        · rw [if_neg hnm] at hq'
          by_cases hlt : n < m
          · rw [if_pos hlt] at hq'
            have ih := ax_jA_ok he f r ((m - n, c) :: r') q' (vs.drop n) hq'
            rw [Nat.min_eq_left (by omega)]
            refine ⟨fun ⟨h1, h2, h3⟩ => ax_seg_con h1 (fun v hv => (hj v).1 (h2 v hv)) (ih.1 h3), fun hh => ?_⟩
            have hh' := hh
            obtain ⟨h1, h2, h3⟩ := hh
            exact ax_seg_con (by omega) (fun v hv => (hj v).2 (h2 v ((List.take_sublist_take_left (by omega)).subset hv))) (ih.2 (ax_seg_cut (by omega) hh'))
          · rw [if_neg hlt] at hq'
            have ih := ax_jA_ok he f ((n - m, a) :: r) r' q' (vs.drop m) hq'
            rw [Nat.min_eq_right (by omega)]
            refine ⟨fun hh => ?_, fun ⟨h1, h2, h3⟩ => ax_seg_con h1 (fun v hv => (hj v).2 (h2 v hv)) (ih.2 h3)⟩
            have hh' := hh
            obtain ⟨h1, h2, h3⟩ := hh
            exact ax_seg_con (by omega) (fun v hv => (hj v).1 (h2 v ((List.take_sublist_take_left (by omega)).subset hv))) (ih.1 (ax_seg_cut (by omega) hh'))
      · cases h
    · cases h
theorem ax_jW_ok {env : ax_N} (he : ax_env xs env) : ∀ (aw aw' q : ax_W) (w : sx_W), ax_jW env aw aw' = some q → (ax_gw xs aw w → ax_gw xs q w) ∧ (ax_gw xs aw' w → ax_gw xs q w)
  | [], [], q, w, h => by cases h; exact ⟨id, id⟩
  | [], _ :: _, q, w, h => by cases h
  | _ :: _, [], q, w, h => by cases h
  | (t, r) :: aw, (t', r') :: aw', q, w, h => by
    unfold ax_jW at h
    by_cases ht : t = t'
    · rw [if_pos ht] at h
      subst ht
      split at h
      · rename_i q1 z hq1 hz
        cases h
        have hr : ∀ vs, (ax_seg xs r vs → ax_seg xs q1 vs) ∧ (ax_seg xs r' vs → ax_seg xs q1 vs) := by
          intro vs
          by_cases hrr : r = r'
          · rw [if_pos hrr] at hq1
            cases hq1
            subst hrr
            exact ⟨id, id⟩
          · rw [if_neg hrr] at hq1
            exact ax_jA_ok he 60 r r' q1 vs hq1
        cases w with
        | nil => exact ⟨fun h => h.elim, fun h => h.elim⟩
        | cons x w =>
          have ih := ax_jW_ok he aw aw' z w hz
          exact ⟨fun ⟨h1, h2, h3⟩ => ⟨h1, (hr _).1 h2, ih.1 h3⟩, fun ⟨h1, h2, h3⟩ => ⟨h1, (hr _).2 h2, ih.2 h3⟩⟩
      · cases h
    · rw [if_neg ht] at h; cases h
theorem ax_jN_at : ∀ (n1 n2 : ax_N) (i : Nat) (q : Int × Int), (ax_jN n1 n2)[i]? = some q → ∃ p1 p2, n1[i]? = some p1 ∧ n2[i]? = some p2 ∧ q = (min p1.1 p2.1, max p1.2 p2.2)
  | [], n2, i, q, h => by simp [ax_jN] at h
  | p :: n1, [], i, q, h => by simp [ax_jN] at h
  | p :: n1, p' :: n2, 0, q, h => by cases h; exact ⟨p, p', rfl, rfl, rfl⟩
  | p :: n1, p' :: n2, i + 1, q, h => ax_jN_at n1 n2 i q h
theorem ax_jN_ok {n1 n2 : ax_N} (h : ax_env xs n1 ∨ ax_env xs n2) : ax_env xs (ax_jN n1 n2) := by
  intro i q hq
  obtain ⟨p1, p2, e1, e2, rfl⟩ := ax_jN_at n1 n2 i q hq
  dsimp only
  rcases h with h | h
  · have := h i p1 e1; omega
  · have := h i p2 e2; omega
/-- what a way back says -/
def ax_gO (xs : List Int32) (o : ax_O) (r : Option Value) (w : sx_W) : Prop := ax_env xs o.1 ∧ ax_go xs o.2.1 r ∧ ax_gw xs o.2.2 w
theorem ax_jO_ok {o1 o2 q : ax_O} {r : Option Value} {w : sx_W} (h : ax_jO o1 o2 = some q) (hg : ax_gO xs o1 r w ∨ ax_gO xs o2 r w) : ax_gO xs q r w := by
  have he : ax_env xs (ax_jN o1.1 o2.1) := ax_jN_ok (hg.imp (fun h => h.1) (fun h => h.1))
  unfold ax_jO at h
  split at h
  · rename_i e1 e2
    split at h
    · rename_i z hz
      cases h
      refine ⟨he, ?_, ?_⟩
      · rcases hg with h | h
        · have := h.2.1; rw [e1] at this; exact this
        · have := h.2.1; rw [e2] at this; exact this
      · rcases hg with h | h
        · exact (ax_jW_ok he _ _ _ w hz).1 h.2.2
        · exact (ax_jW_ok he _ _ _ w hz).2 h.2.2
    · cases h
  · rename_i x y e1 e2
    split at h
    · rename_i z w' hz hw'
      cases h
      refine ⟨he, ?_, ?_⟩
      · rcases hg with h | h
        · have h1 := h.2.1
          rw [e1] at h1
          cases r with
          | none => exact h1.elim
          | some v => exact (ax_join_ok he hz v).1 h1
        · have h1 := h.2.1
          rw [e2] at h1
          cases r with
          | none => exact h1.elim
          | some v => exact (ax_join_ok he hz v).2 h1
      · rcases hg with h | h
        · exact (ax_jW_ok he _ _ _ w hw').1 h.2.2
        · exact (ax_jW_ok he _ _ _ w hw').2 h.2.2
    · cases h
  · cases h
theorem ax_mrg_ok {r : Option Value} {w : sx_W} : ∀ (os : List ax_O) (q : ax_O), ax_mrg os = some q → ∀ o ∈ os, ax_gO xs o r w → ax_gO xs q r w
  | [], q, h, o, ho, hg => by cases ho
  | [o1], q, h, o, ho, hg => by
    cases h
    rw [List.mem_singleton] at ho
    rw [← ho]; exact hg
  | o1 :: o2 :: os, q, h, o, ho, hg => by
    unfold ax_mrg at h
    split at h
    · rename_i z hz
      rcases List.mem_cons.mp ho with rfl | ho
      · exact ax_jO_ok h (Or.inl hg)
      · exact ax_jO_ok h (Or.inr (ax_mrg_ok (o2 :: os) z hz o ho hg))
    · cases h
theorem ax_all_mem {α : Type} {f : α → Option (List ax_O)} : ∀ {as : List α} {r : List ax_O}, ax_all f as = some r → ∀ a ∈ as, ∃ x, f a = some x ∧ ∀ y ∈ x, y ∈ r
  | [], r, h, a, ha => by cases ha
  | a0 :: as, r, h, a, ha => by
    unfold ax_all at h
    split at h
    · rename_i x y hx hy
      cases h
      rcases List.mem_cons.mp ha with rfl | ha
      · exact ⟨x, hx, fun z hz => List.mem_append_left _ hz⟩
      · obtain ⟨x', h1, h2⟩ := ax_all_mem hy a ha
        exact ⟨x', h1, fun z hz => List.mem_append_right _ (h2 z hz)⟩
    · cases h
theorem ax_con1_ok {env : ax_N} {mi : Nat} {av : List ax_V} {w : ax_W} : ∀ {ks : List ax_K} {k : ax_K}, ax_con1 env mi av w ks = some k → k ∈ ks ∧ k.1 = mi ∧ ax_leL env av k.2.1 = true ∧ ax_leW env w k.2.2.1 = true
  | [], k, h => by cases h
  | k0 :: ks, k, h => by
    unfold ax_con1 at h
    by_cases hc : k0.1 = mi ∧ ax_leL env av k0.2.1 = true ∧ ax_leW env w k0.2.2.1 = true
    · rw [if_pos hc] at h
      cases h
      exact ⟨List.mem_cons_self, hc⟩
    · rw [if_neg hc] at h
      obtain ⟨h1, h2⟩ := ax_con1_ok h
      exact ⟨List.mem_cons_of_mem _ h1, h2⟩
theorem ax_ret_ok {env : ax_N} {ret : Option FieldType} {I : Instr} {ast : List ax_V} {st : List Value} {a : Option ax_V} (he : ax_env xs env) (h : ax_ret env ret I ast = some a) (hs : ax_gs xs ast st) : ∃ r, sx_retOk ret I st = some r ∧ ax_go xs a r := by
  cases I
  case return_ =>
    dsimp only [ax_ret] at h
    split at h
    · cases h
      rw [show st = [] from hs]
      exact ⟨none, rfl, trivial⟩
    · cases h
  case ireturn =>
    dsimp only [ax_ret] at h
    split at h
    · rename_i ty x
      obtain ⟨v, r', rfl, hx, hr⟩ := ax_gs1 hs
      rw [show r' = [] from hr]
      by_cases hc : (ty = .int ∧ (ax_iv env x).isSome = true) ∨ (ty = .boolean ∧ ax_fit env .boolean x = true)
      · rw [if_pos hc] at h
        cases h
        have hn : ∃ y : Int32, v = .int y ∧ narrow ty (.int y) = .int y := by
          rcases hc with ⟨rfl, h⟩ | ⟨rfl, h⟩
          · obtain ⟨y, rfl⟩ := ax_isI he hx h
            exact ⟨y, rfl, rfl⟩
          · have hf := ax_fit_ok he hx h
            unfold sx_fit at hf
            rw [Bool.and_eq_true, decide_eq_true_eq] at hf
            have hI : (ax_iv env x).isSome = true := by
              unfold ax_fit at h
              dsimp only at h
              split at h
              · rename_i p hp; rw [hp]; rfl
              · cases h
            obtain ⟨y, rfl⟩ := ax_isI he hx hI
            exact ⟨y, rfl, hf.1⟩
        obtain ⟨y, rfl, hn⟩ := hn
        refine ⟨some (.int y), ?_, hx⟩
        unfold sx_retOk
        dsimp only
        rw [if_pos hn]
      · rw [if_neg hc] at h; cases h
    · cases h
  case lreturn =>
    dsimp only [ax_ret] at h
    split at h
    · rename_i ty x
      obtain ⟨v, r', rfl, hx, hr⟩ := ax_gs1 hs
      rw [show r' = [] from hr]
      by_cases hc : ty = .long ∧ x.1 = 1
      · rw [if_pos hc] at h
        cases h
        obtain ⟨y, rfl, -⟩ := ax_g1 hx hc.2
        rw [hc.1]
        exact ⟨some (.long y), rfl, hx⟩
      · rw [if_neg hc] at h; cases h
    · cases h
  all_goals (cases h)
theorem ax_recv_ok {M : sx_M} {aw : ax_W} {w : sx_W} {al : List ax_V} {av : List Value} (hw : ax_gw xs aw w) (hs : ax_gs xs al av) (h : ax_recv P M aw al = true) : sx_recv P M w av = true := by
  unfold ax_recv at h
  unfold sx_recv
  rw [Bool.or_eq_true] at h ⊢
  rcases h with h | h
  · exact Or.inl h
  · right
    split at h
    · rename_i x r
      obtain ⟨v, r', rfl, hx, hr⟩ := ax_gs1 hs
      rw [Bool.and_eq_true, decide_eq_true_eq] at h
      have hv := (ax_tag hx).2.2.2.1 h.1
      subst hv
      dsimp only
      have h2 := h.2
      rw [Bool.or_eq_true] at h2 ⊢
      rcases h2 with h2 | h2
      · exact Or.inl h2
      · right
        split at h2
        · rename_i ci cr hci
          obtain ⟨⟨c0, vs⟩, e1, e2, e3⟩ := ax_gw_at hw hci
          dsimp only at e2
          rw [e1]
          dsimp only
          rw [e2]
          exact h2
        · cases h2
    · cases h
end AXR
