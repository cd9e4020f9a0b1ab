/-! BY HAND, 4: blocks, branches, calls, ends -/
def gx_run : List (sx_E × gx_A) → Prop → gx_L → List gx_V → gx_M → Option gx_R
  | [], C, L, st, m => some (C, L, st, m)
  | p :: r, C, L, st, m => match gx_1 p.1 p.2 C L st m with
    | some q => gx_run r q.1 q.2.1 q.2.2.1 q.2.2.2
    | none => none
noncomputable def gx_rowB (M : sx_M) (E : sx_E) : Bool := match sx_row M E.1 with
  | some q => decide (q.1 = E.1) && (decide (q.2.1 = E.2.1) && (decide (q.2.2.1 = E.2.2.1) && (decide (q.2.2.2.1 = E.2.2.2.1) && (decide (q.2.2.2.2.1 = E.2.2.2.2.1) && (decide (q.2.2.2.2.2.1 = E.2.2.2.2.2.1) && decide (q.2.2.2.2.2.2 = E.2.2.2.2.2.2))))))
  | none => false
theorem gx_rowB_ok {M : sx_M} {E : sx_E} (h : gx_rowB M E = true) : sx_row M E.1 = some E := by
  unfold gx_rowB at h
  split at h
  · rename_i q hq
    rw [hq]
    simp only [Bool.and_eq_true, decide_eq_true_eq] at h
    obtain ⟨h1, h2, h3, h4, h5, h6, h7⟩ := h
    exact congrArg some (Prod.ext h1 (Prod.ext h2 (Prod.ext h3 (Prod.ext h4 (Prod.ext h5 (Prod.ext h6 h7))))))
  · cases h
noncomputable def gx_rows (M : sx_M) : Nat → List (sx_E × gx_A) → Nat → Bool
  | pc, [], n => decide (pc = n)
  | pc, p :: r, n => decide (p.1.1 = pc) && gx_rowB M p.1 && !(sx_isRet p.1.2.1) && !(sx_isCall p.1) && gx_okA M.2.2.1 p.1 p.2 && gx_rows M (gx_nx p.1) r n
theorem gx_1_C {E : sx_E} {A : gx_A} {C : Prop} {L : gx_L} {st : List gx_V} {m : gx_M} {r : gx_R} (h : gx_1 E A C L st m = some r) (hC : r.1) : C := by
  obtain ⟨pc, I, len, a, k, q, z⟩ := E
  unfold gx_1 at h
  dsimp only at h
  cases I <;> dsimp only [gx_b2, gx_ild, gx_ald, gx_sto] at h <;> (try repeat' split at h) <;> first
    | (cases h; done)
    | (cases h; exact hC)
    | (cases h; exact hC.1)
    | (obtain ⟨-, h⟩ := gx_cond h; cases h; exact hC)
    | (obtain ⟨-, h⟩ := gx_cond h; cases h; exact hC.1)
theorem gx_run_C : ∀ (R : List (sx_E × gx_A)) (C : Prop) (L : gx_L) (st : List gx_V) (m : gx_M) (r : gx_R), gx_run R C L st m = some r → r.1 → C
  | [], C, L, st, m, r, h, hC => by cases h; exact hC
  | p :: R, C, L, st, m, r, h, hC => by
    unfold gx_run at h
    split at h
    · rename_i q hq
      exact gx_1_C hq (gx_run_C R _ _ _ _ _ h hC)
    · cases h
section GXC
variable {xs : List Int32} {w0 : sx_W} {d : Nat} {M : sx_M} {pc : Nat} {L : gx_L} {st : List gx_V} {m : gx_M} {Q : gx_Q}
theorem gx_run_ok : ∀ (R : List (sx_E × gx_A)) (C : Prop) (pc npc : Nat) (L : gx_L) (st : List gx_V) (m : gx_M) (r : gx_R), gx_rows M pc R npc = true → gx_run R C L st m = some r → r.1 → gx_to xs w0 d M npc r.2.1 r.2.2.1 r.2.2.2 Q → gx_to xs w0 d M pc L st m Q
  | [], C, pc, npc, L, st, m, r, hR, h, hC, hk => by
    have e : pc = npc := of_decide_eq_true hR
    subst e
    cases h
    exact hk
  | p :: R, C, pc, npc, L, st, m, r, hR, h, hC, hk => by
    unfold gx_rows at hR
    simp only [Bool.and_eq_true, decide_eq_true_eq, Bool.not_eq_true'] at hR
    obtain ⟨⟨⟨⟨⟨h1, h2⟩, h3⟩, h4⟩, h5⟩, h6⟩ := hR
    subst h1
    unfold gx_run at h
    split at h
    · rename_i q hq
      have hCq := gx_run_C R _ _ _ _ _ h hC
      have hrest := gx_run_ok R q.1 _ npc q.2.1 q.2.2.1 q.2.2.2 r h6 h hC hk
      intro lv sv w hl hs hw hm
      obtain ⟨-, lv', sv', w', g1, g2, g3, g4, g5⟩ := gx_1_ok (xs := xs) hq h5 hCq hl hs hw hm
      obtain ⟨o, ro, k1, k2, k3, k4⟩ := hrest lv' sv' w' g2 g3 g4 g5
      exact ⟨o, ro, sx_rn_step (gx_rowB_ok h2) h3 h4 g1 ⟨rfl, rfl⟩ k1, k2, k3, k4⟩
    · cases h
theorem gx_blk {C : Prop} {npc : Nat} {L' : gx_L} {st' : List gx_V} {m' : gx_M} (R : List (sx_E × gx_A)) (hR : gx_rows M pc R npc = true) (h : gx_run R True L st m = some (C, L', st', m')) (hC : C) (hk : gx_to xs w0 d M npc L' st' m' Q) : gx_to xs w0 d M pc L st m Q :=
  gx_run_ok R True pc npc L st m _ hR h hC hk
def gx_c (c : ClassFile.Cond) (x y : Int) : Prop := match c with
  | .eq => x = y
  | .ne => x ≠ y
  | .lt => x < y
  | .ge => y ≤ x
  | .gt => y < x
  | .le => x ≤ y
theorem gx_c_ok (c : ClassFile.Cond) (x y : Int32) : sx_cond c x y = true ↔ gx_c c x.toInt y.toInt := by
  rw [bx_cI_ok]
  cases c <;> simp [bx_cI, gx_c]
noncomputable def gx_isIf (M : sx_M) (pc : Nat) (c : ClassFile.Cond) (t : Nat) : Bool := match sx_row M pc with
  | some (_, .ifCond c' off, _) => decide (c' = c) && decide ((pc : Int) + off = (t : Int))
  | _ => false
noncomputable def gx_isCmp (M : sx_M) (pc : Nat) (c : ClassFile.Cond) (t : Nat) : Bool := match sx_row M pc with
  | some (_, .if_icmp c' off, _) => decide (c' = c) && decide ((pc : Int) + off = (t : Int))
  | _ => false
theorem sx_row_pc {M : sx_M} {pc : Nat} {E : sx_E} (h : sx_row M pc = some E) : E.1 = pc := by
  unfold sx_row at h
  rw [sx_fnd_eq] at h
  simpa using List.find?_some h
theorem gx_if {x : Int} (c : ClassFile.Cond) (t : Nat) (hE : gx_isIf M pc c t = true) (h1 : gx_c c x 0 → gx_to xs w0 d M t L st m Q) (h2 : ¬ gx_c c x 0 → gx_to xs w0 d M (pc + 3) L st m Q) : gx_to xs w0 d M pc L (.inl x :: st) m Q := by
  unfold gx_isIf at hE
  split at hE
  · rename_i p c' off rest hrow
    rw [Bool.and_eq_true, decide_eq_true_eq, decide_eq_true_eq] at hE
    obtain ⟨rfl, ho⟩ := hE
    have hp : p = pc := sx_row_pc hrow
    subst hp
    intro lv sv w hl hs hw hm
    obtain ⟨u, s1, rfl, g1, g2⟩ := gx_hs1 hs
    obtain ⟨z, rfl, rfl⟩ := gx_g_int g1
    have hz : (0 : Int32).toInt = 0 := rfl
    by_cases hc : gx_c c' z.toInt 0
    · obtain ⟨o, ro, k1, k2, k3, k4⟩ := h1 hc lv s1 w hl g2 hw hm
      have hcb : sx_cond c' z 0 = true := (gx_c_ok c' z 0).mpr hc
      refine ⟨o, ro, fx_if hrow (by omega) ?_, k2, k3, k4⟩
      rw [if_pos hcb, ho, Int.toNat_natCast]
      exact k1
    · obtain ⟨o, ro, k1, k2, k3, k4⟩ := h2 hc lv s1 w hl g2 hw hm
      have hcb : ¬ sx_cond c' z 0 = true := fun h => hc ((gx_c_ok c' z 0).mp h)
      refine ⟨o, ro, fx_if hrow (by omega) ?_, k2, k3, k4⟩
      rw [if_neg hcb]
      exact k1
  · cases hE
theorem gx_cmp {x y : Int} (c : ClassFile.Cond) (t : Nat) (hE : gx_isCmp M pc c t = true) (h1 : gx_c c x y → gx_to xs w0 d M t L st m Q) (h2 : ¬ gx_c c x y → gx_to xs w0 d M (pc + 3) L st m Q) : gx_to xs w0 d M pc L (.inl y :: .inl x :: st) m Q := by
  unfold gx_isCmp at hE
  split at hE
  · rename_i p c' off rest hrow
    rw [Bool.and_eq_true, decide_eq_true_eq, decide_eq_true_eq] at hE
    obtain ⟨rfl, ho⟩ := hE
    have hp : p = pc := sx_row_pc hrow
    subst hp
    intro lv sv w hl hs hw hm
    obtain ⟨u, s1, rfl, g1, g2⟩ := gx_hs1 hs
    obtain ⟨v, s2, rfl, g3, g4⟩ := gx_hs1 g2
    obtain ⟨b, rfl, rfl⟩ := gx_g_int g1
    obtain ⟨z, rfl, rfl⟩ := gx_g_int g3
    by_cases hc : gx_c c' z.toInt b.toInt
    · obtain ⟨o, ro, k1, k2, k3, k4⟩ := h1 hc lv s2 w hl g4 hw hm
      refine ⟨o, ro, fx_cmp hrow (by omega) ?_, k2, k3, k4⟩
      rw [if_pos ((gx_c_ok c' z b).mpr hc), ho, Int.toNat_natCast]
      exact k1
    · obtain ⟨o, ro, k1, k2, k3, k4⟩ := h2 hc lv s2 w hl g4 hw hm
      refine ⟨o, ro, fx_cmp hrow (by omega) ?_, k2, k3, k4⟩
      rw [if_neg (fun h => hc ((gx_c_ok c' z b).mp h))]
      exact k1
  · cases hE
/-! ends -/
noncomputable def gx_isR (M : sx_M) (pc : Nat) (I : Instr) (ty : Option FieldType) : Bool := (match sx_row M pc with
  | some E => decide (E.2.1 = I)
  | none => false) && decide (M.2.2.2.1 = ty)
theorem gx_isR_ok {I : Instr} {ty : Option FieldType} (h : gx_isR M pc I ty = true) : ∃ E, sx_row M pc = some E ∧ E.2.1 = I ∧ M.2.2.2.1 = ty := by
  unfold gx_isR at h
  rw [Bool.and_eq_true, decide_eq_true_eq] at h
  obtain ⟨h1, h2⟩ := h
  split at h1
  · rename_i E hE
    exact ⟨E, hE, of_decide_eq_true h1, h2⟩
  · cases h1
theorem gx_ret0 (hE : gx_isR M pc .return_ none = true) (h : Q none m) : gx_to xs w0 d M pc L [] m Q := by
  obtain ⟨E, h1, h2, h3⟩ := gx_isR_ok hE
  intro lv sv w hl hs hw hm
  have := gx_hs0 hs
  subst this
  refine ⟨(none, w), none, sx_rn_ret h1 (by rw [h2]; rfl) (by rw [h2, h3]; rfl), hw, trivial, ?_⟩
  rw [hm]; exact h
theorem gx_reti {x : Int} (hE : gx_isR M pc .ireturn (some .int) = true) (h : Q (some x) m) : gx_to xs w0 d M pc L [.inl x] m Q := by
  obtain ⟨E, h1, h2, h3⟩ := gx_isR_ok hE
  intro lv sv w hl hs hw hm
  obtain ⟨u, s1, rfl, g1, g2⟩ := gx_hs1 hs
  have := gx_hs0 g2
  subst this
  obtain ⟨z, rfl, rfl⟩ := gx_g_int g1
  refine ⟨(some (.int z), w), some z.toInt, sx_rn_ret h1 (by rw [h2]; rfl) (by rw [h2, h3]; dsimp only [sx_retOk]; exact if_pos rfl), hw, ⟨z, rfl, rfl⟩, ?_⟩
  rw [hm]; exact h
theorem gx_retb {x : Int} (hE : gx_isR M pc .ireturn (some .boolean) = true) (hx : x = 0 ∨ x = 1) (h : Q (some x) m) : gx_to xs w0 d M pc L [.inl x] m Q := by
  obtain ⟨E, h1, h2, h3⟩ := gx_isR_ok hE
  intro lv sv w hl hs hw hm
  obtain ⟨u, s1, rfl, g1, g2⟩ := gx_hs1 hs
  have := gx_hs0 g2
  subst this
  obtain ⟨z, rfl, rfl⟩ := gx_g_int g1
  have hz : z = 0 ∨ z = 1 := by
    rcases hx with hx | hx
    · exact .inl (Int32.toInt_inj.mp hx)
    · exact .inr (Int32.toInt_inj.mp hx)
  refine ⟨(some (.int z), w), some z.toInt, sx_rn_ret h1 (by rw [h2]; rfl) ?_, hw, ⟨z, rfl, rfl⟩, ?_⟩
  · rw [h2, h3]
    rcases hz with rfl | rfl <;> rfl
  · rw [hm]; exact h
/-! calls -/
noncomputable def gx_ck (M M' : sx_M) (pc n k : Nat) (c : Option Nat) : Bool := (match sx_row M pc with
  | some E => !(sx_isRet E.2.1) && sx_isCall E && (match yp_P.2.2.2.1[E.2.2.2.1]? with
    | some M1 => decide (M1.1 = M'.1) && decide (M1.2.1 = M'.2.1)
    | none => false)
  | none => false) && decide (M'.2.2.2.2.1 = n) && decide (k ≤ 8) && decide (n ≤ M'.2.2.1) && (match c with
    | none => M'.2.2.2.2.2.1
    | some c => (match fx_S[c]? with
      | some (ci, _) => decide (ci < 100) && (match yp_P.2.1[ci]? with
        | some (C, _, _) => decide (C = M'.1.cls)
        | none => false)
      | none => false))
theorem gx_call {M' : sx_M} {E : sx_E} {d : Nat} (vs R : List gx_V) (hE : sx_row M pc = some E) (hI : sx_isRet E.2.1 = false ∧ sx_isCall E = true) (hM' : yp_P.2.2.2.1[E.2.2.2.1]? = some M') (hn : M'.2.2.2.2.1 = vs.length) (hk : R.length ≤ 8) (hL : vs.length ≤ M'.2.2.1)
    (hr : ∀ (w : sx_W) (av : List Value), bx_in fx_S w → gx_hs av vs → sx_recv yp_P M' w av = true)
    (h : gx_to xs w0 d M' 0 (gx_args 0 vs) [] m (fun r m' => gx_to xs w0 (d + 1) M (pc + 3) L (gx_rs r ++ R) m' Q)) : gx_to xs w0 (d + 1) M pc L (vs.reverse ++ R) m Q := by
  intro lv sv w hl hs hw hm
  obtain ⟨h1, h2⟩ := gx_hs_app hs
  rw [List.length_reverse] at h1 h2
  have h3 : gx_hs (sv.take vs.length).reverse vs := by
    have := gx_hs_rev h1
    rwa [List.reverse_reverse] at this
  have hlen := gx_hs_len hs
  rw [List.length_append, List.length_reverse] at hlen
  obtain ⟨o, r, k1, k2, k3, k4⟩ := h _ [] w (gx_args_ok 0 h3) trivial hw hm
  obtain ⟨o2, r2, j1, j2, j3, j4⟩ := k4 lv (o.1.toList ++ sv.drop vs.length) o.2 hl (gx_hs_cat (gx_ro_hs k3) h2) k2 rfl
  refine ⟨o2, r2, sx_rn_call hE hI.1 hI.2 hM' ?_ (by rw [hn]; exact k1) (by rw [hn]; exact j1), j2, j3, j4⟩
  unfold sx_callOk
  rw [hn]
  simp only [Bool.and_eq_true, decide_eq_true_eq]
  refine ⟨⟨⟨by omega, ?_⟩, ?_⟩, hr w _ hw.1 h3⟩
  · rw [gx_hs_csum h2]; exact hk
  · rw [gx_hs_csum h1, List.length_reverse]; exact hL
theorem gx_calls {M' : sx_M} {E : sx_E} {d : Nat} (vs R : List gx_V) {st : List gx_V} (hst : st = vs.reverse ++ R) (hE : gx_rowB M E = true) (hp : E.1 = pc) (hI : sx_isRet E.2.1 = false ∧ sx_isCall E = true) (hM' : yp_P.2.2.2.1[E.2.2.2.1]? = some M') (hn : M'.2.2.2.2.1 = vs.length) (hk : R.length ≤ 8) (hL : vs.length ≤ M'.2.2.1) (hst' : M'.2.2.2.2.2.1 = true)
    (h : gx_to xs w0 d M' 0 (gx_args 0 vs) [] m (fun r m' => gx_to xs w0 (d + 1) M (pc + 3) L (gx_rs r ++ R) m' Q)) : gx_to xs w0 (d + 1) M pc L st m Q := by
  subst hst
  subst hp
  exact gx_call vs R (gx_rowB_ok hE) hI hM' hn hk hL (fun w av _ _ => by unfold sx_recv; rw [hst']; rfl) h
def gx_clsB (M' : sx_M) (c : Nat) : Bool := match fx_S[c]? with
  | some (ci, _) => decide (ci < 100) && (match yp_P.2.1[ci]? with
    | some (C, _, _) => decide (C = M'.1.cls)
    | none => false)
  | none => false
theorem gx_callv {M' : sx_M} {E : sx_E} {d c : Nat} (vs R : List gx_V) {st : List gx_V} (hst : st = (.inr c :: vs).reverse ++ R) (hE : gx_rowB M E = true) (hp : E.1 = pc) (hI : sx_isRet E.2.1 = false ∧ sx_isCall E = true) (hM' : yp_P.2.2.2.1[E.2.2.2.1]? = some M') (hn : M'.2.2.2.2.1 = vs.length + 1) (hk : R.length ≤ 8) (hL : vs.length + 1 ≤ M'.2.2.1) (hcl : gx_clsB M' c = true)
    (h : gx_to xs w0 d M' 0 (gx_args 0 (.inr c :: vs)) [] m (fun r m' => gx_to xs w0 (d + 1) M (pc + 3) L (gx_rs r ++ R) m' Q)) : gx_to xs w0 (d + 1) M pc L st m Q := by
  subst hst
  subst hp
  refine gx_call (.inr c :: vs) R (gx_rowB_ok hE) hI hM' hn hk hL (fun w av hw ha => ?_) h
  obtain ⟨u, r, rfl, g1, g2⟩ := gx_hs1 ha
  have e : u = .ref c := g1
  subst e
  unfold sx_recv
  rw [Bool.or_eq_true]
  right
  dsimp only
  rw [Bool.or_eq_true]
  right
  unfold gx_clsB at hcl
  split at hcl
  · rename_i ci q hS
    obtain ⟨vs', e1, -, -⟩ := hw.2 c ci q hS
    rw [e1]
    exact hcl
  · cases hcl
end GXC
