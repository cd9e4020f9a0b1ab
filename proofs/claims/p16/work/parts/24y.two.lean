/-! a loop read in two stretches: from its head to places, and from these on -/
section BX2
variable {P : sx_P} {xs : List Int32} {INV : ax_W} {PC : bx_M} {X : sx_W → Prop} {T : List bx_K}
theorem bx_once2 {M : sx_M} {mi pc dk d0 : Nat} {pre : ax_L} {prek : bx_Q} {exits : List bx_E} {mods : bx_M} {lm : List Nat} {ctr : Option (Nat × Bool)} {outs : List bx_O} (hct : bx_ctrok INV pre prek ctr = true) (hall : outs.all (bx_fit INV (mi, pc, pre, prek, exits, mods, lm, dk, ctr)) = true) {stops : List Nat} {lv : sx_L} {w : sx_W} (hl : bx_cl pre lv) (hw : bx_in INV w ∧ X w) (hq : bx_cq xs prek w) (hout : ∀ vs, bx_ok xs INV X vs (bx_st0 pc pre prek) lv [] w → bx_out P xs (INV, PC, mods, lm) X stops d0 M outs vs pc lv [] w) :
    bx_post P xs INV X M pc exits mods lm d0 lv w ∨ ∃ (c : Nat × Bool) (lv' : sx_L) (w' : sx_W), ctr = some c ∧ bx_cl pre lv' ∧ (bx_in INV w' ∧ X w') ∧ bx_cq xs prek w' ∧ bx_fw xs mods w w' ∧ bx_fl lm lv lv' ∧ (∀ o, sx_rn P xs d0 M pc lv' [] w' o → sx_rn P xs d0 M pc lv [] w o) ∧ ∃ x y : Int32, bx_ctv xs c.1 lv w = some (.int x) ∧ bx_ctv xs c.1 lv' w' = some (.int y) ∧ (if c.2 = true then x.toInt + 1 ≤ y.toInt else y.toInt + 1 ≤ x.toInt) := by
  obtain ⟨vs1, x1, x2, x3⟩ := bx_frl_ok pre [] [] ⟨rfl, fun i q z h => by simp at h⟩ hl
  obtain ⟨vs, y1, y2, y3⟩ := bx_frq_ok prek _ vs1 x2 hq
  have hok : bx_ok xs INV X vs (bx_st0 pc pre prek) lv [] w := ⟨y2, y1.gl x3, rfl, hw, y3, fun q hq => by cases hq⟩
  have hl0 : bx_gl vs (bx_frl [] pre).2 lv := y1.gl x3
  obtain ⟨o, hom, vs', hx, lv', w', fw, hmt⟩ := hout vs hok
  have hfit := List.all_eq_true.mp hall o hom
  obtain ⟨r, S⟩ := o
  unfold bx_fit at hfit
  dsimp only at hfit
  match r, hmt, hfit with
  | some r, hmt, hfit =>
    left
    obtain ⟨g1, rv, g2, g3⟩ := hmt
    obtain ⟨e, hem, h1⟩ := List.any_eq_true.mp hfit
    obtain ⟨ret, rest⟩ := e
    match ret, h1, hem with
    | none, h1, hem => cases h1
    | some r', h1, hem =>
      rw [Bool.and_eq_true] at h1
      exact ⟨_, hem, lv', w', g1.2.1, bx_entq_ok g1.2.1.1 g1.1 g1.2.2.1 h1.2, fw, rv, bx_leO_ok g1.1 h1.1 g2, g3⟩
  | none, hmt, hfit =>
    obtain ⟨g1, g2, g3, g4⟩ := hmt
    obtain ⟨j1, j2, j3, j4, j5, j6⟩ := g1
    rw [Bool.or_eq_true] at hfit
    rcases hfit with hfit | hfit
    · right
      cases ctr with
      | none => cases hfit
      | some c =>
        dsimp only at hfit
        simp only [Bool.and_eq_true, decide_eq_true_eq] at hfit
        obtain ⟨⟨⟨f1, f2⟩, f3⟩, f4⟩ := hfit
        have f1' : S.2.1 = pc := f1
        rw [f1'] at g4
        refine ⟨c, lv', w', rfl, bx_entl_ok j1 j2 f2, j4, bx_entq_ok j4.1 j1 j5 f3, fw, g2, g4, ?_⟩
        unfold bx_prog at f4
        split at f4
        · rename_i a b ha hb
          obtain ⟨va, p1, p2⟩ := bx_ctv_ok (xs := xs) hct hw.1 (hx.gl hl0) (hx.kn y3) ha
          obtain ⟨vb, q1, q2⟩ := bx_ctv_ok (xs := xs) hct j4.1 j2 j5 hb
          simp only [Bool.and_eq_true, decide_eq_true_eq] at f4
          obtain ⟨⟨a4, b4⟩, f5⟩ := f4
          rcases p2 with ⟨-, x, za, rfl, hza, hx1⟩ | ⟨hn, -⟩
          · rcases q2 with ⟨-, y, zb, rfl, hzb, hy1⟩ | ⟨hn, -⟩
            · refine ⟨x, y, p1, q1, ?_⟩
              by_cases hup : c.2 = true
              · rw [if_pos hup] at f5 ⊢
                rw [Bool.or_eq_true] at f5
                rcases f5 with f5 | f5
                · simp only [Bool.and_eq_true, decide_eq_true_eq] at f5
                  rw [f5.1, hza] at hzb
                  cases hzb
                  omega
                · obtain ⟨zi, zj, d1, d2, d3⟩ := bx_dle_ok j6 f5
                  rw [d1] at hzb
                  rw [d2] at hza
                  cases hza; cases hzb
                  omega
              · rw [if_neg hup] at f5 ⊢
                simp only [Bool.and_eq_true, decide_eq_true_eq] at f5
                rw [f5.1, hza] at hzb
                cases hzb
                omega
            · exact absurd b4 hn
          · exact absurd a4 hn
        · cases f4
    · left
      obtain ⟨e, hem, h1⟩ := List.any_eq_true.mp hfit
      obtain ⟨ret, epc, rest⟩ := e
      match ret, h1, hem with
      | some r', h1, hem => cases h1
      | none, h1, hem =>
        simp only [Bool.and_eq_true, decide_eq_true_eq] at h1
        obtain ⟨⟨f1, f2⟩, f3⟩ := h1
        have f1' : epc = S.2.1 := f1
        exact ⟨_, hem, lv', w', j4, bx_entq_ok j4.1 j1 j5 f3, fw, bx_entl_ok j1 j2 f2, g2, fun o ho => g4 o (by rw [← f1']; exact ho)⟩

theorem bx_chk2_ok {M : sx_M} {mi pc dk : Nat} {pre : ax_L} {prek : bx_Q} {exits : List bx_E} {mods : bx_M} {lm : List Nat} {ctr : Option (Nat × Bool)} {outs : List bx_O} {stops : List Nat} (hctr : bx_ctrok INV pre prek ctr = true) (h : outs.all (bx_fit INV (mi, pc, pre, prek, exits, mods, lm, dk, ctr)) = true) (hout : ∀ d0, dk ≤ d0 → ∀ (vs : List Int) (lv : sx_L) (w : sx_W), bx_ok xs INV X vs (bx_st0 pc pre prek) lv [] w → bx_out P xs (INV, PC, mods, lm) X stops d0 M outs vs pc lv [] w) : bx_KokM P xs INV X M (mi, pc, pre, prek, exits, mods, lm, dk, ctr) := by
  intro d0 hd lv w hl hw hq
  show bx_post P xs INV X M pc exits mods lm d0 lv w
  cases ctr with
  | none =>
    rcases bx_once2 (PC := PC) (stops := stops) hctr h hl hw hq (fun vs hok => hout d0 hd vs _ _ hok) with h1 | ⟨c, lv', w', hc, -⟩
    · exact h1
    · cases hc
  | some c =>
    obtain ⟨⟨lo, hi⟩, hbe⟩ : ∃ b, b = bx_ctb pre prek c.1 := ⟨_, rfl⟩
    have hbd : ∀ (lv : sx_L) (w : sx_W), bx_cl pre lv → bx_cq xs prek w → ∀ x : Int32, bx_ctv xs c.1 lv w = some (.int x) → lo ≤ x.toInt ∧ x.toInt ≤ hi := by
      intro lv w hl hq x hx
      unfold bx_ctrok at hctr
      unfold bx_ctv at hx
      unfold bx_ctb at hbe
      dsimp only at hctr
      by_cases hs : c.1 < 1000
      · rw [if_pos hs] at hctr hx hbe
        cases ha : ax_get pre c.1 with
        | none => rw [ha] at hctr; cases hctr
        | some a =>
          rw [ha] at hctr hbe
          have ha0 : a.1 = 0 := of_decide_eq_true hctr
          unfold ax_get at ha
          cases hf : pre.find? (fun q => q.1 == c.1) with
          | none => rw [hf] at ha; cases ha
          | some q =>
            rw [hf] at ha
            have h1 := List.find?_some hf
            have e1 : q.1 = c.1 := by simpa using h1
            have e2 : q.2 = a := Option.some.inj ha
            obtain ⟨v, h1, h2, h3⟩ := hl q (List.mem_of_find?_eq_some hf)
            rw [e1, hx] at h1
            cases h1
            rw [e2] at h3
            obtain ⟨t, la, hb⟩ := a
            dsimp only at ha0 hbe
            subst ha0
            cases hbe
            obtain ⟨y, e, h4, h5⟩ := h3
            cases e
            exact ⟨h4, h5⟩
      · rw [if_neg hs] at hctr hx hbe
        split at hctr
        · rename_i q t r hf hI
          rw [hf] at hbe
          simp only [Bool.and_eq_true, decide_eq_true_eq] at hctr
          have h1 := List.find?_some hf
          simp only [Bool.and_eq_true, decide_eq_true_eq] at h1
          obtain ⟨-, h3⟩ := hq q (List.mem_of_find?_eq_some hf) (.int x) (by rw [h1.1, h1.2]; exact hx)
          obtain ⟨qc, qk, t', la, hb⟩ := q
          have ht : t' = 0 := hctr.1.1
          dsimp only at hbe h3
          subst ht
          cases hbe
          obtain ⟨y, e, h4, h5⟩ := h3
          cases e
          exact ⟨h4, h5⟩
        · cases hctr
    have main : ∀ (m : Nat) (lv : sx_L) (w : sx_W), bx_cl pre lv → bx_in INV w ∧ X w → bx_cq xs prek w → (∀ x : Int32, bx_ctv xs c.1 lv w = some (.int x) → (if c.2 = true then hi - x.toInt else x.toInt - lo) < (m : Int)) → bx_post P xs INV X M pc exits mods lm d0 lv w := by
      intro m
      induction m with
      | zero =>
        intro lv w hl hw hq hm
        rcases bx_once2 (PC := PC) (stops := stops) hctr h hl hw hq (fun vs hok => hout d0 hd vs _ _ hok) with h1 | ⟨c', lv', w', hc, g1, g2, g3, g4, g5, g6, x, y, g7, g8, g9⟩
        · exact h1
        · cases hc
          have b1 := hbd lv w hl hq x g7
          have b2 := hm x g7
          split at b2 <;> omega
      | succ m ih =>
        intro lv w hl hw hq hm
        rcases bx_once2 (PC := PC) (stops := stops) hctr h hl hw hq (fun vs hok => hout d0 hd vs _ _ hok) with h1 | ⟨c', lv', w', hc, g1, g2, g3, g4, g5, g6, x, y, g7, g8, g9⟩
        · exact h1
        · cases hc
          refine bx_post_tr g4 g5 g6 (ih lv' w' g1 g2 g3 (fun z hz => ?_))
          rw [g8] at hz
          cases hz
          have b2 := hm x g7
          by_cases hup : c.2 = true
          · rw [if_pos hup] at b2 g9 ⊢
            omega
          · rw [if_neg hup] at b2 g9 ⊢
            omega
    have hx0 : ∃ m : Nat, hi - lo < (m : Int) := ⟨(hi - lo).toNat + 1, by omega⟩
    obtain ⟨m, hm⟩ := hx0
    refine main m lv w hl hw hq (fun x hx => ?_)
    have b1 := hbd lv w hl hq x hx
    split <;> omega
/-- the two stretches put together -/
theorem bx_two (hxs : xs.length ≤ 4096) (hX : bx_keeps xs PC X) (hT : ∀ K ∈ T, bx_Kok P xs INV X K) {M : sx_M} {mi pc dk n : Nat} {pre : ax_L} {prek : bx_Q} {mods : bx_M} {lm : List Nat} {stops stops1 : List Nat} {outs1 outs : List bx_O} (hmi : ∀ K ∈ T, K.1 = mi → bx_KokM P xs INV X M K) (h1 : bx_run P T n dk (INV, PC, mods, lm) M mi stops1 true (bx_st0 pc pre prek) = some outs1)
    (h2 : ∀ o ∈ outs1, o.1 = none ∧ ∃ (n2 : Nat) (T2 : List bx_K) (outs2 : List bx_O), (∀ K ∈ T2, bx_Kok P xs INV X K) ∧ (∀ K ∈ T2, K.1 = mi → bx_KokM P xs INV X M K) ∧ bx_run P T2 n2 dk (INV, PC, mods, lm) M mi stops false o.2 = some outs2 ∧ ∀ y ∈ outs2, y ∈ outs) : ∀ d0, dk ≤ d0 → ∀ (vs : List Int) (lv : sx_L) (w : sx_W), bx_ok xs INV X vs (bx_st0 pc pre prek) lv [] w → bx_out P xs (INV, PC, mods, lm) X stops d0 M outs vs pc lv [] w := by
  intro d0 hd vs lv w hok
  obtain ⟨o, hom, vs', hx, lv', w', fw, hmt⟩ := bx_run_ok hxs hX hT n dk mods lm M mi _ true _ outs1 hmi h1 vs lv [] w hok d0 hd
  obtain ⟨hn, n2, T2, outs2, g1, g2, g3, g4⟩ := h2 o hom
  obtain ⟨r, S⟩ := o
  dsimp only at hn
  subst hn
  obtain ⟨j1, j2, -, j4⟩ := hmt
  exact bx_out_back hx j2 fw j4 g4 (bx_run_ok hxs hX g1 n2 dk mods lm M mi _ false S outs2 g2 g3 vs' lv' [] w' j1 d0 hd)
end BX2
