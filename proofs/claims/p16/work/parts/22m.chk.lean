/-! a contract out of a run of the second reader; loops by their counters: a local, or (from 1000 on) a place of the world -/
def bx_ctv (xs : List Int32) (s : Nat) (lv : sx_L) (w : sx_W) : Option Value := if s < 1000 then sx_get lv s else bx_rd xs w ((s - 1000) / 5000) ((s - 1000) % 5000)
def bx_cta (l : ax_L) (kn : bx_Kn) (s : Nat) : Option ax_V := if s < 1000 then ax_get l s else bx_find kn ((s - 1000) / 5000) (some (0, (((s - 1000) % 5000 : Nat) : Int), (((s - 1000) % 5000 : Nat) : Int)))
def bx_prog (df : bx_Df) (up : Bool) (a b : Option ax_V) : Bool := match a, b with
  | some a, some b => decide (a.1 = 4) && decide (b.1 = 4) && (if up = true then (decide (b.2.1.toNat = a.2.1.toNat) && decide (a.2.2 + 1 ≤ b.2.2)) || bx_dle df b.2.1.toNat a.2.1.toNat (a.2.2 + 1 - b.2.2) else decide (b.2.1.toNat = a.2.1.toNat) && decide (b.2.2 + 1 ≤ a.2.2))
  | _, _ => false
def bx_leO (env : ax_N) (r r' : Option ax_V) : Bool := match r, r' with
  | none, none => true
  | some b, some a => bx_leC env b a
  | _, _ => false
def bx_st0 (pc : Nat) (pre : ax_L) (prek : bx_Q) : bx_S := ((bx_frq (bx_frl [] pre).1 prek).1, pc, (bx_frl [] pre).2, [], (bx_frq (bx_frl [] pre).1 prek).2, [])
def bx_fit (INV : ax_W) (K : bx_K) (o : bx_O) : Bool := match K with
  | (_, pc, pre, prek, exits, _, _, _, ctr) => match o.1 with
    | some r => exits.any (fun e => match e.1 with
      | some r' => bx_leO o.2.1 r r' && bx_entq INV o.2.1 o.2.2.2.2.2.1 e.2.2.2
      | none => false)
    | none => (match ctr with
      | some c => decide (o.2.2.1 = pc) && bx_entl o.2.1 o.2.2.2.1 pre && bx_entq INV o.2.1 o.2.2.2.2.2.1 prek && bx_prog o.2.2.2.2.2.2 c.2 (bx_cta (bx_frl [] pre).2 (bx_frq (bx_frl [] pre).1 prek).2 c.1) (bx_cta o.2.2.2.1 o.2.2.2.2.2.1 c.1)
      | none => false) || exits.any (fun e => match e.1 with
      | none => decide (e.2.1 = o.2.2.1) && bx_entl o.2.1 o.2.2.2.1 e.2.2.1 && bx_entq INV o.2.1 o.2.2.2.2.2.1 e.2.2.2
      | some _ => false)
def bx_stops (pc : Nat) (exits : List bx_E) (ctr : Option (Nat × Bool)) : List Nat := (match ctr with
  | some _ => [pc]
  | none => []) ++ (exits.filter (fun e => e.1.isNone)).map (fun e => e.2.1)
def bx_ctrok (INV : ax_W) (pre : ax_L) (prek : bx_Q) (ctr : Option (Nat × Bool)) : Bool := match ctr with
  | some c => if c.1 < 1000 then (match ax_get pre c.1 with
    | some a => decide (a.1 = 0)
    | none => false) else (match prek.find? (fun q => decide (q.1 = (c.1 - 1000) / 5000) && decide (q.2.1 = (c.1 - 1000) % 5000)), INV[(c.1 - 1000) / 5000]? with
    | some q, some (_, r) => decide (q.2.2.1 = 0) && decide ((c.1 - 1000) / 5000 < 100000) && decide ((c.1 - 1000) % 5000 < ax_len r)
    | _, _ => false)
  | none => true
def bx_ctb (pre : ax_L) (prek : bx_Q) (s : Nat) : Int × Int := if s < 1000 then (match ax_get pre s with
    | some a => a.2
    | none => (0, 0)) else (match prek.find? (fun q => decide (q.1 = (s - 1000) / 5000) && decide (q.2.1 = (s - 1000) % 5000)) with
    | some q => q.2.2.2
    | none => (0, 0))
noncomputable def bx_chk (P : sx_P) (T : List bx_K) (n : Nat) (INV : ax_W) (PC : bx_M) (M : sx_M) (K : bx_K) : Bool := match K with
  | (mi, pc, pre, prek, exits, mods, lm, dk, ctr) => bx_ctrok INV pre prek ctr && match bx_run P T n dk (INV, PC, mods, lm) M mi (bx_stops pc exits ctr) true (bx_st0 pc pre prek) with
    | some outs => outs.all (bx_fit INV K)
    | none => false
section BXK
variable {P : sx_P} {xs : List Int32} {INV : ax_W} {PC : bx_M} {X : sx_W → Prop} {T : List bx_K}
noncomputable def bx_post (P : sx_P) (xs : List Int32) (INV : ax_W) (X : sx_W → Prop) (M : sx_M) (pc : Nat) (exits : List bx_E) (mods : bx_M) (lm : List Nat) (d0 : Nat) (lv : sx_L) (w : sx_W) : Prop :=
  ∃ e ∈ exits, ∃ (lv' : sx_L) (w' : sx_W), (bx_in INV w' ∧ X w') ∧ bx_cq xs e.2.2.2 w' ∧ bx_fw xs mods w w' ∧ (match e.1 with
      | none => bx_cl e.2.2.1 lv' ∧ bx_fl lm lv lv' ∧ ∀ o, sx_rn P xs d0 M e.2.1 lv' [] w' o → sx_rn P xs d0 M pc lv [] w o
      | some r => ∃ rv, bx_co r rv ∧ sx_rn P xs d0 M pc lv [] w (rv, w'))
theorem bx_post_tr {M : sx_M} {pc d0 : Nat} {exits : List bx_E} {mods : bx_M} {lm : List Nat} {lv lv1 : sx_L} {w w1 : sx_W} (fw : bx_fw xs mods w w1) (fl : bx_fl lm lv lv1) (hr : ∀ o, sx_rn P xs d0 M pc lv1 [] w1 o → sx_rn P xs d0 M pc lv [] w o) (h : bx_post P xs INV X M pc exits mods lm d0 lv1 w1) : bx_post P xs INV X M pc exits mods lm d0 lv w := by
  obtain ⟨e, hm, lv', w', h1, h2, h3, h4⟩ := h
  refine ⟨e, hm, lv', w', h1, h2, fw.tr h3, ?_⟩
  obtain ⟨ret, rest⟩ := e
  match ret, h4 with
  | none, h4 => exact ⟨h4.1, fl.tr h4.2.1, fun o ho => hr o (h4.2.2 o ho)⟩
  | some r, h4 =>
    obtain ⟨rv, g1, g2⟩ := h4
    exact ⟨rv, g1, hr _ g2⟩
theorem bx_st0_ok {pc : Nat} {pre : ax_L} {prek : bx_Q} {lv : sx_L} {w : sx_W} (hl : bx_cl pre lv) (hw : bx_in INV w ∧ X w) (hq : bx_cq xs prek w) : ∃ vs, bx_ok xs INV X vs (bx_st0 pc pre prek) lv [] w := by
  obtain ⟨vs1, x1, x2, x3⟩ := bx_frl_ok pre [] [] ⟨rfl, fun i q z h => by simp at h⟩ hl
  obtain ⟨vs2, y1, y2, y3⟩ := bx_frq_ok prek _ vs1 x2 hq
  exact ⟨vs2, y2, y1.gl x3, rfl, hw, y3, fun q hq => by cases hq⟩
theorem bx_leO_ok {env : ax_N} {vs : List Int} {r r' : Option ax_V} {rv : Option Value} (he : bx_env env vs) (h : bx_leO env r r' = true) (hg : bx_go vs r rv) : bx_co r' rv := by
  match r, r', rv, h, hg with
  | none, none, none, _, _ => trivial
  | some b, some a, some v, h, hg => exact bx_leC_ok he h hg
  | none, none, some v, _, hg => exact hg.elim
  | some b, some a, none, _, hg => exact hg.elim
  | none, some a, _, h, _ => cases h
  | some b, none, _, h, _ => cases h
theorem bx_ctv_ok {s : Nat} {vs : List Int} {l : ax_L} {kn : bx_Kn} {lv : sx_L} {w : sx_W} {a : ax_V} {pre : ax_L} {prek : bx_Q} {up : Bool} (hc : bx_ctrok INV pre prek (some (s, up)) = true) (hw : bx_in INV w) (hl : bx_gl vs l lv) (hk : ∀ q ∈ kn, bx_kn xs vs w q) (h : bx_cta l kn s = some a) : ∃ v, bx_ctv xs s lv w = some v ∧ bx_g vs a v := by
  unfold bx_cta at h
  unfold bx_ctv
  unfold bx_ctrok at hc
  dsimp only at hc
  by_cases hs : s < 1000
  · rw [if_pos hs] at h ⊢
    exact bx_gl_get hl h
  · rw [if_neg hs] at h hc ⊢
    generalize (s - 1000) / 5000 = cc at h hc ⊢
    generalize (s - 1000) % 5000 = kk at h hc ⊢
    split at hc
    · rename_i q t r hq hI
      simp only [Bool.and_eq_true, decide_eq_true_eq] at hc
      obtain ⟨⟨-, c1⟩, c2⟩ := hc
      obtain ⟨cs, e1, e2, -⟩ := hw.2 _ t r hI
      have hlt : kk < cs.length := by omega
      have hr : bx_rd xs w (cc) (kk) = some (cs[kk]'hlt) := by
        rw [bx_rd_w c1, e1]
        exact List.getElem?_eq_getElem hlt
      obtain ⟨j, hj, hm⟩ := bx_find_ok h
      cases hj
      obtain ⟨z, g1, g2⟩ := hk _ hm
      have g1' : bx_ixz vs (0, ((kk : Nat) : Int), ((kk : Nat) : Int)) = some z := g1
      rw [bx_ixk] at g1'
      cases g1'
      exact ⟨_, hr, g2 _ (Int.natCast_nonneg _) (by rw [Int.toNat_natCast]; exact hr)⟩
    · cases hc
/-- from the start: an end, or the head again with the counter further on -/
theorem bx_once (hxs : xs.length ≤ 4096) (hX : bx_keeps xs PC X) (hT : ∀ K ∈ T, bx_Kok P xs INV X K) {M : sx_M} {n mi pc dk d0 : Nat} {pre : ax_L} {prek : bx_Q} {exits : List bx_E} {mods : bx_M} {lm : List Nat} {ctr : Option (Nat × Bool)} (hmi : ∀ K ∈ T, K.1 = mi → bx_KokM P xs INV X M K) {outs : List bx_O} (hrun : bx_run P T n dk (INV, PC, mods, lm) M mi (bx_stops pc exits ctr) true (bx_st0 pc pre prek) = some outs) (hct : bx_ctrok INV pre prek ctr = true) (hall : outs.all (bx_fit INV (mi, pc, pre, prek, exits, mods, lm, dk, ctr)) = true) (hd : dk ≤ d0) {lv : sx_L} {w : sx_W} (hl : bx_cl pre lv) (hw : bx_in INV w ∧ X w) (hq : bx_cq xs prek w) :
    bx_post P xs INV X M pc exits mods lm d0 lv w ∨ ∃ (c : Nat × Bool) (lv' : sx_L) (w' : sx_W), ctr = some c ∧ bx_cl pre lv' ∧ (bx_in INV w' ∧ X w') ∧ bx_cq xs prek w' ∧ bx_fw xs mods w w' ∧ bx_fl lm lv lv' ∧ (∀ o, sx_rn P xs d0 M pc lv' [] w' o → sx_rn P xs d0 M pc lv [] w o) ∧ ∃ x y : Int32, bx_ctv xs c.1 lv w = some (.int x) ∧ bx_ctv xs c.1 lv' w' = some (.int y) ∧ (if c.2 = true then x.toInt + 1 ≤ y.toInt else y.toInt + 1 ≤ x.toInt) := by
  obtain ⟨vs1, x1, x2, x3⟩ := bx_frl_ok pre [] [] ⟨rfl, fun i q z h => by simp at h⟩ hl
  obtain ⟨vs, y1, y2, y3⟩ := bx_frq_ok prek _ vs1 x2 hq
  have hok : bx_ok xs INV X vs (bx_st0 pc pre prek) lv [] w := ⟨y2, y1.gl x3, rfl, hw, y3, fun q hq => by cases hq⟩
  have hl0 : bx_gl vs (bx_frl [] pre).2 lv := y1.gl x3
  obtain ⟨o, hom, vs', hx, lv', w', fw, hmt⟩ := bx_run_ok hxs hX hT n dk mods lm M mi _ true _ outs hmi hrun vs lv [] w hok d0 hd
  have hfit := List.all_eq_true.mp hall o hom
  obtain ⟨r, S⟩ := o
  unfold bx_fit at hfit
  dsimp only at hfit
  match r, hmt, hfit with
  | some r, hmt, hfit =>
    left
    obtain ⟨g1, rv, g2, g3⟩ := hmt
    obtain ⟨e, hem, h1⟩ := List.any_eq_true.mp hfit
    obtain ⟨ret, rest⟩ := e
    match ret, h1, hem with
    | none, h1, hem => cases h1
    | some r', h1, hem =>
      rw [Bool.and_eq_true] at h1
      exact ⟨_, hem, lv', w', g1.2.1, bx_entq_ok g1.2.1.1 g1.1 g1.2.2.1 h1.2, fw, rv, bx_leO_ok g1.1 h1.1 g2, g3⟩
  | none, hmt, hfit =>
    obtain ⟨g1, g2, g3, g4⟩ := hmt
    obtain ⟨j1, j2, j3, j4, j5, j6⟩ := g1
    rw [Bool.or_eq_true] at hfit
    rcases hfit with hfit | hfit
    · right
      cases ctr with
      | none => cases hfit
      | some c =>
        dsimp only at hfit
        simp only [Bool.and_eq_true, decide_eq_true_eq] at hfit
        obtain ⟨⟨⟨f1, f2⟩, f3⟩, f4⟩ := hfit
        have f1' : S.2.1 = pc := f1
        rw [f1'] at g4
        refine ⟨c, lv', w', rfl, bx_entl_ok j1 j2 f2, j4, bx_entq_ok j4.1 j1 j5 f3, fw, g2, g4, ?_⟩
        unfold bx_prog at f4
        split at f4
        · rename_i a b ha hb
          obtain ⟨va, p1, p2⟩ := bx_ctv_ok (xs := xs) hct hw.1 (hx.gl hl0) (hx.kn y3) ha
          obtain ⟨vb, q1, q2⟩ := bx_ctv_ok (xs := xs) hct j4.1 j2 j5 hb
          simp only [Bool.and_eq_true, decide_eq_true_eq] at f4
          obtain ⟨⟨a4, b4⟩, f5⟩ := f4
          rcases p2 with ⟨-, x, za, rfl, hza, hx1⟩ | ⟨hn, -⟩
          · rcases q2 with ⟨-, y, zb, rfl, hzb, hy1⟩ | ⟨hn, -⟩
            · refine ⟨x, y, p1, q1, ?_⟩
              by_cases hup : c.2 = true
              · rw [if_pos hup] at f5 ⊢
                rw [Bool.or_eq_true] at f5
                rcases f5 with f5 | f5
                · simp only [Bool.and_eq_true, decide_eq_true_eq] at f5
                  rw [f5.1, hza] at hzb
                  cases hzb
                  omega
                · obtain ⟨zi, zj, d1, d2, d3⟩ := bx_dle_ok j6 f5
                  rw [d1] at hzb
                  rw [d2] at hza
                  cases hza; cases hzb
                  omega
              · rw [if_neg hup] at f5 ⊢
                simp only [Bool.and_eq_true, decide_eq_true_eq] at f5
                rw [f5.1, hza] at hzb
                cases hzb
                omega
            · exact absurd b4 hn
          · exact absurd a4 hn
        · cases f4
    · left
      obtain ⟨e, hem, h1⟩ := List.any_eq_true.mp hfit
      obtain ⟨ret, epc, rest⟩ := e
      match ret, h1, hem with
      | some r', h1, hem => cases h1
      | none, h1, hem =>
        simp only [Bool.and_eq_true, decide_eq_true_eq] at h1
        obtain ⟨⟨f1, f2⟩, f3⟩ := h1
        have f1' : epc = S.2.1 := f1
        exact ⟨_, hem, lv', w', j4, bx_entq_ok j4.1 j1 j5 f3, fw, bx_entl_ok j1 j2 f2, g2, fun o ho => g4 o (by rw [← f1']; exact ho)⟩
theorem bx_chk_ok (hxs : xs.length ≤ 4096) (hX : bx_keeps xs PC X) (hT : ∀ K ∈ T, bx_Kok P xs INV X K) {M : sx_M} {n : Nat} {K : bx_K} (hmi : ∀ k ∈ T, k.1 = K.1 → bx_KokM P xs INV X M k) (h : bx_chk P T n INV PC M K = true) : bx_KokM P xs INV X M K := by
  obtain ⟨mi, pc, pre, prek, exits, mods, lm, dk, ctr⟩ := K
  unfold bx_chk at h
  dsimp only at h
  rw [Bool.and_eq_true] at h
  obtain ⟨hctr, h⟩ := h
  split at h
  · rename_i outs hrun
    intro d0 hd lv w hl hw hq
    show bx_post P xs INV X M pc exits mods lm d0 lv w
    cases ctr with
    | none =>
      rcases bx_once hxs hX hT hmi hrun hctr h hd hl hw hq with h1 | ⟨c, lv', w', hc, -⟩
      · exact h1
      · cases hc
    | some c =>
      obtain ⟨⟨lo, hi⟩, hbe⟩ : ∃ b, b = bx_ctb pre prek c.1 := ⟨_, rfl⟩
      have hbd : ∀ (lv : sx_L) (w : sx_W), bx_cl pre lv → bx_cq xs prek w → ∀ x : Int32, bx_ctv xs c.1 lv w = some (.int x) → lo ≤ x.toInt ∧ x.toInt ≤ hi := by
        intro lv w hl hq x hx
        unfold bx_ctrok at hctr
        unfold bx_ctv at hx
        unfold bx_ctb at hbe
        dsimp only at hctr
        by_cases hs : c.1 < 1000
        · rw [if_pos hs] at hctr hx hbe
          cases ha : ax_get pre c.1 with
          | none => rw [ha] at hctr; cases hctr
          | some a =>
            rw [ha] at hctr hbe
            have ha0 : a.1 = 0 := of_decide_eq_true hctr
            unfold ax_get at ha
            cases hf : pre.find? (fun q => q.1 == c.1) with
            | none => rw [hf] at ha; cases ha
            | some q =>
              rw [hf] at ha
              have h1 := List.find?_some hf
              have e1 : q.1 = c.1 := by simpa using h1
              have e2 : q.2 = a := Option.some.inj ha
              obtain ⟨v, h1, h2, h3⟩ := hl q (List.mem_of_find?_eq_some hf)
              rw [e1, hx] at h1
              cases h1
              rw [e2] at h3
              obtain ⟨t, la, hb⟩ := a
              dsimp only at ha0 hbe
              subst ha0
              cases hbe
              obtain ⟨y, e, h4, h5⟩ := h3
              cases e
              exact ⟨h4, h5⟩
        · rw [if_neg hs] at hctr hx hbe
          split at hctr
          · rename_i q t r hf hI
            rw [hf] at hbe
            simp only [Bool.and_eq_true, decide_eq_true_eq] at hctr
            have h1 := List.find?_some hf
            simp only [Bool.and_eq_true, decide_eq_true_eq] at h1
            obtain ⟨-, h3⟩ := hq q (List.mem_of_find?_eq_some hf) (.int x) (by rw [h1.1, h1.2]; exact hx)
            obtain ⟨qc, qk, t', la, hb⟩ := q
            have ht : t' = 0 := hctr.1.1
            dsimp only at hbe h3
            subst ht
            cases hbe
            obtain ⟨y, e, h4, h5⟩ := h3
            cases e
            exact ⟨h4, h5⟩
          · cases hctr
      have main : ∀ (m : Nat) (lv : sx_L) (w : sx_W), bx_cl pre lv → bx_in INV w ∧ X w → bx_cq xs prek w → (∀ x : Int32, bx_ctv xs c.1 lv w = some (.int x) → (if c.2 = true then hi - x.toInt else x.toInt - lo) < (m : Int)) → bx_post P xs INV X M pc exits mods lm d0 lv w := by
        intro m
        induction m with
        | zero =>
          intro lv w hl hw hq hm
          rcases bx_once hxs hX hT hmi hrun hctr h hd hl hw hq with h1 | ⟨c', lv', w', hc, g1, g2, g3, g4, g5, g6, x, y, g7, g8, g9⟩
          · exact h1
          · cases hc
            have b1 := hbd lv w hl hq x g7
            have b2 := hm x g7
            split at b2 <;> omega
        | succ m ih =>
          intro lv w hl hw hq hm
          rcases bx_once hxs hX hT hmi hrun hctr h hd hl hw hq with h1 | ⟨c', lv', w', hc, g1, g2, g3, g4, g5, g6, x, y, g7, g8, g9⟩
          · exact h1
          · cases hc
            refine bx_post_tr g4 g5 g6 (ih lv' w' g1 g2 g3 (fun z hz => ?_))
            rw [g8] at hz
            cases hz
            have b2 := hm x g7
            by_cases hup : c.2 = true
            · rw [if_pos hup] at b2 g9 ⊢
              omega
            · rw [if_neg hup] at b2 g9 ⊢
              omega
      have hx0 : ∃ m : Nat, hi - lo < (m : Int) := ⟨(hi - lo).toNat + 1, by omega⟩
      obtain ⟨m, hm⟩ := hx0
      refine main m lv w hl hw hq (fun x hx => ?_)
      have b1 := hbd lv w hl hq x hx
      split <;> omega
  · cases h
/-- a contract of a method of the program -/
theorem bx_chk_K (hxs : xs.length ≤ 4096) (hX : bx_keeps xs PC X) (hT : ∀ K ∈ T, bx_Kok P xs INV X K) {M : sx_M} {n : Nat} {K : bx_K} (hM : P.2.2.2.1[K.1]? = some M) (h : bx_chk P T n INV PC M K = true) : bx_Kok P xs INV X K := by
  intro M' hM'
  rw [hM] at hM'
  cases hM'
  exact bx_chk_ok hxs hX hT (fun k hk e => hT k hk M (by rw [e]; exact hM)) h
end BXK
