/-! PARTIAL RUNS, 4: runs, blocks, branches, switches, calls, ends -/
def hro (r : Option hV) (v : Option Value) : Prop := match r, v with
  | none, none => True
  | some x, some u => hg x u
  | _, _ => False
def hrs : Option hV → List hV
  | none => []
  | some v => [v]
theorem hro_hs {r : Option hV} {v : Option Value} (h : hro r v) : hs v.toList (hrs r) := by
  cases r <;> cases v
  · trivial
  · exact h.elim
  · exact h.elim
  · exact ⟨h, trivial⟩
/-- every run of n steps from here on that ends comes to an answer and a memory that Q holds of -/
noncomputable def hxn (xs : List Int32) (n : Nat) (M : sx_M) (pc : Nat) (L : hLs) (st : List hV) (m : gx_M) (Q : hQ) : Prop :=
  ∀ (d : Nat) (lv : sx_L) (sv : List Value) (w : sx_W) (o : sx_O), hl lv L → hs sv st → bx_in fx_S w → hm w = m → sx_ev yp_P xs n d M pc lv sv w = some o → ∃ r, hro r o.1 ∧ bx_in fx_S o.2 ∧ Q r (hm o.2)
noncomputable def hrows (M : sx_M) : Nat → List (sx_E × gx_A) → Nat → Bool
  | pc, [], n => decide (pc = n)
  | pc, p :: r, n => decide (p.1.1 = pc) && gx_rowB M p.1 && !(sx_isRet p.1.2.1) && !(sx_isCall p.1) && hokA p.1 p.2 && hrows M (hnx p.1) r n
def hrun (xs : List Int32) : List (sx_E × gx_A) → hLs → List hV → gx_M → Option hR
  | [], L, st, m => some (L, st, m)
  | p :: r, L, st, m => match h1 xs p.1 p.2 L st m with
    | some q => hrun xs r q.1 q.2.1 q.2.2
    | none => none
section HXR
variable {xs : List Int32} {n : Nat} {M : sx_M} {pc : Nat} {L : hLs} {st : List hV} {m : gx_M} {Q : hQ}
theorem hx_0 : hxn xs 0 M pc L st m Q := fun d lv sv w o _ _ _ _ h => by cases h
theorem hx_le {k : Nat} (hk : n ≤ k) (h : hxn xs k M pc L st m Q) : hxn xs n M pc L st m Q :=
  fun d lv sv w o h1 h2 h3 h4 h5 => h d lv sv w o h1 h2 h3 h4 (sx_ev_le hk _ _ _ _ _ _ _ h5)
theorem hx_dn (h : hxn xs (n + 1) M pc L st m Q) : hxn xs n M pc L st m Q := hx_le (Nat.le_succ n) h
theorem hx_mono {Q' : hQ} (h : hxn xs n M pc L st m Q) (hq : ∀ r m', Q r m' → Q' r m') : hxn xs n M pc L st m Q' := by
  intro d lv sv w o h1 h2 h3 h4 h5
  obtain ⟨r, g1, g2, g3⟩ := h d lv sv w o h1 h2 h3 h4 h5
  exact ⟨r, g1, g2, hq _ _ g3⟩
theorem hx_sub {L' : hLs} (hs' : ∀ q ∈ L', q ∈ L) (h : hxn xs n M pc L' st m Q) : hxn xs n M pc L st m Q :=
  fun d lv sv w o h1 h2 h3 h4 => h d lv sv w o (fun q hq => h1 q (hs' q hq)) h2 h3 h4
theorem hx_pick (is : List Nat) (h : hxn xs n M pc (hpick L is) st m Q) : hxn xs n M pc L st m Q := hx_sub (fun _ hq => hpick_mem hq) h
theorem hx_run : ∀ (R : List (sx_E × gx_A)) (n pc npc : Nat) (L : hLs) (st : List hV) (m : gx_M) (r : hR), hrows M pc R npc = true → hrun xs R L st m = some r → (∀ k, k ≤ n → (R ≠ [] → k + 1 ≤ n) → hxn xs k M npc r.1 r.2.1 r.2.2 Q) → hxn xs n M pc L st m Q
  | [], n, pc, npc, L, st, m, r, hR, h, hk => by
    have e : pc = npc := of_decide_eq_true hR
    subst e
    cases h
    exact hk n (Nat.le_refl _) (fun h => absurd rfl h)
  | p :: R, n, pc, npc, L, st, m, r, hR, h, hk => by
    unfold hrows at hR
    simp only [Bool.and_eq_true, decide_eq_true_eq, Bool.not_eq_true'] at hR
    obtain ⟨⟨⟨⟨⟨e1, e2⟩, e3⟩, e4⟩, e5⟩, e6⟩ := hR
    subst e1
    unfold hrun at h
    split at h
    · rename_i q hq
      cases n with
      | zero => exact hx_0
      | succ n =>
        have hrest : hxn xs n M (hnx p.1) q.1 q.2.1 q.2.2 Q := hx_run R n _ npc q.1 q.2.1 q.2.2 r e6 h (fun k hk1 _ => hk k (by omega) (fun _ => by omega))
        intro d lv sv w o hl' hs' hw hm' he
        unfold sx_ev sx_ev1 at he
        rw [gx_rowB_ok e2] at he
        dsimp only at he
        rw [if_neg (by rw [e3]; decide), if_neg (by rw [e4]; decide)] at he
        split at he
        · rename_i r' hr'
          split at he
          · obtain ⟨k1, k2, k3, k4, k5⟩ := h1_ok hq e5 hl' hs' hw hm' hr'
            rw [k1] at he
            exact hrest d _ _ _ o k2 k3 k4 k5 he
          · cases he
        · cases he
    · cases h
theorem hx_blk {npc : Nat} {L' : hLs} {st' : List hV} {m' : gx_M} (R : List (sx_E × gx_A)) (hR : hrows M pc R npc = true) (h : hrun xs R L st m = some (L', st', m')) (hk : hxn xs n M npc L' st' m' Q) : hxn xs n M pc L st m Q :=
  hx_run R n pc npc L st m _ hR h (fun k hk1 _ => hx_le hk1 hk)
theorem hx_blks {npc : Nat} {L' : hLs} {st' : List hV} {m' : gx_M} (p : sx_E × gx_A) (R : List (sx_E × gx_A)) (hR : hrows M pc (p :: R) npc = true) (h : hrun xs (p :: R) L st m = some (L', st', m')) (hk : hxn xs n M npc L' st' m' Q) : hxn xs (n + 1) M pc L st m Q :=
  hx_run (p :: R) (n + 1) pc npc L st m _ hR h (fun k _ hk2 => hx_le (by have := hk2 (by simp); omega) hk)
/-- one step at a branch -/
theorem hx_step1 {E : sx_E} (hE : sx_row M pc = some E) (h1 : sx_isRet E.2.1 = false) (h2 : sx_isCall E = false) (h : ∀ (lv : sx_L) (sv : List Value) (w : sx_W) (r' : sx_R), hl lv L → hs sv st → sx_step yp_P xs M.2.2.1 E lv sv w = some r' → ∃ (npc : Nat) (L' : hLs) (st' : List hV), r'.1 = npc ∧ hl r'.2.1 L' ∧ hs r'.2.2.1 st' ∧ r'.2.2.2.1 = w ∧ hxn xs n M npc L' st' m Q) : hxn xs (n + 1) M pc L st m Q := by
  intro d lv sv w o hl' hs' hw hm' he
  unfold sx_ev sx_ev1 at he
  rw [hE] at he
  dsimp only at he
  rw [if_neg (by rw [h1]; decide), if_neg (by rw [h2]; decide)] at he
  split at he
  · rename_i r' hr'
    split at he
    · obtain ⟨npc, L', st', k1, k2, k3, k4, k5⟩ := h lv sv w r' hl' hs' hr'
      rw [k1] at he
      exact k5 d _ _ _ o k2 k3 (by rw [k4]; exact hw) (by rw [k4]; exact hm') he
    · cases he
  · cases he
theorem hx_ifs {x : Int} (c : ClassFile.Cond) (t : Nat) (hE : gx_isIf M pc c t = true) (h1 : gx_c c x 0 → hxn xs n M t L st m Q) (h2 : ¬ gx_c c x 0 → hxn xs n M (pc + 3) L st m Q) : hxn xs (n + 1) M pc L (.inl x :: st) m Q := by
  unfold gx_isIf at hE
  split at hE
  · rename_i p c' off rest hrow
    rw [Bool.and_eq_true, decide_eq_true_eq, decide_eq_true_eq] at hE
    obtain ⟨rfl, ho⟩ := hE
    have hp : p = pc := sx_row_pc hrow
    subst hp
    refine hx_step1 hrow rfl rfl (fun lv sv w r' hl' hs' hr => ?_)
    obtain ⟨u, s1, rfl, g1, g2⟩ := hs1 hs'
    obtain ⟨z, rfl, rfl⟩ := hg_int g1
    have hr : sx_jmp p off lv s1 w (sx_cond c' z 0) = some r' := hr
    obtain ⟨tgt, e1, e2⟩ := sx_jmp_inv hr
    subst e2
    have et : tgt = t := by omega
    by_cases hc : gx_c c' z.toInt 0
    · rw [(gx_c_ok c' z 0).mpr hc, if_pos rfl, et]
      exact ⟨_, _, _, rfl, hl', g2, rfl, h1 hc⟩
    · have hcb : sx_cond c' z 0 = false := by
        cases e : sx_cond c' z 0 with
        | false => rfl
        | true => exact absurd ((gx_c_ok c' z 0).mp e) hc
      rw [hcb, if_neg (by decide)]
      exact ⟨_, _, _, rfl, hl', g2, rfl, h2 hc⟩
  · cases hE
theorem hx_cmps {x y : Int} (c : ClassFile.Cond) (t : Nat) (hE : gx_isCmp M pc c t = true) (h1 : gx_c c x y → hxn xs n M t L st m Q) (h2 : ¬ gx_c c x y → hxn xs n M (pc + 3) L st m Q) : hxn xs (n + 1) M pc L (.inl y :: .inl x :: st) m Q := by
  unfold gx_isCmp at hE
  split at hE
  · rename_i p c' off rest hrow
    rw [Bool.and_eq_true, decide_eq_true_eq, decide_eq_true_eq] at hE
    obtain ⟨rfl, ho⟩ := hE
    have hp : p = pc := sx_row_pc hrow
    subst hp
    refine hx_step1 hrow rfl rfl (fun lv sv w r' hl' hs' hr => ?_)
    obtain ⟨u, s1, rfl, g1, g2⟩ := hs1 hs'
    obtain ⟨v, s2, rfl, g3, g4⟩ := hs1 g2
    obtain ⟨b, rfl, rfl⟩ := hg_int g1
    obtain ⟨z, rfl, rfl⟩ := hg_int g3
    have hr : sx_jmp p off lv s2 w (sx_cond c' z b) = some r' := hr
    obtain ⟨tgt, e1, e2⟩ := sx_jmp_inv hr
    subst e2
    have et : tgt = t := by omega
    by_cases hc : gx_c c' z.toInt b.toInt
    · rw [(gx_c_ok c' z b).mpr hc, if_pos rfl, et]
      exact ⟨_, _, _, rfl, hl', g4, rfl, h1 hc⟩
    · have hcb : sx_cond c' z b = false := by
        cases e : sx_cond c' z b with
        | false => rfl
        | true => exact absurd ((gx_c_ok c' z b).mp e) hc
      rw [hcb, if_neg (by decide)]
      exact ⟨_, _, _, rfl, hl', g4, rfl, h2 hc⟩
  · cases hE
theorem hx_if {x : Int} (c : ClassFile.Cond) (t : Nat) (hE : gx_isIf M pc c t = true) (h1 : gx_c c x 0 → hxn xs n M t L st m Q) (h2 : ¬ gx_c c x 0 → hxn xs n M (pc + 3) L st m Q) : hxn xs n M pc L (.inl x :: st) m Q := hx_dn (hx_ifs c t hE h1 h2)
theorem hx_cmp {x y : Int} (c : ClassFile.Cond) (t : Nat) (hE : gx_isCmp M pc c t = true) (h1 : gx_c c x y → hxn xs n M t L st m Q) (h2 : ¬ gx_c c x y → hxn xs n M (pc + 3) L st m Q) : hxn xs n M pc L (.inl y :: .inl x :: st) m Q := hx_dn (hx_cmps c t hE h1 h2)
/-! switches: the ways in a row, each under its number, the last one under none of them -/
noncomputable def hsw (xs : List Int32) (n : Nat) (M : sx_M) (L : hLs) (st : List hV) (m : gx_M) (Q : hQ) (x : Int) (dt : Nat) : List (Int × Nat) → Prop
  | [] => hxn xs n M dt L st m Q
  | p :: r => (x = p.1 → hxn xs n M p.2 L st m Q) ∧ (x ≠ p.1 → hsw xs n M L st m Q x dt r)
theorem hsw_n {x : Int} {dt : Nat} (h : hxn xs n M dt L st m Q) : hsw xs n M L st m Q x dt [] := h
theorem hsw_c {x v : Int} {dt t : Nat} {r : List (Int × Nat)} (h : x = v → hxn xs n M t L st m Q) (h' : x ≠ v → hsw xs n M L st m Q x dt r) : hsw xs n M L st m Q x dt ((v, t) :: r) := ⟨h, h'⟩
noncomputable def hisTsw (M : sx_M) (pc dt : Nat) (kts : List (Int × Nat)) : Bool := match sx_row M pc with
  | some (_, .tableswitch d lo hi offs, _) => decide ((pc : Int) + d = (dt : Int)) && decide (offs.toList.map (fun o => (pc : Int) + o) = kts.map (fun q => ((q.2 : Nat) : Int))) && decide (kts.map (fun q => q.1) = (List.range kts.length).map (fun (i : Nat) => lo + (i : Int))) && decide (lo + kts.length = hi + 1)
  | _ => false
noncomputable def hisLsw (M : sx_M) (pc dt : Nat) (kts : List (Int × Nat)) : Bool := match sx_row M pc with
  | some (_, .lookupswitch d ps, _) => decide ((pc : Int) + d = (dt : Int)) && decide (ps.toList.map (fun p => (p.1, (pc : Int) + p.2)) = kts.map (fun q => (q.1, ((q.2 : Nat) : Int))))
  | _ => false
theorem hsw_none {x : Int} {dt : Nat} : ∀ (kts : List (Int × Nat)), (∀ q ∈ kts, x ≠ q.1) → hsw xs n M L st m Q x dt kts → hxn xs n M dt L st m Q
  | [], _, h => h
  | p :: r, hn, h => hsw_none r (fun q hq => hn q (List.mem_cons_of_mem _ hq)) (h.2 (hn p List.mem_cons_self))
theorem hsw_at {x : Int} {dt : Nat} : ∀ (kts : List (Int × Nat)) (j : Nat) (t : Nat), kts[j]? = some (x, t) → (∀ i q, i < j → kts[i]? = some q → x ≠ q.1) → hsw xs n M L st m Q x dt kts → hxn xs n M t L st m Q
  | [], j, t, hj, _, _ => by cases hj
  | p :: r, 0, t, hj, _, h => by
    cases hj
    exact h.1 rfl
  | p :: r, j + 1, t, hj, hn, h => hsw_at r j t hj (fun i q hi hq => hn (i + 1) q (by omega) hq) (h.2 (hn 0 p (by omega) rfl))
theorem hx_tsws {x : Int} (dt : Nat) (kts : List (Int × Nat)) (hE : hisTsw M pc dt kts = true) (h : hsw xs n M L st m Q x dt kts) : hxn xs (n + 1) M pc L (.inl x :: st) m Q := by
  unfold hisTsw at hE
  split at hE
  · rename_i p dd lo hi offs rest hrow
    simp only [Bool.and_eq_true, decide_eq_true_eq] at hE
    obtain ⟨⟨⟨hdt, hts⟩, hks⟩, hlen⟩ := hE
    have hp : p = pc := sx_row_pc hrow
    subst hp
    have hkey : ∀ (i : Nat) (q : Int × Nat), kts[i]? = some q → q.1 = lo + (i : Int) := by
      intro i q hq
      have hi' : i < kts.length := (List.getElem?_eq_some_iff.mp hq).1
      have e1 : (kts.map (fun q => q.1))[i]? = some q.1 := by rw [List.getElem?_map, hq]; rfl
      rw [hks, List.getElem?_map, List.getElem?_range hi'] at e1
      exact (Option.some.inj e1).symm
    refine hx_step1 hrow rfl rfl (fun lv sv w r' hl' hs' hr => ?_)
    obtain ⟨u, s1, rfl, g1, g2⟩ := hs1 hs'
    obtain ⟨z, rfl, rfl⟩ := hg_int g1
    have hr : sx_tsw p lv (.int z :: s1) w dd lo hi offs = some r' := hr
    unfold sx_tsw at hr
    dsimp only at hr
    split at hr
    · rename_i hc
      obtain ⟨tgt, e1, e2⟩ := sx_jmp_inv hr
      subst e2
      rw [if_pos rfl]
      have et : tgt = dt := by omega
      subst et
      refine ⟨_, _, _, rfl, hl', g2, rfl, hsw_none kts (fun q hq hx => ?_) h⟩
      obtain ⟨i, hi1, hi2⟩ := List.getElem_of_mem hq
      have := hkey i q (by rw [List.getElem?_eq_getElem hi1, hi2])
      omega
    · rename_i hc
      split at hr
      · rename_i off hoff
        obtain ⟨tgt, e1, e2⟩ := sx_jmp_inv hr
        subst e2
        rw [if_pos rfl]
        have hj : (z.toInt - lo).toNat < kts.length := by omega
        have hkj := List.getElem?_eq_getElem hj
        have ek := hkey _ _ hkj
        have hoff' : offs.toList[(z.toInt - lo).toNat]? = some off := by rw [Array.getElem?_toList]; exact hoff
        have e3 : (offs.toList.map (fun o => (p : Int) + o))[(z.toInt - lo).toNat]? = some ((p : Int) + off) := by rw [List.getElem?_map, hoff']; rfl
        rw [hts, List.getElem?_map, hkj] at e3
        have e4 : ((kts[(z.toInt - lo).toNat].2 : Nat) : Int) = (p : Int) + off := Option.some.inj e3
        have et : tgt = kts[(z.toInt - lo).toNat].2 := by omega
        refine ⟨_, _, _, rfl, hl', g2, rfl, hsw_at kts (z.toInt - lo).toNat tgt ?_ (fun i q hi hq hx => ?_) h⟩
        · rw [hkj, et]
          exact congrArg some (Prod.ext (by rw [ek]; omega) rfl)
        · have := hkey i q hq
          omega
      · cases hr
  · cases hE
theorem hlsw_go {x : Int} {dt pc : Nat} {d : Int} (hd : (pc : Int) + d = (dt : Int)) : ∀ (ps : List (Int × Int)) (kts : List (Int × Nat)), ps.map (fun p => (p.1, (pc : Int) + p.2)) = kts.map (fun q => (q.1, ((q.2 : Nat) : Int))) → hsw xs n M L st m Q x dt kts → ∀ t : Nat, (pc : Int) + Op.lookupswitch.offset ps d x = (t : Int) → hxn xs n M t L st m Q
  | [], [], _, h, t, ht => by
    have e : Op.lookupswitch.offset [] d x = d := rfl
    rw [e] at ht
    have : t = dt := by omega
    subst this
    exact h
  | [], _ :: _, he, _, _, _ => by cases he
  | _ :: _, [], he, _, _, _ => by cases he
  | (k, o) :: ps, (k', t') :: kts, he, h, t, ht => by
    rw [List.map_cons, List.map_cons] at he
    obtain ⟨h1, h2⟩ := List.cons.inj he
    have ek : k = k' := congrArg Prod.fst h1
    have eo : (pc : Int) + o = ((t' : Nat) : Int) := congrArg Prod.snd h1
    subst ek
    rw [Op.lookupswitch.offset_cons] at ht
    by_cases hk : x = k
    · rw [if_pos (by first | exact hk | exact hk.symm)] at ht
      have : t = t' := by omega
      subst this
      exact h.1 hk
    · rw [if_neg (by first | exact hk | exact fun e => hk e.symm)] at ht
      exact hlsw_go hd ps kts h2 (h.2 hk) t ht
theorem hx_lsws {x : Int} (dt : Nat) (kts : List (Int × Nat)) (hE : hisLsw M pc dt kts = true) (h : hsw xs n M L st m Q x dt kts) : hxn xs (n + 1) M pc L (.inl x :: st) m Q := by
  unfold hisLsw at hE
  split at hE
  · rename_i p dd ps rest hrow
    simp only [Bool.and_eq_true, decide_eq_true_eq] at hE
    obtain ⟨hdt, hts⟩ := hE
    have hp : p = pc := sx_row_pc hrow
    subst hp
    refine hx_step1 hrow rfl rfl (fun lv sv w r' hl' hs' hr => ?_)
    obtain ⟨u, s1, rfl, g1, g2⟩ := hs1 hs'
    obtain ⟨z, rfl, rfl⟩ := hg_int g1
    have hr : sx_lsw p lv (.int z :: s1) w dd ps = some r' := hr
    unfold sx_lsw at hr
    dsimp only at hr
    split at hr
    · obtain ⟨tgt, e1, e2⟩ := sx_jmp_inv hr
      subst e2
      rw [if_pos rfl]
      exact ⟨_, _, _, rfl, hl', g2, rfl, hlsw_go hdt ps.toList kts hts h tgt e1⟩
    · cases hr
  · cases hE
theorem hx_tsw {x : Int} (dt : Nat) (kts : List (Int × Nat)) (hE : hisTsw M pc dt kts = true) (h : hsw xs n M L st m Q x dt kts) : hxn xs n M pc L (.inl x :: st) m Q := hx_dn (hx_tsws dt kts hE h)
theorem hx_lsw {x : Int} (dt : Nat) (kts : List (Int × Nat)) (hE : hisLsw M pc dt kts = true) (h : hsw xs n M L st m Q x dt kts) : hxn xs n M pc L (.inl x :: st) m Q := hx_dn (hx_lsws dt kts hE h)
/-! ends -/
noncomputable def hisR (M : sx_M) (pc : Nat) (I : Instr) : Bool := match sx_row M pc with
  | some E => decide (E.2.1 = I)
  | none => false
theorem hisR_ok {I : Instr} (h : hisR M pc I = true) : ∃ E, sx_row M pc = some E ∧ E.2.1 = I := by
  unfold hisR at h
  split at h
  · rename_i E hE
    exact ⟨E, hE, of_decide_eq_true h⟩
  · cases h
theorem hx_end {E : sx_E} (hE : sx_row M pc = some E) (h1 : sx_isRet E.2.1 = true) (h : ∀ (sv : List Value) (r : Option Value), hs sv st → sx_retOk M.2.2.2.1 E.2.1 sv = some r → ∃ r', hro r' r ∧ Q r' m) : hxn xs n M pc L st m Q := by
  cases n with
  | zero => exact hx_0
  | succ n =>
    intro d lv sv w o hl' hs' hw hm' he
    unfold sx_ev sx_ev1 at he
    rw [hE] at he
    dsimp only at he
    rw [if_pos h1] at he
    cases hr : sx_retOk M.2.2.2.1 E.2.1 sv with
    | none => rw [hr] at he; cases he
    | some r =>
      rw [hr] at he
      cases he
      obtain ⟨r', g1, g2⟩ := h sv r hs' hr
      exact ⟨r', g1, hw, by rw [hm']; exact g2⟩
theorem hx_ret0 (hE : hisR M pc .return_ = true) (h : Q none m) : hxn xs n M pc L [] m Q := by
  obtain ⟨E, h1, h2⟩ := hisR_ok hE
  refine hx_end h1 (by rw [h2]; rfl) (fun sv r hs' hr => ?_)
  have := hs0 hs'
  subst this
  rw [h2] at hr
  generalize M.2.2.2.1 = rt at hr
  unfold sx_retOk at hr
  split at hr
  · cases hr; exact ⟨none, trivial, h⟩
  · rename_i e; cases e
  · rename_i e; cases e
  · cases hr
theorem hx_reti {x : Int} (hE : hisR M pc .ireturn = true) (h : Q (some (.inl x)) m) : hxn xs n M pc L [.inl x] m Q := by
  obtain ⟨E, h1, h2⟩ := hisR_ok hE
  refine hx_end h1 (by rw [h2]; rfl) (fun sv r hs' hr => ?_)
  obtain ⟨u, s1, rfl, g1, g2⟩ := hs1 hs'
  have := hs0 g2
  subst this
  rw [h2] at hr
  generalize M.2.2.2.1 = rt at hr
  unfold sx_retOk at hr
  split at hr
  · rename_i e _; cases e
  · rename_i ty v e1 e2 e3
    cases e3
    split at hr
    · cases hr
      exact ⟨some (.inl x), g1, h⟩
    · cases hr
  · rename_i e _; cases e
  · cases hr
theorem hx_retl {x : Int} (hE : hisR M pc .lreturn = true) (h : Q (some (.inr (.inr x))) m) : hxn xs n M pc L [.inr (.inr x)] m Q := by
  obtain ⟨E, h1, h2⟩ := hisR_ok hE
  refine hx_end h1 (by rw [h2]; rfl) (fun sv r hs' hr => ?_)
  obtain ⟨u, s1, rfl, g1, g2⟩ := hs1 hs'
  have := hs0 g2
  subst this
  rw [h2] at hr
  generalize M.2.2.2.1 = rt at hr
  unfold sx_retOk at hr
  split at hr
  · rename_i e _; cases e
  · rename_i e _; cases e
  · rename_i v e1 e2 e3
    cases e3
    cases hr
    exact ⟨some (.inr (.inr x)), g1, h⟩
  · cases hr
/-! calls -/
theorem hx_calls {M' : sx_M} {E : sx_E} (vs R : List hV) {st : List hV} (hst : st = vs.reverse ++ R) (hE : gx_rowB M E = true) (hp : E.1 = pc) (hI : sx_isRet E.2.1 = false ∧ sx_isCall E = true) (hM' : yp_P.2.2.2.1[E.2.2.2.1]? = some M') (hn : M'.2.2.2.2.1 = vs.length)
    (h : hxn xs n M' 0 (hargs 0 vs) [] m (fun r m' => hxn xs n M (pc + 3) L (hrs r ++ R) m' Q)) : hxn xs (n + 1) M pc L st m Q := by
  subst hst
  subst hp
  intro d lv sv w o hl' hs' hw hm' he
  unfold sx_ev sx_ev1 at he
  rw [gx_rowB_ok hE] at he
  dsimp only at he
  rw [if_neg (by rw [hI.1]; decide), if_pos hI.2] at he
  split at he
  · rename_i M1 d' hM1
    have hMe : M1 = M' := by
      have e := hM1
      rw [hM'] at e
      exact (Option.some.inj e).symm
    subst hMe
    split at he
    · split at he
      · rename_i o1 ho1
        obtain ⟨k1, k2⟩ := hs_app hs'
        rw [List.length_reverse] at k1 k2
        have k3 : hs (sv.take vs.length).reverse vs := by
          have := hs_rev k1
          rwa [List.reverse_reverse] at this
        rw [hn] at ho1 he
        obtain ⟨r, j1, j2, j3⟩ := h d' _ [] w o1 (hargs_ok 0 k3) trivial hw hm' ho1
        exact j3 (d' + 1) lv _ o1.2 o hl' (hs_cat (hro_hs j1) k2) j2 rfl he
      · cases he
    · cases he
  · cases he
theorem hx_call {M' : sx_M} {E : sx_E} (vs R : List hV) {st : List hV} (hst : st = vs.reverse ++ R) (hE : gx_rowB M E = true) (hp : E.1 = pc) (hI : sx_isRet E.2.1 = false ∧ sx_isCall E = true) (hM' : yp_P.2.2.2.1[E.2.2.2.1]? = some M') (hn : M'.2.2.2.2.1 = vs.length)
    (h : hxn xs n M' 0 (hargs 0 vs) [] m (fun r m' => hxn xs n M (pc + 3) L (hrs r ++ R) m' Q)) : hxn xs n M pc L st m Q := hx_dn (hx_calls vs R hst hE hp hI hM' hn h)
end HXR
