/-! branches, switches -/
def bx_upd (env : ax_N) (a : ax_V) (p : Int × Int) : ax_N := if a.1 = 4 then env.set a.2.1.toNat (p.1 - a.2.2, p.2 - a.2.2) else env
theorem bx_upd_ok {env : ax_N} {vs : List Int} {a : ax_V} {p : Int × Int} {x : Int32} (he : bx_env env vs) (hg : bx_g vs a (.int x)) (h1 : p.1 ≤ x.toInt) (h2 : x.toInt ≤ p.2) : bx_env (bx_upd env a p) vs := by
  unfold bx_upd
  by_cases h4 : a.1 = 4
  · rw [if_pos h4]
    rcases hg with ⟨-, y, z, e, hz, hx⟩ | ⟨hn, -⟩
    · cases e
      refine ⟨by rw [List.length_set]; exact he.1, fun i q u hq hu => ?_⟩
      by_cases hi : i = a.2.1.toNat
      · subst hi
        have hl : a.2.1.toNat < env.length := by
          have := (List.getElem?_eq_some_iff.mp hq).1
          rwa [List.length_set] at this
        rw [List.getElem?_set_self hl] at hq
        rw [hz] at hu
        cases hq; cases hu
        exact ⟨by dsimp only; omega, by dsimp only; omega⟩
      · rw [List.getElem?_set_ne (Ne.symm hi)] at hq
        exact he.2 i q u hq hu
    · exact absurd h4 hn
  · rw [if_neg h4]; exact he
def bx_cI (k : ClassFile.Cond) (x y : Int) : Bool := match k with
  | .eq => decide (x = y)
  | .ne => !decide (x = y)
  | .lt => decide (x < y)
  | .ge => decide (y ≤ x)
  | .gt => decide (y < x)
  | .le => decide (x ≤ y)
theorem bx_cI_ok (k : ClassFile.Cond) (x y : Int32) : sx_cond k x y = bx_cI k x.toInt y.toInt := by
  cases k
  · exact decide_eq_decide.mpr ⟨fun h => by rw [h], fun h => Int32.toInt_inj.mp h⟩
  · show (!_) = (!_)
    congr 1
    exact decide_eq_decide.mpr ⟨fun h => by rw [h], fun h => Int32.toInt_inj.mp h⟩
  · exact decide_eq_decide.mpr Int32.lt_iff_toInt_lt
  · exact decide_eq_decide.mpr Int32.le_iff_toInt_le
  · exact decide_eq_decide.mpr Int32.lt_iff_toInt_lt
  · exact decide_eq_decide.mpr Int32.le_iff_toInt_le
theorem bx_cI_add (k : ClassFile.Cond) (z a b : Int) : bx_cI k (z + a) (z + b) = bx_cI k a b := by
  cases k
  · exact decide_eq_decide.mpr (by omega)
  · show (!_) = (!_)
    congr 1
    exact decide_eq_decide.mpr (by omega)
  · exact decide_eq_decide.mpr (by omega)
  · exact decide_eq_decide.mpr (by omega)
  · exact decide_eq_decide.mpr (by omega)
  · exact decide_eq_decide.mpr (by omega)
def bx_isNe (k : ClassFile.Cond) (t : Bool) : Bool := match k with
  | .ne => t
  | .eq => !t
  | _ => false
def bx_ways (k : ClassFile.Cond) (t : Bool) (env : ax_N) (a b : ax_V) (p q : Int × Int) : List ax_N := if ax_emp (ax_cut k t p q) = true then [] else
  if bx_isNe k t = true ∧ q.1 = q.2 ∧ [(0 : Int), 33, 40].contains q.1 = true ∧ p.1 < q.1 ∧ q.1 < p.2 then [bx_upd env a (p.1, q.1 - 1), bx_upd env a (q.1 + 1, p.2)] else [bx_upd (bx_upd env a (ax_cut k t p q).1) b (ax_cut k t p q).2]
/-- a is at least b and d -/
def bx_ge (a b : ax_V) (d : Int) : bx_Df := if a.1 = 4 ∧ b.1 = 4 then [(a.2.1.toNat, b.2.1.toNat, b.2.2 + d - a.2.2)] else []
def bx_dfs (k : ClassFile.Cond) (t : Bool) (a b : ax_V) : bx_Df := match k with
  | .lt => if t then bx_ge b a 1 else bx_ge a b 0
  | .ge => if t then bx_ge a b 0 else bx_ge b a 1
  | .gt => if t then bx_ge a b 1 else bx_ge b a 0
  | .le => if t then bx_ge b a 0 else bx_ge a b 1
  | _ => []
theorem bx_ge_ok {vs : List Int} {a b : ax_V} {x y : Int32} {d : Int} (ha : bx_g vs a (.int x)) (hb : bx_g vs b (.int y)) (h : y.toInt + d ≤ x.toInt) : ∀ q ∈ bx_ge a b d, bx_df vs q := by
  intro q hq
  unfold bx_ge at hq
  split at hq
  · rename_i h4
    rw [List.mem_singleton] at hq
    subst hq
    rcases ha with ⟨-, x', za, e, hza, hx⟩ | ⟨hn, -⟩
    · rcases hb with ⟨-, y', zb, e', hzb, hy⟩ | ⟨hn, -⟩
      · cases e; cases e'
        exact ⟨za, zb, hza, hzb, by dsimp only; omega⟩
      · exact absurd h4.2 hn
    · exact absurd h4.1 hn
  · cases hq
theorem bx_dfs_ok {vs : List Int} {a b : ax_V} {x y : Int32} {k : ClassFile.Cond} {t : Bool} (ha : bx_g vs a (.int x)) (hb : bx_g vs b (.int y)) (h : sx_cond k x y = t) : ∀ q ∈ bx_dfs k t a b, bx_df vs q := by
  rw [bx_cI_ok] at h
  unfold bx_dfs
  cases k <;> dsimp only [bx_cI] at h ⊢
  · exact fun q hq => by cases hq
  · exact fun q hq => by cases hq
  · cases t
    · have := of_decide_eq_false h
      exact bx_ge_ok ha hb (by omega)
    · have := of_decide_eq_true h
      exact bx_ge_ok hb ha (by omega)
  · cases t
    · have := of_decide_eq_false h
      exact bx_ge_ok hb ha (by omega)
    · have := of_decide_eq_true h
      exact bx_ge_ok ha hb (by omega)
  · cases t
    · have := of_decide_eq_false h
      exact bx_ge_ok hb ha (by omega)
    · have := of_decide_eq_true h
      exact bx_ge_ok ha hb (by omega)
  · cases t
    · have := of_decide_eq_false h
      exact bx_ge_ok ha hb (by omega)
    · have := of_decide_eq_true h
      exact bx_ge_ok hb ha (by omega)
theorem bx_ways_ok {env : ax_N} {vs : List Int} {k : ClassFile.Cond} {t : Bool} {a b : ax_V} {p q : Int × Int} {x y : Int32} (he : bx_env env vs) (ha : bx_g vs a (.int x)) (hb : bx_g vs b (.int y)) (hp : p.1 ≤ x.toInt ∧ x.toInt ≤ p.2) (hq : q.1 ≤ y.toInt ∧ y.toInt ≤ q.2) (h : sx_cond k x y = t) : ∃ e ∈ bx_ways k t env a b p q, bx_env e vs := by
  have hcut := ax_cut_ok k (x := x) (y := y) (p := p) (q := q) hp hq
  rw [h] at hcut
  have hne : ¬ ax_emp (ax_cut k t p q) = true := by
    have : ax_emp (ax_cut k t p q) = false := by
      unfold ax_emp
      obtain ⟨⟨q1, q2⟩, q3, q4⟩ := hcut
      simp only [Bool.or_eq_false_iff, decide_eq_false_iff_not]
      constructor <;> omega
    rw [this]; decide
  unfold bx_ways
  rw [if_neg hne]
  split
  · rename_i hc
    have hx : x.toInt ≠ q.1 := by
      have hy : y.toInt = q.1 := by omega
      rw [bx_cI_ok, hy] at h
      have h1 := hc.1
      unfold bx_isNe at h1
      split at h1
      · subst h1
        have : (!decide (x.toInt = q.1)) = true := h
        simpa using this
      · have h2 : t = false := by simpa using h1
        subst h2
        have : decide (x.toInt = q.1) = false := h
        simpa using this
      · cases h1
    by_cases h0 : x.toInt < q.1
    · exact ⟨_, List.mem_cons_self, bx_upd_ok he ha hp.1 (by dsimp only; omega)⟩
    · exact ⟨_, List.mem_cons_of_mem _ List.mem_cons_self, bx_upd_ok he ha (by dsimp only; omega) hp.2⟩
  · exact ⟨_, List.mem_singleton.mpr rfl, bx_upd_ok (bx_upd_ok he ha hcut.1.1 hcut.1.2) hb hcut.2.1 hcut.2.2⟩
/-- is name i sure to be at least name j and k -/
def bx_dle (df : bx_Df) (i j : Nat) (k : Int) : Bool := df.any (fun q => decide (q.1 = i) && decide (q.2.1 = j) && decide (k ≤ q.2.2))
theorem bx_dle_ok {df : bx_Df} {vs : List Int} {i j : Nat} {k : Int} (hd : ∀ q ∈ df, bx_df vs q) (h : bx_dle df i j k = true) : ∃ zi zj, vs[i]? = some zi ∧ vs[j]? = some zj ∧ zj + k ≤ zi := by
  obtain ⟨q, hm, hq⟩ := List.any_eq_true.mp h
  simp only [Bool.and_eq_true, decide_eq_true_eq] at hq
  obtain ⟨zi, zj, h1, h2, h3⟩ := hd q hm
  rw [hq.1.1] at h1
  rw [hq.1.2] at h2
  exact ⟨zi, zj, h1, h2, by omega⟩
/-- is a sure to be at least b and d -/
def bx_kge (df : bx_Df) (a b : ax_V) (d : Int) : Bool := decide (a.1 = 4) && decide (b.1 = 4) && bx_dle df a.2.1.toNat b.2.1.toNat (b.2.2 + d - a.2.2)
theorem bx_kge_ok {df : bx_Df} {vs : List Int} {a b : ax_V} {x y : Int32} {d : Int} (hd : ∀ q ∈ df, bx_df vs q) (ha : bx_g vs a (.int x)) (hb : bx_g vs b (.int y)) (h : bx_kge df a b d = true) : y.toInt + d ≤ x.toInt := by
  unfold bx_kge at h
  simp only [Bool.and_eq_true, decide_eq_true_eq] at h
  obtain ⟨⟨h1, h2⟩, h3⟩ := h
  obtain ⟨zi, zj, d1, d2, d3⟩ := bx_dle_ok hd h3
  rcases ha with ⟨-, x', za, e, hza, hx⟩ | ⟨hn, -⟩
  · rcases hb with ⟨-, y', zb, e', hzb, hy⟩ | ⟨hn, -⟩
    · cases e; cases e'
      rw [d1] at hza
      rw [d2] at hzb
      cases hza; cases hzb
      omega
    · exact absurd h2 hn
  · exact absurd h1 hn
/-- what a comparison comes to by what is known of the names -/
def bx_know (k : ClassFile.Cond) (df : bx_Df) (a b : ax_V) : Option Bool := match k with
  | .lt => if bx_kge df b a 1 = true then some true else if bx_kge df a b 0 = true then some false else none
  | .ge => if bx_kge df b a 1 = true then some false else if bx_kge df a b 0 = true then some true else none
  | .gt => if bx_kge df a b 1 = true then some true else if bx_kge df b a 0 = true then some false else none
  | .le => if bx_kge df a b 1 = true then some false else if bx_kge df b a 0 = true then some true else none
  | _ => none
theorem bx_know_ok {k : ClassFile.Cond} {df : bx_Df} {vs : List Int} {a b : ax_V} {x y : Int32} {t : Bool} (hd : ∀ q ∈ df, bx_df vs q) (ha : bx_g vs a (.int x)) (hb : bx_g vs b (.int y)) (h : bx_know k df a b = some t) : sx_cond k x y = t := by
  rw [bx_cI_ok]
  unfold bx_know at h
  cases k
  · cases h
  · cases h
  all_goals
    dsimp only at h
    dsimp only [bx_cI]
    split at h
    · rename_i hk
      have h1 := bx_kge_ok hd (by assumption) (by assumption) hk
      cases h
      first | exact decide_eq_true (by omega) | exact decide_eq_false (by omega)
    · split at h
      · rename_i hk
        have h1 := bx_kge_ok hd (by assumption) (by assumption) hk
        cases h
        first | exact decide_eq_true (by omega) | exact decide_eq_false (by omega)
      · cases h
def bx_br (k : ClassFile.Cond) (off : Int) (a b : ax_V) (env : ax_N) (pc : Nat) (l : ax_L) (st : List ax_V) (kn : bx_Kn) (df : bx_Df) : Option (List bx_S) := match bx_iv env a, bx_iv env b with
  | some p, some q => if 0 ≤ (pc : Int) + off then
      (if a.1 = 4 ∧ b.1 = 4 ∧ a.2.1 = b.2.1 then some [(env, if bx_cI k a.2.2 b.2.2 = true then ((pc : Int) + off).toNat else pc + 3, l, st, kn, df)]
      else match bx_know k df a b with
      | some t => some [(env, if t = true then ((pc : Int) + off).toNat else pc + 3, l, st, kn, df)]
      | none => some ((bx_ways k true env a b p q).map (fun e => (e, ((pc : Int) + off).toNat, l, st, kn, bx_dfs k true a b ++ df)) ++ (bx_ways k false env a b p q).map (fun e => (e, pc + 3, l, st, kn, bx_dfs k false a b ++ df)))) else none
  | _, _ => none
section BXB
variable {xs : List Int32} {INV : ax_W} {X : sx_W → Prop} {PC : bx_M} {mods : bx_M} {lm : List Nat} {vs : List Int} {env : ax_N} {kn : bx_Kn} {df : bx_Df} {w : sx_W} {pc : Nat} {l : ax_L} {ast : List ax_V} {lv : sx_L} {st : List Value} {outs : List bx_S}
theorem bx_br_ok {k : ClassFile.Cond} {off : Int} {a b : ax_V} {x y : Int32} (h : bx_br k off a b env pc l ast kn df = some outs) (hA : bx_at0 xs INV X vs env l ast kn df lv st w) (ha : bx_g vs a (.int x)) (hb : bx_g vs b (.int y)) : bx_res xs INV X mods lm vs lv w outs (sx_jmp pc off lv st w (sx_cond k x y)) := by
  unfold bx_br at h
  split at h
  · rename_i p q hp hq
    split at h
    · rename_i h0
      obtain ⟨x', e1, g1, g2⟩ := bx_iv_ok hA.1 ha hp
      obtain ⟨y', e2, g3, g4⟩ := bx_iv_ok hA.1 hb hq
      cases e1; cases e2
      unfold sx_jmp
      rw [if_pos h0]
      split at h
      · rename_i hs
        cases h
        have e : sx_cond k x y = bx_cI k a.2.2 b.2.2 := by
          rw [bx_cI_ok]
          rcases ha with ⟨-, x', za, e, hza, hx⟩ | ⟨hn, -⟩
          · rcases hb with ⟨-, y', zb, e', hzb, hy⟩ | ⟨hn, -⟩
            · cases e; cases e'
              rw [hs.2.2, hzb] at hza
              cases hza
              rw [hx, hy, bx_cI_add]
            · exact absurd hs.2.1 hn
          · exact absurd hs.1 hn
        rw [e]
        exact ⟨_, _, _, _, rfl, _, List.mem_singleton.mpr rfl, rfl, vs, bx_ext.rf, hA, bx_fl.rf, bx_fw.rf⟩
      · split at h
        · rename_i t hkn
          cases h
          rw [bx_know_ok hA.2.2.2.2.2 ha hb hkn]
          exact ⟨_, _, _, _, rfl, _, List.mem_singleton.mpr rfl, rfl, vs, bx_ext.rf, hA, bx_fl.rf, bx_fw.rf⟩
        cases h
        cases ht : sx_cond k x y with
        | true =>
          obtain ⟨e, hm, he⟩ := bx_ways_ok hA.1 ha hb ⟨g1, g2⟩ ⟨g3, g4⟩ ht
          refine ⟨_, _, _, _, rfl, _, List.mem_append_left _ (List.mem_map.mpr ⟨e, hm, rfl⟩), rfl, vs, bx_ext.rf, ⟨he, hA.2.1, hA.2.2.1, hA.2.2.2.1, hA.2.2.2.2.1, fun q hq => ?_⟩, bx_fl.rf, bx_fw.rf⟩
          rcases List.mem_append.mp hq with hq | hq
          · exact bx_dfs_ok ha hb ht q hq
          · exact hA.2.2.2.2.2 q hq
        | false =>
          obtain ⟨e, hm, he⟩ := bx_ways_ok hA.1 ha hb ⟨g1, g2⟩ ⟨g3, g4⟩ ht
          refine ⟨_, _, _, _, rfl, _, List.mem_append_right _ (List.mem_map.mpr ⟨e, hm, rfl⟩), rfl, vs, bx_ext.rf, ⟨he, hA.2.1, hA.2.2.1, hA.2.2.2.1, hA.2.2.2.2.1, fun q hq => ?_⟩, bx_fl.rf, bx_fw.rf⟩
          rcases List.mem_append.mp hq with hq | hq
          · exact bx_dfs_ok ha hb ht q hq
          · exact hA.2.2.2.2.2 q hq
    · cases h
  · cases h
def bx_to (pc : Nat) (off : Int) (env : ax_N) (l : ax_L) (st : List ax_V) (kn : bx_Kn) (df : bx_Df) : Option bx_S := if 0 ≤ (pc : Int) + off then some (env, ((pc : Int) + off).toNat, l, st, kn, df) else none
theorem bx_to_ok {off : Int} {y : bx_S} (h : bx_to pc off env l ast kn df = some y) (hA : bx_at0 xs INV X vs env l ast kn df lv st w) (hy : y ∈ outs) : bx_res xs INV X mods lm vs lv w outs (sx_jmp pc off lv st w true) := by
  unfold bx_to at h
  unfold sx_jmp
  split at h
  · rename_i h0
    cases h
    rw [if_pos h0]
    exact ⟨_, _, _, _, rfl, _, hy, rfl, vs, bx_ext.rf, hA, bx_fl.rf, bx_fw.rf⟩
  · cases h
/-- the ways of a list of numbers and ways -/
def bx_swG (p : Int × Int) (ps : List (Int × Int)) (a : ax_V) (env : ax_N) (pc : Nat) (l : ax_L) (st : List ax_V) (kn : bx_Kn) (df : bx_Df) : Option (List bx_S) := match ps with
  | [] => some []
  | (x, o) :: r => match bx_swG p r a env pc l st kn df with
    | some ys => if p.1 ≤ x ∧ x ≤ p.2 then (match bx_to pc o (bx_upd env a (x, x)) l st kn df with
      | some y => some (y :: ys)
      | none => none) else some ys
    | none => none
theorem bx_swG_ok {p : Int × Int} {a : ax_V} {x : Int32} (hA : bx_at0 xs INV X vs env l ast kn df lv st w) (ha : bx_g vs a (.int x)) (h1 : p.1 ≤ x.toInt) (h2 : x.toInt ≤ p.2) : ∀ (ps : List (Int × Int)) (ys : List bx_S), bx_swG p ps a env pc l ast kn df = some ys → ∀ o, (x.toInt, o) ∈ ps → ∃ y ∈ ys, bx_to pc o (bx_upd env a (x.toInt, x.toInt)) l ast kn df = some y
  | [], ys, h, o, hm => by cases hm
  | (k, o') :: r, ys, h, o, hm => by
    unfold bx_swG at h
    split at h
    · rename_i ys' hys
      rcases List.mem_cons.mp hm with e | hm
      · cases e
        rw [if_pos ⟨h1, h2⟩] at h
        split at h
        · rename_i y hy
          cases h
          exact ⟨y, List.mem_cons_self, hy⟩
        · cases h
      · obtain ⟨y, hy, e⟩ := bx_swG_ok hA ha h1 h2 r ys' hys o hm
        refine ⟨y, ?_, e⟩
        split at h
        · split at h
          · cases h; exact List.mem_cons_of_mem _ hy
          · cases h
        · cases h; exact hy
    · cases h
theorem bx_at0_upd {a : ax_V} {x : Int32} (hA : bx_at0 xs INV X vs env l ast kn df lv st w) (ha : bx_g vs a (.int x)) {p : Int × Int} (h1 : p.1 ≤ x.toInt) (h2 : x.toInt ≤ p.2) : bx_at0 xs INV X vs (bx_upd env a p) l ast kn df lv st w := ⟨bx_upd_ok hA.1 ha h1 h2, hA.2⟩
def bx_num (lo : Int) : List Int → List (Int × Int)
  | [] => []
  | o :: r => (lo, o) :: bx_num (lo + 1) r
theorem bx_num_ok : ∀ (offs : List Int) (lo x o : Int), lo ≤ x → offs[(x - lo).toNat]? = some o → (x, o) ∈ bx_num lo offs
  | [], lo, x, o, h, ho => by simp at ho
  | b :: r, lo, x, o, h, ho => by
    unfold bx_num
    by_cases hx : x = lo
    · subst hx
      rw [Int.sub_self] at ho
      cases ho
      exact List.mem_cons_self
    · have e : (x - lo).toNat = (x - (lo + 1)).toNat + 1 := by omega
      rw [e, List.getElem?_cons_succ] at ho
      exact List.mem_cons_of_mem _ (bx_num_ok r (lo + 1) x o (by omega) ho)
def bx_tsw (d lo hi : Int) (offs : Array Int) (a : ax_V) (env : ax_N) (pc : Nat) (l : ax_L) (st : List ax_V) (kn : bx_Kn) (df : bx_Df) : Option (List bx_S) := match bx_iv env a with
  | some p => if lo + (offs.toList.length : Int) = hi + 1 then (match bx_swG p (bx_num lo offs.toList) a env pc l st kn df, bx_to pc d (bx_upd env a (p.1, min p.2 (lo - 1))) l st kn df, bx_to pc d (bx_upd env a (max p.1 (hi + 1), p.2)) l st kn df with
    | some ys, some y1, some y2 => some ((if p.1 < lo then [y1] else []) ++ ((if hi < p.2 then [y2] else []) ++ ys))
    | _, _, _ => none) else none
  | none => none
theorem bx_tsw_ok {d lo hi : Int} {offs : Array Int} {a : ax_V} {x : Int32} (h : bx_tsw d lo hi offs a env pc l ast kn df = some outs) (hA : bx_at0 xs INV X vs env l ast kn df lv st w) (ha : bx_g vs a (.int x)) : bx_res xs INV X mods lm vs lv w outs (sx_tsw pc lv (.int x :: st) w d lo hi offs) := by
  unfold bx_tsw at h
  split at h
  · rename_i p hp
    obtain ⟨x', e1, g1, g2⟩ := bx_iv_ok hA.1 ha hp
    cases e1
    split at h
    · rename_i hn
      split at h
      · rename_i ys y1 y2 hys hy1 hy2
        cases h
        unfold sx_tsw
        dsimp only
        by_cases ho : x.toInt < lo ∨ hi < x.toInt
        · rw [if_pos ho]
          rcases ho with ho | ho
          · exact bx_to_ok hy1 (bx_at0_upd hA ha g1 (by show _ ≤ min _ _; omega)) (List.mem_append_left _ (by rw [if_pos (by omega)]; exact List.mem_singleton.mpr rfl))
          · exact bx_to_ok hy2 (bx_at0_upd hA ha (by show max _ _ ≤ _; omega) g2) (List.mem_append_right _ (List.mem_append_left _ (by rw [if_pos (by omega)]; exact List.mem_singleton.mpr rfl)))
        · rw [if_neg ho]
          have hlt : (x.toInt - lo).toNat < offs.toList.length := by omega
          have hoff : offs[(x.toInt - lo).toNat]? = some (offs.toList[(x.toInt - lo).toNat]) := by
            rw [← Array.getElem?_toList]
            exact List.getElem?_eq_getElem hlt
          rw [hoff]
          obtain ⟨y, hy, e⟩ := bx_swG_ok hA ha g1 g2 _ ys hys _ (bx_num_ok offs.toList lo x.toInt _ (by omega) (List.getElem?_eq_getElem hlt))
          exact bx_to_ok e (bx_at0_upd hA ha (Int.le_refl _) (Int.le_refl _)) (List.mem_append_right _ (List.mem_append_right _ hy))
      · cases h
    · cases h
  · cases h
def bx_lsw (d : Int) (ps : Array (Int × Int)) (a : ax_V) (env : ax_N) (pc : Nat) (l : ax_L) (st : List ax_V) (kn : bx_Kn) (df : bx_Df) : Option (List bx_S) := match bx_iv env a with
  | some p => if (ps.toList.zip (ps.toList.drop 1)).all (fun (a, next) => a.1 < next.1) = true then (match bx_swG p ps.toList a env pc l st kn df, bx_to pc d env l st kn df with
    | some ys, some y => some (if p.1 = p.2 ∧ ps.toList.any (fun q => q.1 == p.1) = true then ys else y :: ys)
    | _, _ => none) else none
  | none => none
theorem bx_lsw_off (d x : Int) : ∀ ps : List (Int × Int), (x, Op.lookupswitch.offset ps d x) ∈ ps ∨ ((¬ ∃ q ∈ ps, q.1 = x) ∧ Op.lookupswitch.offset ps d x = d)
  | [] => Or.inr ⟨(fun ⟨q, hq, _⟩ => (List.not_mem_nil hq).elim), rfl⟩
  | (k, o) :: r => by
    rw [Op.lookupswitch.offset_cons]
    by_cases hk : k = x
    · rw [if_pos (by first | exact hk | exact hk.symm), hk]
      exact .inl List.mem_cons_self
    · rw [if_neg (by first | exact hk | exact fun e => hk e.symm)]
      rcases bx_lsw_off d x r with h | ⟨hno, e⟩
      · exact .inl (List.mem_cons_of_mem _ h)
      · refine .inr ⟨fun ⟨q, hq, hqx⟩ => ?_, e⟩
        rcases List.mem_cons.mp hq with rfl | hq
        · exact hk hqx
        · exact hno ⟨q, hq, hqx⟩
theorem bx_lsw_ok {d : Int} {ps : Array (Int × Int)} {a : ax_V} {x : Int32} (h : bx_lsw d ps a env pc l ast kn df = some outs) (hA : bx_at0 xs INV X vs env l ast kn df lv st w) (ha : bx_g vs a (.int x)) : bx_res xs INV X mods lm vs lv w outs (sx_lsw pc lv (.int x :: st) w d ps) := by
  unfold bx_lsw at h
  split at h
  · rename_i p hp
    obtain ⟨x', e1, g1, g2⟩ := bx_iv_ok hA.1 ha hp
    cases e1
    split at h
    · rename_i hsort
      split at h
      · rename_i ys y hys hy
        cases h
        unfold sx_lsw
        dsimp only
        rw [if_pos hsort]
        rcases bx_lsw_off d x.toInt ps.toList with hm | ⟨hno, e⟩
        · obtain ⟨y1, hy1, e⟩ := bx_swG_ok hA ha g1 g2 _ ys hys _ hm
          refine bx_to_ok e (bx_at0_upd hA ha (Int.le_refl _) (Int.le_refl _)) ?_
          split
          · exact hy1
          · exact List.mem_cons_of_mem _ hy1
        · rw [e]
          refine bx_to_ok hy hA ?_
          rw [if_neg]
          · exact List.mem_cons_self
          · intro ⟨q1, q2⟩
            obtain ⟨z, hz, hzx⟩ := List.any_eq_true.mp q2
            exact hno ⟨z, hz, by have : z.1 = p.1 := by simpa using hzx
                                 omega⟩
      · cases h
    · cases h
  · cases h
end BXB
