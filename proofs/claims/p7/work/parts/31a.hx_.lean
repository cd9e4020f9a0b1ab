section
/-! PARTIAL RUNS, 1: what a run that ends comes to, over numbers (Int) and a memory that is a function; with longs, the script, rows copied -/
abbrev hV : Type := Int ⊕ (Nat ⊕ Int)
abbrev hLs : Type := List (Nat × hV)
abbrev hQ : Type := Option hV → gx_M → Prop
abbrev hR : Type := hLs × List hV × gx_M
def hval : Value → Int
  | .int x => x.toInt
  | .long x => x.toInt
  | _ => 0
def hm (w : sx_W) : gx_M := fun c k => match gx_rd w c k with
  | some v => hval v
  | none => 0
def hg (v : hV) (u : Value) : Prop := match v with
  | .inl x => ∃ z : Int32, u = .int z ∧ z.toInt = x
  | .inr (.inl c) => (c = 100000 ∧ ∃ k, u = .retAddr k) ∨ (c ≠ 100000 ∧ u = .ref c)
  | .inr (.inr x) => ∃ z : Int64, u = .long z ∧ z.toInt = x
def hcat (v : hV) : Nat := match v with
  | .inl _ => 1
  | .inr (.inl _) => 1
  | .inr (.inr _) => 2
theorem hg_int {x : Int} {u : Value} (h : hg (.inl x) u) : ∃ z : Int32, u = .int z ∧ z.toInt = x := h
theorem hg_long {x : Int} {u : Value} (h : hg (.inr (.inr x)) u) : ∃ z : Int64, u = .long z ∧ z.toInt = x := h
theorem hg_ref {c : Nat} {u : Value} (h : hg (.inr (.inl c)) u) : (c = 100000 ∧ ∃ k, u = .retAddr k) ∨ (c ≠ 100000 ∧ u = .ref c) := h
theorem hg_cat {v : hV} {u : Value} (h : hg v u) : u.category = hcat v := by
  rcases v with x | c | x
  · obtain ⟨z, rfl, -⟩ := h; rfl
  · rcases h with ⟨-, k, rfl⟩ | ⟨-, rfl⟩ <;> rfl
  · obtain ⟨z, rfl, -⟩ := h; rfl
theorem hg_val {v : hV} {u : Value} (h : hg v u) : (match v with | .inl x => hval u = x | .inr (.inl _) => True | .inr (.inr x) => hval u = x) := by
  rcases v with x | c | x
  · obtain ⟨z, rfl, rfl⟩ := h; rfl
  · trivial
  · obtain ⟨z, rfl, rfl⟩ := h; rfl
def hl (lv : sx_L) (L : hLs) : Prop := ∀ q ∈ L, ∃ u, sx_get lv q.1 = some u ∧ hg q.2 u
def hs : List Value → List hV → Prop
  | [], [] => True
  | u :: us, v :: vs => hg v u ∧ hs us vs
  | _, _ => False
theorem hs1 {us : List Value} {v : hV} {vs : List hV} (h : hs us (v :: vs)) : ∃ u r, us = u :: r ∧ hg v u ∧ hs r vs := by
  cases us with
  | nil => exact h.elim
  | cons u r => exact ⟨u, r, rfl, h.1, h.2⟩
theorem hs0 {us : List Value} (h : hs us []) : us = [] := by
  cases us with
  | nil => rfl
  | cons u r => exact h.elim
theorem hs_len : ∀ {us : List Value} {vs : List hV}, hs us vs → us.length = vs.length
  | [], [], _ => rfl
  | u :: us, v :: vs, h => congrArg (· + 1) (hs_len h.2)
  | [], _ :: _, h => h.elim
  | _ :: _, [], h => h.elim
theorem hs_app : ∀ {us : List Value} {vs ws : List hV}, hs us (vs ++ ws) → hs (us.take vs.length) vs ∧ hs (us.drop vs.length) ws
  | us, [], ws, h => ⟨trivial, h⟩
  | us, v :: vs, ws, h => by
    obtain ⟨u, r, rfl, h1, h2⟩ := hs1 h
    obtain ⟨h3, h4⟩ := hs_app (vs := vs) (ws := ws) h2
    exact ⟨⟨h1, h3⟩, h4⟩
theorem hs_cat : ∀ {us us' : List Value} {vs ws : List hV}, hs us vs → hs us' ws → hs (us ++ us') (vs ++ ws)
  | [], us', [], ws, _, h' => h'
  | u :: us, us', v :: vs, ws, h, h' => ⟨h.1, hs_cat h.2 h'⟩
  | [], _, _ :: _, _, h, _ => h.elim
  | _ :: _, _, [], _, h, _ => h.elim
theorem hs_rev : ∀ {us : List Value} {vs : List hV}, hs us vs → hs us.reverse vs.reverse
  | [], [], _ => trivial
  | u :: us, v :: vs, h => by
    rw [List.reverse_cons, List.reverse_cons]
    exact hs_cat (hs_rev h.2) ⟨h.1, trivial⟩
  | [], _ :: _, h => h.elim
  | _ :: _, [], h => h.elim
def hargs : Nat → List hV → hLs
  | _, [] => []
  | i, v :: vs => (i, v) :: hargs (i + hcat v) vs
theorem hcat_pos (v : hV) : 1 ≤ hcat v := by rcases v with x | c | x <;> exact Nat.le_of_ble_eq_true rfl
theorem hargs_ge : ∀ {vs : List hV} {i : Nat} {q : Nat × hV}, q ∈ hargs i vs → i ≤ q.1
  | [], i, q, h => by cases h
  | v :: vs, i, q, h => by
    rcases List.mem_cons.mp h with rfl | h
    · exact Nat.le_refl _
    · have := hargs_ge h
      have := hcat_pos v
      omega
theorem hargs_ok : ∀ {us : List Value} {vs : List hV} (i : Nat), hs us vs → hl (lv_args i us) (hargs i vs)
  | [], [], i, _ => fun q hq => by cases hq
  | u :: us, v :: vs, i, h => by
    have hc := hg_cat h.1
    have hi : (if u.category = 2 then i + 2 else i + 1) = i + hcat v := by
      rw [hc]
      rcases v with x | c | x <;> rfl
    intro q hq
    unfold lv_args
    rw [hi]
    rcases List.mem_cons.mp hq with rfl | hq
    · exact ⟨u, sx_get_self _ _ _, h.1⟩
    · obtain ⟨x, h1, h2⟩ := hargs_ok (i + hcat v) h.2 q hq
      have hge := hargs_ge hq
      have := hcat_pos v
      refine ⟨x, ?_, h2⟩
      unfold sx_get at h1 ⊢
      rw [List.find?_cons]
      have : ((i, u).1 == q.1) = false := by simp; omega
      rw [this]
      exact h1
  | [], _ :: _, _, h => h.elim
  | _ :: _, [], _, h => h.elim
def hget : hLs → Nat → Option hV
  | [], _ => none
  | q :: r, i => if q.1 = i then some q.2 else hget r i
def hput0 : hLs → Nat → hV → hLs
  | [], i, v => [(i, v)]
  | q :: r, i, v => if q.1 = i then (i, v) :: r.filter (fun q => !decide (q.1 = i)) else q :: hput0 r i v
def hkill (i : Nat) (v : hV) (q : Nat × hV) : Bool := (decide (q.1 + 1 = i) && decide (hcat q.2 = 2)) || (decide (hcat v = 2) && decide (q.1 = i + 1))
def hput (L : hLs) (i : Nat) (v : hV) : hLs := hput0 (L.filter (fun q => !(hkill i v q))) i v
theorem hget_mem : ∀ {L : hLs} {i : Nat} {v : hV}, hget L i = some v → (i, v) ∈ L
  | [], _, _, h => by cases h
  | q :: r, i, v, h => by
    unfold hget at h
    split at h
    · rename_i e
      cases h
      rw [← e]
      exact List.mem_cons_self
    · exact List.mem_cons_of_mem _ (hget_mem h)
theorem hput0_mem : ∀ {L : hLs} {i : Nat} {v : hV} {q : Nat × hV}, q ∈ hput0 L i v → q = (i, v) ∨ (q ∈ L ∧ q.1 ≠ i)
  | [], i, v, q, h => by
    rw [hput0, List.mem_singleton] at h
    exact .inl h
  | p :: r, i, v, q, h => by
    unfold hput0 at h
    split at h
    · rcases List.mem_cons.mp h with h | h
      · exact .inl h
      · obtain ⟨h1, h2⟩ := List.mem_filter.mp h
        rw [Bool.not_eq_true', decide_eq_false_iff_not] at h2
        exact .inr ⟨List.mem_cons_of_mem _ h1, h2⟩
    · rename_i hne
      rcases List.mem_cons.mp h with rfl | h
      · exact .inr ⟨List.mem_cons_self, hne⟩
      · rcases hput0_mem h with h | h
        · exact .inl h
        · exact .inr ⟨List.mem_cons_of_mem _ h.1, h.2⟩
theorem hput_mem {L : hLs} {i : Nat} {v : hV} {q : Nat × hV} (h : q ∈ hput L i v) : q = (i, v) ∨ (q ∈ L ∧ q.1 ≠ i ∧ hkill i v q = false) := by
  rcases hput0_mem h with h | ⟨h1, h2⟩
  · exact .inl h
  · obtain ⟨h3, h4⟩ := List.mem_filter.mp h1
    rw [Bool.not_eq_true'] at h4
    exact .inr ⟨h3, h2, h4⟩
theorem hl_set {lv : sx_L} {L : hLs} {i : Nat} {v : hV} {u : Value} (h : hl lv L) (hv : hg v u) : hl (sx_set lv i u) (hput L i v) := by
  intro q hq
  rcases hput_mem hq with rfl | ⟨hm, hne, hk⟩
  · exact ⟨u, sx_get_self _ _ _, hv⟩
  · obtain ⟨x, h1, h2⟩ := h q hm
    refine ⟨x, sx_get_keep hne h1 ?_, h2⟩
    unfold hkill at hk
    rw [Bool.or_eq_false_iff, Bool.and_eq_false_iff, decide_eq_false_iff_not, decide_eq_false_iff_not] at hk
    simp only [Bool.and_eq_true, Bool.not_eq_true', beq_eq_false_iff_ne, ne_eq, Bool.and_eq_false_iff]
    rw [hg_cat h2]
    exact ⟨hne, hk.1⟩
theorem hl_set2 {lv : sx_L} {L : hLs} {i : Nat} {v : hV} {u : Value} (h : hl lv L) (hv : hg v u) (h2c : hcat v = 2) : hl (sx_set2 lv i u) (hput L i v) := by
  intro q hq
  rcases hput_mem hq with rfl | ⟨hm, hne, hk⟩
  · exact ⟨u, sx_get_self _ _ _, hv⟩
  · obtain ⟨x, h1, h2⟩ := h q hm
    refine ⟨x, sx_get_keep hne h1 ?_, h2⟩
    unfold hkill at hk
    rw [Bool.or_eq_false_iff, Bool.and_eq_false_iff, Bool.and_eq_false_iff, decide_eq_false_iff_not, decide_eq_false_iff_not, decide_eq_false_iff_not, decide_eq_false_iff_not] at hk
    simp only [Bool.and_eq_true, Bool.not_eq_true', beq_eq_false_iff_ne, ne_eq, Bool.and_eq_false_iff]
    rw [hg_cat h2]
    exact ⟨hne, hk.2.resolve_left (fun e => e h2c), hk.1⟩
theorem hl_get {lv : sx_L} {L : hLs} {i : Nat} {v : hV} (h : hl lv L) (hg' : hget L i = some v) : ∃ u, sx_get lv i = some u ∧ hg v u := h _ (hget_mem hg')
def hpick (L : hLs) : List Nat → hLs
  | [] => []
  | i :: r => match hget L i with
    | some v => (i, v) :: hpick L r
    | none => hpick L r
theorem hpick_mem {L : hLs} : ∀ {is : List Nat} {q : Nat × hV}, q ∈ hpick L is → q ∈ L
  | [], q, h => by cases h
  | i :: r, q, h => by
    unfold hpick at h
    split at h
    · rename_i v hv
      rcases List.mem_cons.mp h with rfl | h
      · exact hget_mem hv
      · exact hpick_mem h
    · exact hpick_mem h
/-! the world -/
theorem hm_rd {w : sx_W} {c k : Nat} {v : Value} (h : gx_rd w c k = some v) : hm w c k = hval v := by
  unfold hm
  rw [h]
theorem hrd_at {w : sx_W} {c t k : Nat} {vs : List Value} {v : Value} (h : w[c]? = some (t, vs)) (hk : vs[k]? = some v) : gx_rd w c k = some v := by
  unfold gx_rd
  rw [h]
  exact hk
theorem hset_in {S : ax_W} {w : sx_W} {c t k : Nat} {r : ax_A} {a : ax_V} {v : Value} {vs : List Value} (hw : bx_in S w) (hS : S[c]? = some (t, r)) (hk : ax_nth r k = some a) (h1 : w[c]? = some (t, vs)) (hv : ax_g [] a v) : bx_in S (w.set c (t, vs.set k v)) := by
  obtain ⟨vs0, g1, g2, g3⟩ := hw.2 _ _ _ hS
  rw [h1] at g1
  cases g1
  have hcl : c < w.length := (List.getElem?_eq_some_iff.mp h1).1
  refine ⟨by rw [List.length_set]; exact hw.1, fun c' t' r' hS' => ?_⟩
  by_cases hcc : c' = c
  · subst hcc
    rw [hS] at hS'
    cases hS'
    refine ⟨_, List.getElem?_set_self hcl, by rw [List.length_set]; exact g2, fun j b y hb hy => ?_⟩
    by_cases hjk : j = k
    · subst hjk
      have hl := fx_nth_lt r j a hk
      rw [List.getElem?_set_self (by omega)] at hy
      cases hy
      rw [hk] at hb
      cases hb
      exact hv
    · rw [List.getElem?_set_ne (fun h => hjk h.symm)] at hy
      exact g3 j b y hb hy
  · rw [List.getElem?_set_ne (fun h => hcc h.symm)]
    exact hw.2 c' t' r' hS'
theorem hset_m {w : sx_W} {c t k : Nat} {vs : List Value} {v : Value} (h1 : w[c]? = some (t, vs)) (hk : k < vs.length) : hm (w.set c (t, vs.set k v)) = gx_u (hm w) c k (hval v) := by
  have hcl : c < w.length := (List.getElem?_eq_some_iff.mp h1).1
  funext c' k'
  unfold gx_u
  by_cases hcc : c' = c
  · subst hcc
    by_cases hkk : k' = k
    · subst hkk
      rw [if_pos ⟨rfl, rfl⟩]
      exact hm_rd (hrd_at (List.getElem?_set_self hcl) (List.getElem?_set_self hk))
    · rw [if_neg (fun h => hkk h.2)]
      unfold hm gx_rd
      rw [List.getElem?_set_self hcl, h1]
      show (match (vs.set k v)[k']? with | some v => hval v | none => 0) = (match vs[k']? with | some v => hval v | none => 0)
      rw [List.getElem?_set_ne (fun h => hkk h.symm)]
  · rw [if_neg (fun h => hcc h.1)]
    unfold hm gx_rd
    rw [List.getElem?_set_ne (fun h => hcc h.symm)]
def hcopy (m : gx_M) (a0 sp a1 dp n : Nat) : gx_M := fun c k => if c = a1 ∧ dp ≤ k ∧ k < dp + n then m a0 (k - dp + sp) else m c k
theorem hcopy_get {f g : List Value} {sp dp n k : Nat} (h1 : sp + n ≤ f.length) (h2 : dp + n ≤ g.length) : (g.take dp ++ ((f.drop sp).take n ++ g.drop (dp + n)))[k]? = if dp ≤ k ∧ k < dp + n then f[k - dp + sp]? else g[k]? := by
  have e1 : (g.take dp).length = dp := by rw [List.length_take]; omega
  have e2 : ((f.drop sp).take n).length = n := by rw [List.length_take, List.length_drop]; omega
  by_cases c1 : k < dp
  · rw [List.getElem?_append_left (by omega), if_neg (by omega), List.getElem?_take_of_lt c1]
  · rw [List.getElem?_append_right (by omega), e1]
    by_cases c2 : k < dp + n
    · rw [if_pos ⟨by omega, c2⟩, List.getElem?_append_left (by omega), List.getElem?_take_of_lt (by omega), List.getElem?_drop]
      congr 1
      omega
    · rw [if_neg (by omega), List.getElem?_append_right (by omega), e2, List.getElem?_drop]
      congr 1
      omega
theorem hcopy_ok {w : sx_W} {a0 a1 sp dp n : Nat} {r0 r1 : ax_A} {f g : List Value} (hw : bx_in fx_S w) (hS0 : fx_S[a0]? = some (100, r0)) (hS1 : fx_S[a1]? = some (100, r1)) (ha0 : fx_all r0 = true) (ha1 : fx_all r1 = true) (hf : w[a0]? = some (100, f)) (hg' : w[a1]? = some (100, g)) (h1 : sp + n ≤ f.length) (h2 : dp + n ≤ g.length) :
    bx_in fx_S (w.set a1 (100, g.take dp ++ ((f.drop sp).take n ++ g.drop (dp + n)))) ∧ hm (w.set a1 (100, g.take dp ++ ((f.drop sp).take n ++ g.drop (dp + n)))) = hcopy (hm w) a0 sp a1 dp n := by
  have hcl : a1 < w.length := (List.getElem?_eq_some_iff.mp hg').1
  have hlen : (g.take dp ++ ((f.drop sp).take n ++ g.drop (dp + n))).length = g.length := by
    rw [List.length_append, List.length_append, List.length_take, List.length_take, List.length_drop, List.length_drop]
    omega
  obtain ⟨f', u1, u2, u3⟩ := hw.2 _ _ _ hS0
  rw [hf] at u1
  cases u1
  obtain ⟨g', v1, v2, v3⟩ := hw.2 _ _ _ hS1
  rw [hg'] at v1
  cases v1
  refine ⟨⟨by rw [List.length_set]; exact hw.1, fun c' t' r' hS' => ?_⟩, ?_⟩
  · by_cases hcc : c' = a1
    · subst hcc
      rw [hS1] at hS'
      cases hS'
      refine ⟨_, List.getElem?_set_self hcl, by rw [hlen]; exact v2, fun j b y hb hy => ?_⟩
      rw [hcopy_get h1 h2] at hy
      have hjl := fx_nth_lt r1 j b hb
      have hbt : b = ax_top := by
        have := fx_all_nth r1 j ha1 hjl
        rw [this] at hb
        cases hb
        rfl
      split at hy
      · have hj2 : j - dp + sp < f.length := (List.getElem?_eq_some_iff.mp hy).1
        have := u3 (j - dp + sp) ax_top y (fx_all_nth r0 _ ha0 (by omega)) hy
        rw [hbt]
        exact this
      · exact v3 j b y hb hy
    · rw [List.getElem?_set_ne (fun h => hcc h.symm)]
      exact hw.2 c' t' r' hS'
  · funext c' k'
    unfold hcopy
    by_cases hcc : c' = a1
    · subst hcc
      unfold hm gx_rd
      rw [List.getElem?_set_self hcl, hf, hg']
      show (match (g.take dp ++ ((f.drop sp).take n ++ g.drop (dp + n)))[k']? with | some v => hval v | none => 0) = if c' = c' ∧ dp ≤ k' ∧ k' < dp + n then (match f[k' - dp + sp]? with | some v => hval v | none => 0) else (match g[k']? with | some v => hval v | none => 0)
      rw [hcopy_get h1 h2]
      by_cases hc : dp ≤ k' ∧ k' < dp + n
      · rw [if_pos hc, if_pos ⟨rfl, hc⟩]
      · rw [if_neg hc, if_neg (fun h => hc h.2)]
    · rw [if_neg (fun h => hcc h.1)]
      unfold hm gx_rd
      rw [List.getElem?_set_ne (fun h => hcc h.symm)]
end
section
/-! PARTIAL RUNS, 2: an instruction over numbers, and what a step of the simple machine is there -/
def hushr (x y : Int) : Int := (((Int32.ofInt x).toUInt32 >>> ((Int32.ofInt y).toUInt32 &&& Int32.toUInt32 31)).toInt32).toInt
def hi2b (x : Int) : Int := ((Int32.ofInt x).toInt8.toInt32).toInt
def hbyte (x : Int) : Int := (vp_nar .byte (Int32.ofInt x)).toInt
def hlw (x : Int) : Int := (x + 9223372036854775808) % 18446744073709551616 - 9223372036854775808
def hland (x y : Int) : Int := (Int64.ofInt x &&& Int64.ofInt y).toInt
def hlor (x y : Int) : Int := (Int64.ofInt x ||| Int64.ofInt y).toInt
def hlxor (x y : Int) : Int := (Int64.ofInt x ^^^ Int64.ofInt y).toInt
def hlshl (x y : Int) : Int := (Int64.ofInt x <<< ((Int32.ofInt y).toInt64 &&& 63)).toInt
def hlushr (x y : Int) : Int := ((Int64.ofInt x).toUInt64 >>> ((Int32.ofInt y).toInt64.toUInt64 &&& Int64.toUInt64 63)).toInt64.toInt
def hlcmp (x y : Int) : Int := if y < x then 1 else if x = y then 0 else -1
theorem hlw_bm (x : Int) : x.bmod (2^64) = hlw x := by
  rw [Int.bmod_def]
  unfold hlw
  have e : ((2^64 : Nat) : Int) = 18446744073709551616 := by decide
  rw [e]
  split <;> omega
theorem hlcmp_ok (x y : Int64) : (lg_cmp x y).toInt = hlcmp x.toInt y.toInt := by
  unfold lg_cmp hlcmp
  by_cases c1 : y.toInt < x.toInt
  · rw [if_pos c1, if_pos (show x > y from Int64.lt_iff_toInt_lt.mpr c1)]
    rfl
  · rw [if_neg c1, if_neg (show ¬ x > y from fun h => c1 (Int64.lt_iff_toInt_lt.mp h))]
    by_cases c2 : x.toInt = y.toInt
    · rw [if_pos c2, if_pos (Int64.toInt_inj.mp c2)]
      rfl
    · rw [if_neg c2, if_neg (fun h => c2 (by rw [h]))]
      rfl
def hb2 (L : hLs) (st : List hV) (m : gx_M) (f : Int → Int → Int) : Option hR := match st with
  | .inl y :: .inl x :: r => some (L, .inl (f x y) :: r, m)
  | _ => none
def hl2 (L : hLs) (st : List hV) (m : gx_M) (f : Int → Int → Int) : Option hR := match st with
  | .inr (.inr y) :: .inr (.inr x) :: r => some (L, .inr (.inr (f x y)) :: r, m)
  | _ => none
def hls (L : hLs) (st : List hV) (m : gx_M) (f : Int → Int → Int) : Option hR := match st with
  | .inl y :: .inr (.inr x) :: r => some (L, .inr (.inr (f x y)) :: r, m)
  | _ => none
def hu1 (L : hLs) (st : List hV) (m : gx_M) (f : Int → hV) : Option hR := match st with
  | .inl x :: r => some (L, f x :: r, m)
  | _ => none
def hild (L : hLs) (st : List hV) (m : gx_M) (i : Nat) : Option hR := match hget L i with
  | some (.inl x) => some (L, .inl x :: st, m)
  | _ => none
def hlld (L : hLs) (st : List hV) (m : gx_M) (i : Nat) : Option hR := match hget L i with
  | some (.inr (.inr x)) => some (L, .inr (.inr x) :: st, m)
  | _ => none
def hald (L : hLs) (st : List hV) (m : gx_M) (i : Nat) : Option hR := match hget L i with
  | some (.inr (.inl x)) => some (L, .inr (.inl x) :: st, m)
  | _ => none
def hist (L : hLs) (st : List hV) (m : gx_M) (i : Nat) : Option hR := match st with
  | .inl x :: r => some (hput L i (.inl x), r, m)
  | _ => none
def hlst (L : hLs) (st : List hV) (m : gx_M) (i : Nat) : Option hR := match st with
  | .inr (.inr x) :: r => some (hput L i (.inr (.inr x)), r, m)
  | _ => none
def hmm (L : hLs) (st : List hV) (m : gx_M) (f : Int → Int → Int) : Option hR := match st with
  | .inl y :: .inl x :: r => some (L, .inl (f x y) :: r, m)
  | _ => none
def h1 (xs : List Int32) (E : sx_E) (A : gx_A) (L : hLs) (st : List hV) (m : gx_M) : Option hR := match E with
  | (_, I, _, a, k, _, z) => match I with
    | .iconst n => some (L, .inl n :: st, m)
    | .bipush n => some (L, .inl n :: st, m)
    | .sipush n => some (L, .inl n :: st, m)
    | .lconst n => some (L, .inr (.inr ((n : Nat) : Int)) :: st, m)
    | .ldc _ => some (L, .inl z :: st, m)
    | .ldc_w _ => some (L, .inl z :: st, m)
    | .ldc2_w _ => some (L, .inr (.inr z) :: st, m)
    | .iload_n i => hild L st m (i : Nat)
    | .iload i => hild L st m i
    | .lload_n i => hlld L st m (i : Nat)
    | .lload i => hlld L st m i
    | .aload_n i => hald L st m (i : Nat)
    | .aload i => hald L st m i
    | .istore_n i => hist L st m (i : Nat)
    | .istore i => hist L st m i
    | .lstore_n i => hlst L st m (i : Nat)
    | .lstore i => hlst L st m i
    | .iinc i n => (match hget L i with
      | some (.inl x) => some (hput L i (.inl (gx_w (x + n))), st, m)
      | _ => none)
    | .iadd => hb2 L st m (fun x y => gx_w (x + y))
    | .isub => hb2 L st m (fun x y => gx_w (x - y))
    | .imul => hb2 L st m (fun x y => gx_w (x * y))
    | .iand => hb2 L st m gx_and
    | .ior => hb2 L st m gx_or
    | .ixor => hb2 L st m gx_xor
    | .ishl => hb2 L st m gx_shl
    | .ishr => hb2 L st m gx_shr
    | .iushr => hb2 L st m hushr
    | .idiv => hb2 L st m (fun x y => gx_w (Int.tdiv x y))
    | .irem => hb2 L st m Int.tmod
    | .ineg => hu1 L st m (fun x => .inl (gx_w (-x)))
    | .i2l => hu1 L st m (fun x => .inr (.inr x))
    | .i2b => hu1 L st m (fun x => .inl (hi2b x))
    | .l2i => (match st with
      | .inr (.inr x) :: r => some (L, .inl (gx_w x) :: r, m)
      | _ => none)
    | .ladd => hl2 L st m (fun x y => hlw (x + y))
    | .lsub => hl2 L st m (fun x y => hlw (x - y))
    | .lmul => hl2 L st m (fun x y => hlw (x * y))
    | .land => hl2 L st m hland
    | .lor => hl2 L st m hlor
    | .lxor => hl2 L st m hlxor
    | .lshl => hls L st m hlshl
    | .lushr => hls L st m hlushr
    | .lcmp => (match st with
      | .inr (.inr y) :: .inr (.inr x) :: r => some (L, .inl (hlcmp x y) :: r, m)
      | _ => none)
    | .dup => (match st with
      | v :: r => some (L, v :: v :: r, m)
      | _ => none)
    | .pop => (match st with
      | _ :: r => some (L, r, m)
      | _ => none)
    | .pop2 => (match st with
      | _ :: r => some (L, r, m)
      | _ => none)
    | .dup_x1 => (match st with
      | v :: u :: r => some (L, v :: u :: v :: r, m)
      | _ => none)
    | .dup2 => (match st with
      | v :: u :: r => some (L, v :: u :: v :: u :: r, m)
      | _ => none)
    | .getfield _ => (match st with
      | .inr (.inl c) :: r => cond (Nat.beq c A.2.1) (match A.1 with
        | 0 => some (L, .inl (m c k) :: r, m)
        | 1 => some (L, .inr (.inl A.2.2) :: r, m)
        | _ => some (L, .inr (.inr (m c k)) :: r, m)) none
      | _ => none)
    | .putfield _ => (match st with
      | .inl v :: .inr (.inl c) :: r => cond (Nat.beq c A.2.1 && Nat.beq A.1 0) (some (L, r, gx_u m c k v)) none
      | .inr (.inr v) :: .inr (.inl c) :: r => cond (Nat.beq c A.2.1 && Nat.beq A.1 2) (some (L, r, gx_u m c k v)) none
      | _ => none)
    | .iaload => (match st with
      | .inl i :: .inr (.inl c) :: r => cond (Nat.beq c A.2.1) (match A.1 with
        | 0 => some (L, .inl (m c i.toNat) :: r, m)
        | _ => some (L, .inl (xs.getD i.toNat 0).toInt :: r, m)) none
      | _ => none)
    | .baload => (match st with
      | .inl i :: .inr (.inl c) :: r => cond (Nat.beq c A.2.1) (some (L, .inl (m c i.toNat) :: r, m)) none
      | _ => none)
    | .iastore => (match st with
      | .inl v :: .inl i :: .inr (.inl c) :: r => cond (Nat.beq c A.2.1) (some (L, r, gx_u m c i.toNat v)) none
      | _ => none)
    | .bastore => (match st with
      | .inl v :: .inl i :: .inr (.inl c) :: r => cond (Nat.beq c A.2.1) (some (L, r, gx_u m c i.toNat (hbyte v))) none
      | _ => none)
    | .arraylength => (match st with
      | .inr (.inl c) :: r => cond (Nat.beq c A.2.1) (match A.1 with
        | 0 => some (L, .inl (A.2.2 : Int) :: r, m)
        | _ => some (L, .inl (Int32.ofNat xs.length).toInt :: r, m)) none
      | _ => none)
    | .goto _ => some (L, st, m)
    | .invokestatic _ => (match a with
      | 1001 => (match st with
        | .inl n :: .inl dp :: .inr (.inl a1) :: .inl sp :: .inr (.inl a0) :: r => cond (Nat.beq a0 A.2.1 && Nat.beq a1 A.2.2) (some (L, r, hcopy m a0 sp.toNat a1 dp.toNat n.toNat)) none
        | _ => none)
      | 1002 => hmm L st m (fun x y => if x < y then y else x)
      | 1003 => hmm L st m (fun x y => if y < x then y else x)
      | _ => none)
    | _ => none
def hokA (E : sx_E) (A : gx_A) : Bool := match E with
  | (pc, I, _, a, k, _, z) => match I with
    | .iconst n => decide ((Int32.ofInt n).toInt = n)
    | .bipush n => decide ((Int8.ofInt n).toInt32.toInt = n)
    | .sipush n => decide ((Int16.ofInt n).toInt32.toInt = n)
    | .lconst n => decide ((Int64.ofNat (n : Nat)).toInt = ((n : Nat) : Int))
    | .ldc _ => decide ((Int32.ofInt z).toInt = z)
    | .ldc_w _ => decide ((Int32.ofInt z).toInt = z)
    | .ldc2_w _ => decide ((Int64.ofInt z).toInt = z)
    | .iinc _ n => decide ((Int32.ofInt n).toInt = n)
    | .getfield _ => (match fx_S[A.2.1]? with
      | some (_, r) => (match A.1 with
        | 0 => decide (ax_nth r k = some ax_top)
        | 1 => decide (ax_nth r k = some (2, (A.2.2 : Int), 0)) && decide (A.2.2 ≠ 100000)
        | _ => decide (ax_nth r k = some ax_topL))
      | none => false)
    | .putfield _ => (match fx_S[A.2.1]? with
      | some (_, r) => (match A.1 with
        | 0 => decide (ax_nth r k = some ax_top)
        | _ => decide (ax_nth r k = some ax_topL))
      | none => false)
    | .iaload => (match A.1 with
      | 0 => (match fx_S[A.2.1]? with
        | some (t, r) => decide (t = 100) && fx_all r && decide (A.2.1 ≠ 100000)
        | none => false)
      | _ => decide (A.2.1 = 100000))
    | .baload => (match fx_S[A.2.1]? with
      | some (t, r) => decide (t = 101) && fx_all r && decide (A.2.1 ≠ 100000)
      | none => false)
    | .iastore => (match fx_S[A.2.1]? with
      | some (t, r) => decide (t = 100) && fx_all r && decide (A.2.1 ≠ 100000)
      | none => false)
    | .bastore => (match fx_S[A.2.1]? with
      | some (t, r) => decide (t = 101) && fx_all r && decide (A.2.1 ≠ 100000)
      | none => false)
    | .arraylength => (match A.1 with
      | 0 => (match fx_S[A.2.1]? with
        | some (_, r) => decide (ax_len r = A.2.2) && decide (A.2.1 ≠ 100000) && decide (A.2.2 < 100000)
        | none => false)
      | _ => decide (A.2.1 = 100000))
    | .goto off => decide (0 ≤ (pc : Int) + off)
    | .invokestatic _ => (match a with
      | 1001 => (match fx_S[A.2.1]?, fx_S[A.2.2]? with
        | some (t, r), some (t', r') => decide (t = 100) && fx_all r && decide (t' = 100) && fx_all r' && decide (A.2.1 ≠ 100000) && decide (A.2.2 ≠ 100000)
        | _, _ => false)
      | _ => true)
    | _ => true
def hnx (E : sx_E) : Nat := match E with
  | (pc, I, _, _, _, _, _) => match I with
    | .bipush _ => pc + 2
    | .sipush _ => pc + 3
    | .ldc _ => pc + 2
    | .ldc_w _ => pc + 3
    | .ldc2_w _ => pc + 3
    | .iload _ => pc + 2
    | .lload _ => pc + 2
    | .aload _ => pc + 2
    | .istore _ => pc + 2
    | .lstore _ => pc + 2
    | .iinc _ _ => pc + 3
    | .getfield _ => pc + 3
    | .putfield _ => pc + 3
    | .invokestatic _ => pc + 3
    | .goto off => ((pc : Int) + off).toNat
    | _ => pc + 1
theorem hcond {α : Type} {b : Bool} {x : Option α} {r : α} (h : cond b x none = some r) : b = true ∧ x = some r := by
  cases b with
  | true => exact ⟨rfl, h⟩
  | false => cases h
/-- what a step comes to -/
def hrel (E : sx_E) (r' : sx_R) (q : hR) : Prop := r'.1 = hnx E ∧ hl r'.2.1 q.1 ∧ hs r'.2.2.1 q.2.1 ∧ bx_in fx_S r'.2.2.2.1 ∧ hm r'.2.2.2.1 = q.2.2
section HXS
variable {xs : List Int32} {nL : Nat} {L : hLs} {st : List hV} {sv : List Value} {m : gx_M} {w : sx_W} {lv : sx_L} {q : hR} {r' : sx_R}
theorem hb2_ok {E : sx_E} {f : Int → Int → Int} {g : Int32 → Int32 → Option Int32} (hst : sx_step yp_P xs nL E lv sv w = sx_b2 E.1 lv sv w g) (hn : hnx E = E.1 + 1) (hf : ∀ x y z : Int32, g x y = some z → z.toInt = f x.toInt y.toInt) (h : hb2 L st m f = some q) (hl' : hl lv L) (hs' : hs sv st) (hw : bx_in fx_S w) (hm' : hm w = m) (hr : sx_step yp_P xs nL E lv sv w = some r') : hrel E r' q := by
  unfold hb2 at h
  split at h
  · cases h
    obtain ⟨u, s1, rfl, g1, g2⟩ := hs1 hs'
    obtain ⟨v, s2, rfl, g3, g4⟩ := hs1 g2
    obtain ⟨b, rfl, rfl⟩ := hg_int g1
    obtain ⟨a, rfl, rfl⟩ := hg_int g3
    rw [hst] at hr
    obtain ⟨x, y, z, rest, e1, e2, e3⟩ := sx_b2_inv hr
    cases e1
    subst e3
    exact ⟨hn.symm, hl', ⟨⟨z, rfl, hf _ _ _ e2⟩, g4⟩, hw, hm'⟩
  · cases h
theorem hl2_ok {E : sx_E} {f : Int → Int → Int} {g : Int64 → Int64 → Int64} (hst : sx_step yp_P xs nL E lv sv w = sx_l2 E.1 lv sv w g) (hn : hnx E = E.1 + 1) (hf : ∀ x y : Int64, (g x y).toInt = f x.toInt y.toInt) (h : hl2 L st m f = some q) (hl' : hl lv L) (hs' : hs sv st) (hw : bx_in fx_S w) (hm' : hm w = m) (hr : sx_step yp_P xs nL E lv sv w = some r') : hrel E r' q := by
  unfold hl2 at h
  split at h
  · cases h
    obtain ⟨u, s1, rfl, g1, g2⟩ := hs1 hs'
    obtain ⟨v, s2, rfl, g3, g4⟩ := hs1 g2
    obtain ⟨b, rfl, rfl⟩ := hg_long g1
    obtain ⟨a, rfl, rfl⟩ := hg_long g3
    rw [hst] at hr
    obtain ⟨x, y, rest, e1, e3⟩ := sx_l2_inv hr
    cases e1
    subst e3
    exact ⟨hn.symm, hl', ⟨⟨_, rfl, hf _ _⟩, g4⟩, hw, hm'⟩
  · cases h
theorem hls_ok {E : sx_E} {f : Int → Int → Int} {g : Int64 → Int32 → Int64} (hst : sx_step yp_P xs nL E lv sv w = sx_ls E.1 lv sv w g) (hn : hnx E = E.1 + 1) (hf : ∀ (x : Int64) (y : Int32), (g x y).toInt = f x.toInt y.toInt) (h : hls L st m f = some q) (hl' : hl lv L) (hs' : hs sv st) (hw : bx_in fx_S w) (hm' : hm w = m) (hr : sx_step yp_P xs nL E lv sv w = some r') : hrel E r' q := by
  unfold hls at h
  split at h
  · cases h
    obtain ⟨u, s1, rfl, g1, g2⟩ := hs1 hs'
    obtain ⟨v, s2, rfl, g3, g4⟩ := hs1 g2
    obtain ⟨b, rfl, rfl⟩ := hg_int g1
    obtain ⟨a, rfl, rfl⟩ := hg_long g3
    rw [hst] at hr
    obtain ⟨x, y, rest, e1, e3⟩ := sx_ls_inv hr
    cases e1
    subst e3
    exact ⟨hn.symm, hl', ⟨⟨_, rfl, hf _ _⟩, g4⟩, hw, hm'⟩
  · cases h
theorem hu1_ok {E : sx_E} {f : Int → hV} {g : Int32 → Value} (hst : sx_step yp_P xs nL E lv sv w = sx_u1 E.1 lv sv w g) (hn : hnx E = E.1 + 1) (hf : ∀ x : Int32, hg (f x.toInt) (g x)) (h : hu1 L st m f = some q) (hl' : hl lv L) (hs' : hs sv st) (hw : bx_in fx_S w) (hm' : hm w = m) (hr : sx_step yp_P xs nL E lv sv w = some r') : hrel E r' q := by
  unfold hu1 at h
  split at h
  · cases h
    obtain ⟨u, s1, rfl, g1, g2⟩ := hs1 hs'
    obtain ⟨b, rfl, rfl⟩ := hg_int g1
    rw [hst] at hr
    obtain ⟨x, rest, e1, e3⟩ := sx_u1_inv hr
    cases e1
    subst e3
    exact ⟨hn.symm, hl', ⟨hf _, g2⟩, hw, hm'⟩
  · cases h
theorem hmm_ok {E : sx_E} {f : Int → Int → Int} {g : Int32 → Int32 → Int32} (hst : sx_step yp_P xs nL E lv sv w = sx_mm E.1 lv sv w g) (hn : hnx E = E.1 + 3) (hf : ∀ x y : Int32, (g x y).toInt = f x.toInt y.toInt) (h : hmm L st m f = some q) (hl' : hl lv L) (hs' : hs sv st) (hw : bx_in fx_S w) (hm' : hm w = m) (hr : sx_step yp_P xs nL E lv sv w = some r') : hrel E r' q := by
  unfold hmm at h
  split at h
  · cases h
    obtain ⟨u, s1, rfl, g1, g2⟩ := hs1 hs'
    obtain ⟨v, s2, rfl, g3, g4⟩ := hs1 g2
    obtain ⟨b, rfl, rfl⟩ := hg_int g1
    obtain ⟨a, rfl, rfl⟩ := hg_int g3
    rw [hst] at hr
    unfold sx_mm at hr
    dsimp only at hr
    split at hr
    · cases hr
      exact ⟨hn.symm, hl', ⟨⟨_, rfl, hf _ _⟩, g4⟩, hw, hm'⟩
    · cases hr
  · cases h
theorem hild_ok {E : sx_E} {i n : Nat} (hn : hnx E = E.1 + n) (hst : sx_step yp_P xs nL E lv sv w = sx_ild E.1 n lv sv w i) (h : hild L st m i = some q) (hl' : hl lv L) (hs' : hs sv st) (hw : bx_in fx_S w) (hm' : hm w = m) (hr : sx_step yp_P xs nL E lv sv w = some r') : hrel E r' q := by
  unfold hild at h
  split at h
  · rename_i x hx
    cases h
    rw [hst] at hr
    obtain ⟨y, e1, e2⟩ := sx_ild_inv hr
    subst e2
    obtain ⟨u, g1, g2⟩ := hl_get hl' hx
    rw [e1] at g1
    cases g1
    exact ⟨hn.symm, hl', ⟨g2, hs'⟩, hw, hm'⟩
  · cases h
theorem hlld_ok {E : sx_E} {i n : Nat} (hn : hnx E = E.1 + n) (hst : sx_step yp_P xs nL E lv sv w = sx_lld E.1 n lv sv w i) (h : hlld L st m i = some q) (hl' : hl lv L) (hs' : hs sv st) (hw : bx_in fx_S w) (hm' : hm w = m) (hr : sx_step yp_P xs nL E lv sv w = some r') : hrel E r' q := by
  unfold hlld at h
  split at h
  · rename_i x hx
    cases h
    rw [hst] at hr
    obtain ⟨y, e1, e2⟩ := sx_lld_inv hr
    subst e2
    obtain ⟨u, g1, g2⟩ := hl_get hl' hx
    rw [e1] at g1
    cases g1
    exact ⟨hn.symm, hl', ⟨g2, hs'⟩, hw, hm'⟩
  · cases h
theorem hald_ok {E : sx_E} {i n : Nat} (hn : hnx E = E.1 + n) (hst : sx_step yp_P xs nL E lv sv w = sx_ald E.1 n lv sv w i) (h : hald L st m i = some q) (hl' : hl lv L) (hs' : hs sv st) (hw : bx_in fx_S w) (hm' : hm w = m) (hr : sx_step yp_P xs nL E lv sv w = some r') : hrel E r' q := by
  unfold hald at h
  split at h
  · rename_i x hx
    cases h
    rw [hst] at hr
    obtain ⟨y, a, e1, -, e2⟩ := sx_ald_inv 0 0 hr
    subst e2
    obtain ⟨u, g1, g2⟩ := hl_get hl' hx
    rw [e1] at g1
    cases g1
    exact ⟨hn.symm, hl', ⟨g2, hs'⟩, hw, hm'⟩
  · cases h
theorem hist_ok {E : sx_E} {i n : Nat} (hn : hnx E = E.1 + n) (hst : sx_step yp_P xs nL E lv sv w = sx_ist E.1 n nL lv sv w i) (h : hist L st m i = some q) (hl' : hl lv L) (hs' : hs sv st) (hw : bx_in fx_S w) (hm' : hm w = m) (hr : sx_step yp_P xs nL E lv sv w = some r') : hrel E r' q := by
  unfold hist at h
  split at h
  · cases h
    obtain ⟨u, s1, rfl, g1, g2⟩ := hs1 hs'
    rw [hst] at hr
    obtain ⟨x, rest, e1, -, e3⟩ := sx_ist_inv hr
    cases e1
    subst e3
    exact ⟨hn.symm, hl_set hl' g1, g2, hw, hm'⟩
  · cases h
theorem hlst_ok {E : sx_E} {i n : Nat} (hn : hnx E = E.1 + n) (hst : sx_step yp_P xs nL E lv sv w = sx_lst E.1 n nL lv sv w i) (h : hlst L st m i = some q) (hl' : hl lv L) (hs' : hs sv st) (hw : bx_in fx_S w) (hm' : hm w = m) (hr : sx_step yp_P xs nL E lv sv w = some r') : hrel E r' q := by
  unfold hlst at h
  split at h
  · cases h
    obtain ⟨u, s1, rfl, g1, g2⟩ := hs1 hs'
    rw [hst] at hr
    obtain ⟨x, rest, e1, -, e3⟩ := sx_lst_inv hr
    cases e1
    subst e3
    exact ⟨hn.symm, hl_set2 hl' g1 rfl, g2, hw, hm'⟩
  · cases h
theorem haget_ok {E : sx_E} {c t : Nat} {i : Int} {r0 : List hV} (hn : hnx E = E.1 + 1) (hst : sx_step yp_P xs nL E lv sv w = sx_aget E.1 lv sv w xs t) (hA : (match fx_S[c]? with
      | some (t', r) => decide (t' = t) && fx_all r && decide (c ≠ 100000)
      | none => false) = true) (hl' : hl lv L) (hs' : hs sv (.inl i :: .inr (.inl c) :: r0)) (hw : bx_in fx_S w) (hm' : hm w = m) (hr : sx_step yp_P xs nL E lv sv w = some r') : hrel E r' (L, .inl (m c i.toNat) :: r0, m) := by
  obtain ⟨u, s1, rfl, g1, g2⟩ := hs1 hs'
  obtain ⟨v, s2, rfl, g3, g4⟩ := hs1 g2
  obtain ⟨b, rfl, rfl⟩ := hg_int g1
  split at hA
  · rename_i t' q' hS
    simp only [Bool.and_eq_true, decide_eq_true_eq] at hA
    obtain ⟨⟨rfl, ha⟩, hne⟩ := hA
    rcases hg_ref g3 with ⟨e, -⟩ | ⟨-, rfl⟩
    · exact absurd e hne
    rw [hst] at hr
    unfold sx_aget at hr
    dsimp only at hr
    split at hr
    · rename_i c' vs hc
      split at hr
      · split at hr
        · rename_i j hj
          split at hr
          · rename_i x hx
            cases hr
            obtain ⟨-, e1, -⟩ := sx_ix_inv hj
            refine ⟨hn.symm, hl', ⟨⟨x, rfl, ?_⟩, g4⟩, hw, hm'⟩
            have e2 : b.toInt.toNat = j := e1
            rw [← hm', e2]
            exact (hm_rd (hrd_at hc hx)).symm
          · cases hr
        · cases hr
      · cases hr
    · cases hr
  · cases hA
theorem haput_ok {E : sx_E} {c t : Nat} {v i : Int} {r0 : List hV} {f : Int32 → Int32} {g : Int → Int} (hf : ∀ x : Int32, (f x).toInt = g x.toInt) (hn : hnx E = E.1 + 1) (hst : sx_step yp_P xs nL E lv sv w = sx_aput E.1 lv sv w t f) (hA : (match fx_S[c]? with
      | some (t', r) => decide (t' = t) && fx_all r && decide (c ≠ 100000)
      | none => false) = true) (hl' : hl lv L) (hs' : hs sv (.inl v :: .inl i :: .inr (.inl c) :: r0)) (hw : bx_in fx_S w) (hm' : hm w = m) (hr : sx_step yp_P xs nL E lv sv w = some r') : hrel E r' (L, r0, gx_u m c i.toNat (g v)) := by
  obtain ⟨u, s1, rfl, g1, g2⟩ := hs1 hs'
  obtain ⟨u2, s2, rfl, g3, g4⟩ := hs1 g2
  obtain ⟨u3, s3, rfl, g5, g6⟩ := hs1 g4
  obtain ⟨x, rfl, rfl⟩ := hg_int g1
  obtain ⟨b, rfl, rfl⟩ := hg_int g3
  split at hA
  · rename_i t' q' hS
    simp only [Bool.and_eq_true, decide_eq_true_eq] at hA
    obtain ⟨⟨rfl, ha⟩, hne⟩ := hA
    rcases hg_ref g5 with ⟨e, -⟩ | ⟨-, rfl⟩
    · exact absurd e hne
    rw [hst] at hr
    unfold sx_aput at hr
    dsimp only at hr
    split at hr
    · rename_i c' vs hc
      split at hr
      · rename_i hct
        subst hct
        split at hr
        · rename_i j hj
          cases hr
          obtain ⟨-, e1, e3⟩ := sx_ix_inv hj
          have e2 : b.toInt.toNat = j := e1
          obtain ⟨vs', k1, k2, -⟩ := hw.2 _ _ _ hS
          rw [hc] at k1
          cases k1
          refine ⟨hn.symm, hl', g6, hset_in hw hS (fx_all_nth q' j ha (by omega)) hc (ax_top_ok _), ?_⟩
          show hm (w.set c (c', vs.set j (.int (f x)))) = _
          rw [hset_m hc e3, hm', e2]
          show gx_u m c j (f x).toInt = _
          rw [hf]
        · cases hr
      · cases hr
    · cases hr
  · cases hA
end HXS
end
section
/-! instructions over numbers, quick for the kernel -/
noncomputable def h1Q (xs : List Int32) (E : sx_E) (A : gx_A) (L : hLs) (st : List hV) (m : gx_M) : Option hR := Instr.rec (motive := fun _ => List Int32 → Nat → Nat → Int → gx_A → hLs → List hV → gx_M → Option hR)
  (fun _ _ _ _ _ _ _ _ => none)
  (fun _ _ _ _ _ _ _ _ => none)
  (fun _ _ _ _ _ _ _ _ => none)
  (fun i _ _ _ _ _ L st m => (hald L st m i))
  (fun i _ _ _ _ _ L st m => (hald L st m (i : Nat)))
  (fun _ _ _ _ _ _ _ _ _ => none)
  (fun _ _ _ _ _ _ _ _ => none)
  (fun xs _ _ _ A L st m => ((match st with
      | .inr (.inl c) :: r => cond (Nat.beq c A.2.1) (match A.1 with
        | 0 => some (L, .inl (A.2.2 : Int) :: r, m)
        | _ => some (L, .inl (Int32.ofNat xs.length).toInt :: r, m)) none
      | _ => none)))
  (fun _ _ _ _ _ _ _ _ _ => none)
  (fun _ _ _ _ _ _ _ _ _ => none)
  (fun _ _ _ _ _ _ _ _ => none)
  (fun _ _ _ _ A L st m => ((match st with
      | .inl i :: .inr (.inl c) :: r => cond (Nat.beq c A.2.1) (some (L, .inl (m c i.toNat) :: r, m)) none
      | _ => none)))
  (fun _ _ _ _ A L st m => ((match st with
      | .inl v :: .inl i :: .inr (.inl c) :: r => cond (Nat.beq c A.2.1) (some (L, r, gx_u m c i.toNat (hbyte v))) none
      | _ => none)))
  (fun n _ _ _ _ _ L st m => (some (L, .inl n :: st, m)))
  (fun _ _ _ _ _ _ _ _ => none)
  (fun _ _ _ _ _ _ _ _ => none)
  (fun _ _ _ _ _ _ _ _ _ => none)
  (fun _ _ _ _ _ _ _ _ => none)
  (fun _ _ _ _ _ _ _ _ => none)
  (fun _ _ _ _ _ _ _ _ => none)
  (fun _ _ _ _ _ _ _ _ => none)
  (fun _ _ _ _ _ _ _ _ => none)
  (fun _ _ _ _ _ _ _ _ => none)
  (fun _ _ _ _ _ _ _ _ _ => none)
  (fun _ _ _ _ _ _ _ _ _ => none)
  (fun _ _ _ _ _ _ _ _ => none)
  (fun _ _ _ _ _ _ _ _ _ => none)
  (fun _ _ _ _ _ _ _ _ _ => none)
  (fun _ _ _ _ _ _ _ _ => none)
  (fun _ _ _ _ _ _ _ _ => none)
  (fun _ _ _ _ _ _ _ _ => none)
  (fun _ _ _ _ _ _ _ _ => none)
  (fun _ _ _ _ _ _ _ _ _ => none)
  (fun _ _ _ _ _ _ _ _ _ => none)
  (fun _ _ _ _ _ _ _ _ => none)
  (fun _ _ _ _ _ L st m => ((match st with
      | v :: r => some (L, v :: v :: r, m)
      | _ => none)))
  (fun _ _ _ _ _ L st m => ((match st with
      | v :: u :: r => some (L, v :: u :: v :: r, m)
      | _ => none)))
  (fun _ _ _ _ _ _ _ _ => none)
  (fun _ _ _ _ _ L st m => ((match st with
      | v :: u :: r => some (L, v :: u :: v :: u :: r, m)
      | _ => none)))
  (fun _ _ _ _ _ _ _ _ => none)
  (fun _ _ _ _ _ _ _ _ => none)
  (fun _ _ _ _ _ _ _ _ => none)
  (fun _ _ _ _ _ _ _ _ => none)
  (fun _ _ _ _ _ _ _ _ => none)
  (fun _ _ _ _ _ _ _ _ => none)
  (fun _ _ _ _ _ _ _ _ => none)
  (fun _ _ _ _ _ _ _ _ => none)
  (fun _ _ _ _ _ _ _ _ _ => none)
  (fun _ _ _ _ _ _ _ _ _ => none)
  (fun _ _ _ _ _ _ _ _ => none)
  (fun _ _ _ _ _ _ _ _ _ => none)
  (fun _ _ _ _ _ _ _ _ _ => none)
  (fun _ _ _ _ _ _ _ _ => none)
  (fun _ _ _ _ _ _ _ _ => none)
  (fun _ _ _ _ _ _ _ _ => none)
  (fun _ _ _ _ _ _ _ _ => none)
  (fun _ _ _ _ _ _ _ _ _ => none)
  (fun _ _ _ _ _ _ _ _ _ => none)
  (fun _ _ _ _ _ _ _ _ => none)
  (fun _ _ _ k _ A L st m => ((match st with
      | .inr (.inl c) :: r => cond (Nat.beq c A.2.1) (match A.1 with
        | 0 => some (L, .inl (m c k) :: r, m)
        | 1 => some (L, .inr (.inl A.2.2) :: r, m)
        | _ => some (L, .inr (.inr (m c k)) :: r, m)) none
      | _ => none)))
  (fun _ _ _ _ _ _ _ _ _ => none)
  (fun _ _ _ _ _ _ L st m => (some (L, st, m)))
  (fun _ _ _ _ _ _ _ _ _ => none)
  (fun _ _ _ _ _ L st m => (hu1 L st m (fun x => .inl (hi2b x))))
  (fun _ _ _ _ _ _ _ _ => none)
  (fun _ _ _ _ _ _ _ _ => none)
  (fun _ _ _ _ _ _ _ _ => none)
  (fun _ _ _ _ _ L st m => (hu1 L st m (fun x => .inr (.inr x))))
  (fun _ _ _ _ _ _ _ _ => none)
  (fun _ _ _ _ _ L st m => (hb2 L st m (fun x y => gx_w (x + y))))
  (fun xs _ _ _ A L st m => ((match st with
      | .inl i :: .inr (.inl c) :: r => cond (Nat.beq c A.2.1) (match A.1 with
        | 0 => some (L, .inl (m c i.toNat) :: r, m)
        | _ => some (L, .inl (xs.getD i.toNat 0).toInt :: r, m)) none
      | _ => none)))
  (fun _ _ _ _ _ L st m => (hb2 L st m gx_and))
  (fun _ _ _ _ A L st m => ((match st with
      | .inl v :: .inl i :: .inr (.inl c) :: r => cond (Nat.beq c A.2.1) (some (L, r, gx_u m c i.toNat v)) none
      | _ => none)))
  (fun n _ _ _ _ _ L st m => (some (L, .inl n :: st, m)))
  (fun _ _ _ _ _ L st m => (hb2 L st m (fun x y => gx_w (Int.tdiv x y))))
  (fun _ _ _ _ _ _ _ _ _ _ => none)
  (fun _ _ _ _ _ _ _ _ _ _ => none)
  (fun _ _ _ _ _ _ _ _ _ _ => none)
  (fun _ _ _ _ _ _ _ _ _ => none)
  (fun _ _ _ _ _ _ _ _ _ => none)
  (fun i n _ _ _ _ _ L st m => ((match hget L i with
      | some (.inl x) => some (hput L i (.inl (gx_w (x + n))), st, m)
      | _ => none)))
  (fun i _ _ _ _ _ L st m => (hild L st m i))
  (fun i _ _ _ _ _ L st m => (hild L st m (i : Nat)))
  (fun _ _ _ _ _ L st m => (hb2 L st m (fun x y => gx_w (x * y))))
  (fun _ _ _ _ _ L st m => (hu1 L st m (fun x => .inl (gx_w (-x)))))
  (fun _ _ _ _ _ _ _ _ _ => none)
  (fun _ _ _ _ _ _ _ _ _ => none)
  (fun _ _ _ _ _ _ _ _ _ _ => none)
  (fun _ _ _ _ _ _ _ _ _ => none)
  (fun _ _ a _ _ A L st m => ((match a with
      | 1001 => (match st with
        | .inl n :: .inl dp :: .inr (.inl a1) :: .inl sp :: .inr (.inl a0) :: r => cond (Nat.beq a0 A.2.1 && Nat.beq a1 A.2.2) (some (L, r, hcopy m a0 sp.toNat a1 dp.toNat n.toNat)) none
        | _ => none)
      | 1002 => hmm L st m (fun x y => if x < y then y else x)
      | 1003 => hmm L st m (fun x y => if y < x then y else x)
      | _ => none)))
  (fun _ _ _ _ _ _ _ _ _ => none)
  (fun _ _ _ _ _ L st m => (hb2 L st m gx_or))
  (fun _ _ _ _ _ L st m => (hb2 L st m Int.tmod))
  (fun _ _ _ _ _ _ _ _ => none)
  (fun _ _ _ _ _ L st m => (hb2 L st m gx_shl))
  (fun _ _ _ _ _ L st m => (hb2 L st m gx_shr))
  (fun i _ _ _ _ _ L st m => (hist L st m i))
  (fun i _ _ _ _ _ L st m => (hist L st m (i : Nat)))
  (fun _ _ _ _ _ L st m => (hb2 L st m (fun x y => gx_w (x - y))))
  (fun _ _ _ _ _ L st m => (hb2 L st m hushr))
  (fun _ _ _ _ _ L st m => (hb2 L st m gx_xor))
  (fun _ _ _ _ _ _ _ _ _ => none)
  (fun _ _ _ _ _ _ _ _ _ => none)
  (fun _ _ _ _ _ _ _ _ => none)
  (fun _ _ _ _ _ _ _ _ => none)
  (fun _ _ _ _ _ L st m => ((match st with
      | .inr (.inr x) :: r => some (L, .inl (gx_w x) :: r, m)
      | _ => none)))
  (fun _ _ _ _ _ L st m => (hl2 L st m (fun x y => hlw (x + y))))
  (fun _ _ _ _ _ _ _ _ => none)
  (fun _ _ _ _ _ L st m => (hl2 L st m hland))
  (fun _ _ _ _ _ _ _ _ => none)
  (fun _ _ _ _ _ L st m => ((match st with
      | .inr (.inr y) :: .inr (.inr x) :: r => some (L, .inl (hlcmp x y) :: r, m)
      | _ => none)))
  (fun n _ _ _ _ _ L st m => (some (L, .inr (.inr ((n : Nat) : Int)) :: st, m)))
  (fun _ _ _ _ z _ L st m => (some (L, .inl z :: st, m)))
  (fun _ _ _ _ z _ L st m => (some (L, .inl z :: st, m)))
  (fun _ _ _ _ z _ L st m => (some (L, .inr (.inr z) :: st, m)))
  (fun _ _ _ _ _ _ _ _ => none)
  (fun i _ _ _ _ _ L st m => (hlld L st m i))
  (fun i _ _ _ _ _ L st m => (hlld L st m (i : Nat)))
  (fun _ _ _ _ _ L st m => (hl2 L st m (fun x y => hlw (x * y))))
  (fun _ _ _ _ _ _ _ _ => none)
  (fun _ _ _ _ _ _ _ _ _ _ => none)
  (fun _ _ _ _ _ L st m => (hl2 L st m hlor))
  (fun _ _ _ _ _ _ _ _ => none)
  (fun _ _ _ _ _ _ _ _ => none)
  (fun _ _ _ _ _ L st m => (hls L st m hlshl))
  (fun _ _ _ _ _ _ _ _ => none)
  (fun i _ _ _ _ _ L st m => (hlst L st m i))
  (fun i _ _ _ _ _ L st m => (hlst L st m (i : Nat)))
  (fun _ _ _ _ _ L st m => (hl2 L st m (fun x y => hlw (x - y))))
  (fun _ _ _ _ _ L st m => (hls L st m hlushr))
  (fun _ _ _ _ _ L st m => (hl2 L st m hlxor))
  (fun _ _ _ _ _ _ _ _ => none)
  (fun _ _ _ _ _ _ _ _ => none)
  (fun _ _ _ _ _ _ _ _ _ _ => none)
  (fun _ _ _ _ _ _ _ _ _ => none)
  (fun _ _ _ _ _ _ _ _ _ => none)
  (fun _ _ _ _ _ _ _ _ => none)
  (fun _ _ _ _ _ L st m => ((match st with
      | _ :: r => some (L, r, m)
      | _ => none)))
  (fun _ _ _ _ _ L st m => ((match st with
      | _ :: r => some (L, r, m)
      | _ => none)))
  (fun _ _ _ k _ A L st m => ((match st with
      | .inl v :: .inr (.inl c) :: r => cond (Nat.beq c A.2.1 && Nat.beq A.1 0) (some (L, r, gx_u m c k v)) none
      | .inr (.inr v) :: .inr (.inl c) :: r => cond (Nat.beq c A.2.1 && Nat.beq A.1 2) (some (L, r, gx_u m c k v)) none
      | _ => none)))
  (fun _ _ _ _ _ _ _ _ _ => none)
  (fun _ _ _ _ _ _ _ _ _ => none)
  (fun _ _ _ _ _ _ _ _ => none)
  (fun _ _ _ _ _ _ _ _ => none)
  (fun _ _ _ _ _ _ _ _ => none)
  (fun n _ _ _ _ _ L st m => (some (L, .inl n :: st, m)))
  (fun _ _ _ _ _ _ _ _ => none)
  (fun _ _ _ _ _ _ _ _ _ _ _ _ => none)
  E.2.1 xs E.2.2.2.1 E.2.2.2.2.1 E.2.2.2.2.2.2 A L st m
theorem h1Q_fn : h1Q = h1 := by
  funext xs E A L st m
  obtain ⟨pc, I, len, a, k, q, z⟩ := E
  cases I <;> rfl
noncomputable def hokAQ (E : sx_E) (A : gx_A) : Bool := Instr.rec (motive := fun _ => Nat → Nat → Nat → Int → gx_A → Bool)
  (fun _ _ _ _ _ => true)
  (fun _ _ _ _ _ => true)
  (fun _ _ _ _ _ => true)
  (fun _ _ _ _ _ _ => true)
  (fun _ _ _ _ _ _ => true)
  (fun _ _ _ _ _ _ => true)
  (fun _ _ _ _ _ => true)
  (fun _ _ _ _ A => ((match A.1 with
      | 0 => (match sx_nth fx_S A.2.1 with
        | some (_, r) => decide (ax_len r = A.2.2) && decide (A.2.1 ≠ 100000) && decide (A.2.2 < 100000)
        | none => false)
      | _ => decide (A.2.1 = 100000))))
  (fun _ _ _ _ _ _ => true)
  (fun _ _ _ _ _ _ => true)
  (fun _ _ _ _ _ => true)
  (fun _ _ _ _ A => ((match sx_nth fx_S A.2.1 with
      | some (t, r) => decide (t = 101) && fx_all r && decide (A.2.1 ≠ 100000)
      | none => false)))
  (fun _ _ _ _ A => ((match sx_nth fx_S A.2.1 with
      | some (t, r) => decide (t = 101) && fx_all r && decide (A.2.1 ≠ 100000)
      | none => false)))
  (fun n _ _ _ _ _ => (decide ((Int8.ofInt n).toInt32.toInt = n)))
  (fun _ _ _ _ _ => true)
  (fun _ _ _ _ _ => true)
  (fun _ _ _ _ _ _ => true)
  (fun _ _ _ _ _ => true)
  (fun _ _ _ _ _ => true)
  (fun _ _ _ _ _ => true)
  (fun _ _ _ _ _ => true)
  (fun _ _ _ _ _ => true)
  (fun _ _ _ _ _ => true)
  (fun _ _ _ _ _ _ => true)
  (fun _ _ _ _ _ _ => true)
  (fun _ _ _ _ _ => true)
  (fun _ _ _ _ _ _ => true)
  (fun _ _ _ _ _ _ => true)
  (fun _ _ _ _ _ => true)
  (fun _ _ _ _ _ => true)
  (fun _ _ _ _ _ => true)
  (fun _ _ _ _ _ => true)
  (fun _ _ _ _ _ _ => true)
  (fun _ _ _ _ _ _ => true)
  (fun _ _ _ _ _ => true)
  (fun _ _ _ _ _ => true)
  (fun _ _ _ _ _ => true)
  (fun _ _ _ _ _ => true)
  (fun _ _ _ _ _ => true)
  (fun _ _ _ _ _ => true)
  (fun _ _ _ _ _ => true)
  (fun _ _ _ _ _ => true)
  (fun _ _ _ _ _ => true)
  (fun _ _ _ _ _ => true)
  (fun _ _ _ _ _ => true)
  (fun _ _ _ _ _ => true)
  (fun _ _ _ _ _ => true)
  (fun _ _ _ _ _ _ => true)
  (fun _ _ _ _ _ _ => true)
  (fun _ _ _ _ _ => true)
  (fun _ _ _ _ _ _ => true)
  (fun _ _ _ _ _ _ => true)
  (fun _ _ _ _ _ => true)
  (fun _ _ _ _ _ => true)
  (fun _ _ _ _ _ => true)
  (fun _ _ _ _ _ => true)
  (fun _ _ _ _ _ _ => true)
  (fun _ _ _ _ _ _ => true)
  (fun _ _ _ _ _ => true)
  (fun _ _ _ k _ A => ((match sx_nth fx_S A.2.1 with
      | some (_, r) => (match A.1 with
        | 0 => decide (ax_nth r k = some ax_top)
        | 1 => decide (ax_nth r k = some (2, (A.2.2 : Int), 0)) && decide (A.2.2 ≠ 100000)
        | _ => decide (ax_nth r k = some ax_topL))
      | none => false)))
  (fun _ _ _ _ _ _ => true)
  (fun off pc _ _ _ _ => (decide (0 ≤ (pc : Int) + off)))
  (fun _ _ _ _ _ _ => true)
  (fun _ _ _ _ _ => true)
  (fun _ _ _ _ _ => true)
  (fun _ _ _ _ _ => true)
  (fun _ _ _ _ _ => true)
  (fun _ _ _ _ _ => true)
  (fun _ _ _ _ _ => true)
  (fun _ _ _ _ _ => true)
  (fun _ _ _ _ A => ((match A.1 with
      | 0 => (match sx_nth fx_S A.2.1 with
        | some (t, r) => decide (t = 100) && fx_all r && decide (A.2.1 ≠ 100000)
        | none => false)
      | _ => decide (A.2.1 = 100000))))
  (fun _ _ _ _ _ => true)
  (fun _ _ _ _ A => ((match sx_nth fx_S A.2.1 with
      | some (t, r) => decide (t = 100) && fx_all r && decide (A.2.1 ≠ 100000)
      | none => false)))
  (fun n _ _ _ _ _ => (decide ((Int32.ofInt n).toInt = n)))
  (fun _ _ _ _ _ => true)
  (fun _ _ _ _ _ _ _ => true)
  (fun _ _ _ _ _ _ _ => true)
  (fun _ _ _ _ _ _ _ => true)
  (fun _ _ _ _ _ _ => true)
  (fun _ _ _ _ _ _ => true)
  (fun _ n _ _ _ _ _ => (decide ((Int32.ofInt n).toInt = n)))
  (fun _ _ _ _ _ _ => true)
  (fun _ _ _ _ _ _ => true)
  (fun _ _ _ _ _ => true)
  (fun _ _ _ _ _ => true)
  (fun _ _ _ _ _ _ => true)
  (fun _ _ _ _ _ _ => true)
  (fun _ _ _ _ _ _ _ => true)
  (fun _ _ _ _ _ _ => true)
  (fun _ _ a _ _ A => ((match a with
      | 1001 => (match sx_nth fx_S A.2.1, fx_S[A.2.2]? with
        | some (t, r), some (t', r') => decide (t = 100) && fx_all r && decide (t' = 100) && fx_all r' && decide (A.2.1 ≠ 100000) && decide (A.2.2 ≠ 100000)
        | _, _ => false)
      | _ => true)))
  (fun _ _ _ _ _ _ => true)
  (fun _ _ _ _ _ => true)
  (fun _ _ _ _ _ => true)
  (fun _ _ _ _ _ => true)
  (fun _ _ _ _ _ => true)
  (fun _ _ _ _ _ => true)
  (fun _ _ _ _ _ _ => true)
  (fun _ _ _ _ _ _ => true)
  (fun _ _ _ _ _ => true)
  (fun _ _ _ _ _ => true)
  (fun _ _ _ _ _ => true)
  (fun _ _ _ _ _ _ => true)
  (fun _ _ _ _ _ _ => true)
  (fun _ _ _ _ _ => true)
  (fun _ _ _ _ _ => true)
  (fun _ _ _ _ _ => true)
  (fun _ _ _ _ _ => true)
  (fun _ _ _ _ _ => true)
  (fun _ _ _ _ _ => true)
  (fun _ _ _ _ _ => true)
  (fun _ _ _ _ _ => true)
  (fun n _ _ _ _ _ => (decide ((Int64.ofNat (n : Nat)).toInt = ((n : Nat) : Int))))
  (fun _ _ _ _ z _ => (decide ((Int32.ofInt z).toInt = z)))
  (fun _ _ _ _ z _ => (decide ((Int32.ofInt z).toInt = z)))
  (fun _ _ _ _ z _ => (decide ((Int64.ofInt z).toInt = z)))
  (fun _ _ _ _ _ => true)
  (fun _ _ _ _ _ _ => true)
  (fun _ _ _ _ _ _ => true)
  (fun _ _ _ _ _ => true)
  (fun _ _ _ _ _ => true)
  (fun _ _ _ _ _ _ _ => true)
  (fun _ _ _ _ _ => true)
  (fun _ _ _ _ _ => true)
  (fun _ _ _ _ _ => true)
  (fun _ _ _ _ _ => true)
  (fun _ _ _ _ _ => true)
  (fun _ _ _ _ _ _ => true)
  (fun _ _ _ _ _ _ => true)
  (fun _ _ _ _ _ => true)
  (fun _ _ _ _ _ => true)
  (fun _ _ _ _ _ => true)
  (fun _ _ _ _ _ => true)
  (fun _ _ _ _ _ => true)
  (fun _ _ _ _ _ _ _ => true)
  (fun _ _ _ _ _ _ => true)
  (fun _ _ _ _ _ _ => true)
  (fun _ _ _ _ _ => true)
  (fun _ _ _ _ _ => true)
  (fun _ _ _ _ _ => true)
  (fun _ _ _ k _ A => ((match sx_nth fx_S A.2.1 with
      | some (_, r) => (match A.1 with
        | 0 => decide (ax_nth r k = some ax_top)
        | _ => decide (ax_nth r k = some ax_topL))
      | none => false)))
  (fun _ _ _ _ _ _ => true)
  (fun _ _ _ _ _ _ => true)
  (fun _ _ _ _ _ => true)
  (fun _ _ _ _ _ => true)
  (fun _ _ _ _ _ => true)
  (fun n _ _ _ _ _ => (decide ((Int16.ofInt n).toInt32.toInt = n)))
  (fun _ _ _ _ _ => true)
  (fun _ _ _ _ _ _ _ _ _ => true)
  E.2.1 E.1 E.2.2.2.1 E.2.2.2.2.1 E.2.2.2.2.2.2 A
theorem hokAQ_fn : hokAQ = hokA := by
  funext E A
  obtain ⟨pc, I, len, a, k, q, z⟩ := E
  unfold hokA
  cases I <;> first | rfl | (dsimp only; rw [← sx_nth_eq]; rfl)
noncomputable def hnxQ (E : sx_E) : Nat := Instr.rec (motive := fun _ => Nat → Nat)
  (fun pc => pc + 1)
  (fun pc => pc + 1)
  (fun pc => pc + 1)
  (fun _ pc => (pc + 2))
  (fun _ pc => pc + 1)
  (fun _ pc => pc + 1)
  (fun pc => pc + 1)
  (fun pc => pc + 1)
  (fun _ pc => pc + 1)
  (fun _ pc => pc + 1)
  (fun pc => pc + 1)
  (fun pc => pc + 1)
  (fun pc => pc + 1)
  (fun _ pc => (pc + 2))
  (fun pc => pc + 1)
  (fun pc => pc + 1)
  (fun _ pc => pc + 1)
  (fun pc => pc + 1)
  (fun pc => pc + 1)
  (fun pc => pc + 1)
  (fun pc => pc + 1)
  (fun pc => pc + 1)
  (fun pc => pc + 1)
  (fun _ pc => pc + 1)
  (fun _ pc => pc + 1)
  (fun pc => pc + 1)
  (fun _ pc => pc + 1)
  (fun _ pc => pc + 1)
  (fun pc => pc + 1)
  (fun pc => pc + 1)
  (fun pc => pc + 1)
  (fun pc => pc + 1)
  (fun _ pc => pc + 1)
  (fun _ pc => pc + 1)
  (fun pc => pc + 1)
  (fun pc => pc + 1)
  (fun pc => pc + 1)
  (fun pc => pc + 1)
  (fun pc => pc + 1)
  (fun pc => pc + 1)
  (fun pc => pc + 1)
  (fun pc => pc + 1)
  (fun pc => pc + 1)
  (fun pc => pc + 1)
  (fun pc => pc + 1)
  (fun pc => pc + 1)
  (fun pc => pc + 1)
  (fun _ pc => pc + 1)
  (fun _ pc => pc + 1)
  (fun pc => pc + 1)
  (fun _ pc => pc + 1)
  (fun _ pc => pc + 1)
  (fun pc => pc + 1)
  (fun pc => pc + 1)
  (fun pc => pc + 1)
  (fun pc => pc + 1)
  (fun _ pc => pc + 1)
  (fun _ pc => pc + 1)
  (fun pc => pc + 1)
  (fun _ pc => (pc + 3))
  (fun _ pc => pc + 1)
  (fun off pc => (((pc : Int) + off).toNat))
  (fun _ pc => pc + 1)
  (fun pc => pc + 1)
  (fun pc => pc + 1)
  (fun pc => pc + 1)
  (fun pc => pc + 1)
  (fun pc => pc + 1)
  (fun pc => pc + 1)
  (fun pc => pc + 1)
  (fun pc => pc + 1)
  (fun pc => pc + 1)
  (fun pc => pc + 1)
  (fun _ pc => pc + 1)
  (fun pc => pc + 1)
  (fun _ _ pc => pc + 1)
  (fun _ _ pc => pc + 1)
  (fun _ _ pc => pc + 1)
  (fun _ pc => pc + 1)
  (fun _ pc => pc + 1)
  (fun _ _ pc => (pc + 3))
  (fun _ pc => (pc + 2))
  (fun _ pc => pc + 1)
  (fun pc => pc + 1)
  (fun pc => pc + 1)
  (fun _ pc => pc + 1)
  (fun _ pc => pc + 1)
  (fun _ _ pc => pc + 1)
  (fun _ pc => pc + 1)
  (fun _ pc => (pc + 3))
  (fun _ pc => pc + 1)
  (fun pc => pc + 1)
  (fun pc => pc + 1)
  (fun pc => pc + 1)
  (fun pc => pc + 1)
  (fun pc => pc + 1)
  (fun _ pc => (pc + 2))
  (fun _ pc => pc + 1)
  (fun pc => pc + 1)
  (fun pc => pc + 1)
  (fun pc => pc + 1)
  (fun _ pc => pc + 1)
  (fun _ pc => pc + 1)
  (fun pc => pc + 1)
  (fun pc => pc + 1)
  (fun pc => pc + 1)
  (fun pc => pc + 1)
  (fun pc => pc + 1)
  (fun pc => pc + 1)
  (fun pc => pc + 1)
  (fun pc => pc + 1)
  (fun _ pc => pc + 1)
  (fun _ pc => (pc + 2))
  (fun _ pc => (pc + 3))
  (fun _ pc => (pc + 3))
  (fun pc => pc + 1)
  (fun _ pc => (pc + 2))
  (fun _ pc => pc + 1)
  (fun pc => pc + 1)
  (fun pc => pc + 1)
  (fun _ _ pc => pc + 1)
  (fun pc => pc + 1)
  (fun pc => pc + 1)
  (fun pc => pc + 1)
  (fun pc => pc + 1)
  (fun pc => pc + 1)
  (fun _ pc => (pc + 2))
  (fun _ pc => pc + 1)
  (fun pc => pc + 1)
  (fun pc => pc + 1)
  (fun pc => pc + 1)
  (fun pc => pc + 1)
  (fun pc => pc + 1)
  (fun _ _ pc => pc + 1)
  (fun _ pc => pc + 1)
  (fun _ pc => pc + 1)
  (fun pc => pc + 1)
  (fun pc => pc + 1)
  (fun pc => pc + 1)
  (fun _ pc => (pc + 3))
  (fun _ pc => pc + 1)
  (fun _ pc => pc + 1)
  (fun pc => pc + 1)
  (fun pc => pc + 1)
  (fun pc => pc + 1)
  (fun _ pc => (pc + 3))
  (fun pc => pc + 1)
  (fun _ _ _ _ pc => pc + 1)
  E.2.1 E.1
theorem hnxQ_fn : hnxQ = hnx := by
  funext E
  obtain ⟨pc, I, len, a, k, q, z⟩ := E
  cases I <;> rfl
end
section
/-! PARTIAL RUNS, 3: every instruction; blocks -/
theorem hx_min (x y : Int32) : (if x < y then y else x).toInt = if x.toInt < y.toInt then y.toInt else x.toInt := by
  by_cases c : x < y
  · rw [if_pos c, if_pos (Int32.lt_iff_toInt_lt.mp c)]
  · rw [if_neg c, if_neg (fun h => c (Int32.lt_iff_toInt_lt.mpr h))]
theorem hx_max (x y : Int32) : (if y < x then y else x).toInt = if y.toInt < x.toInt then y.toInt else x.toInt := by
  by_cases c : y < x
  · rw [if_pos c, if_pos (Int32.lt_iff_toInt_lt.mp c)]
  · rw [if_neg c, if_neg (fun h => c (Int32.lt_iff_toInt_lt.mpr h))]
section HXS
variable {xs : List Int32} {nL : Nat} {L : hLs} {st : List hV} {sv : List Value} {m : gx_M} {w : sx_W} {lv : sx_L} {q : hR} {r' : sx_R}
theorem hgetf_ok {E : sx_E} {A : gx_A} {c : Nat} {r0 : List hV} (hn : hnx E = E.1 + 3) (hst : sx_step yp_P xs nL E lv sv w = sx_getf E.1 lv sv w E.2.2.2.1 E.2.2.2.2.1) (hc : Nat.beq c A.2.1 = true) (hA : (match fx_S[A.2.1]? with
      | some (_, r) => (match A.1 with
        | 0 => decide (ax_nth r E.2.2.2.2.1 = some ax_top)
        | 1 => decide (ax_nth r E.2.2.2.2.1 = some (2, (A.2.2 : Int), 0)) && decide (A.2.2 ≠ 100000)
        | _ => decide (ax_nth r E.2.2.2.2.1 = some ax_topL))
      | none => false) = true) (h : (match A.1 with
        | 0 => some ((L, .inl (m c E.2.2.2.2.1) :: r0, m) : hR)
        | 1 => some (L, .inr (.inl A.2.2) :: r0, m)
        | _ => some (L, .inr (.inr (m c E.2.2.2.2.1)) :: r0, m)) = some q) (hl' : hl lv L) (hs' : hs sv (.inr (.inl c) :: r0)) (hw : bx_in fx_S w) (hm' : hm w = m) (hr : sx_step yp_P xs nL E lv sv w = some r') : hrel E r' q := by
  have hc := Nat.eq_of_beq_eq_true hc
  subst hc
  obtain ⟨u, s1, rfl, g1, g2⟩ := hs1 hs'
  split at hA
  · rename_i t q' hS
    rcases hg_ref g1 with ⟨-, k, rfl⟩ | ⟨hne, rfl⟩
    · rw [hst] at hr; cases hr
    rw [hst] at hr
    unfold sx_getf at hr
    dsimp only at hr
    split at hr
    · rename_i c' fs hcw
      split at hr
      · split at hr
        · rename_i v hv
          cases hr
          obtain ⟨vs, k1, k2, k3⟩ := hw.2 _ _ _ hS
          rw [hcw] at k1
          cases k1
          have hmv : m A.2.1 E.2.2.2.2.1 = hval v := by rw [← hm']; exact hm_rd (hrd_at hcw hv)
          split at h
          · rename_i e0
            cases h
            rw [e0] at hA
            have hk := of_decide_eq_true hA
            obtain ⟨x, rfl, -, -⟩ := k3 _ _ _ hk hv
            exact ⟨hn.symm, hl', ⟨⟨x, rfl, hmv.symm⟩, g2⟩, hw, hm'⟩
          · rename_i e0
            cases h
            rw [e0] at hA
            have hA : (decide (ax_nth q' E.2.2.2.2.1 = some (2, (A.2.2 : Int), 0)) && decide (A.2.2 ≠ 100000)) = true := hA
            rw [Bool.and_eq_true, decide_eq_true_eq, decide_eq_true_eq] at hA
            have h5 := k3 _ _ _ hA.1 hv
            have hv' : v = .ref ((A.2.2 : Nat) : Int).toNat := h5
            rw [Int.toNat_natCast] at hv'
            subst hv'
            exact ⟨hn.symm, hl', ⟨.inr ⟨hA.2, rfl⟩, g2⟩, hw, hm'⟩
          · rename_i e0 e1
            cases h
            split at hA
            · rename_i e; exact absurd e e0
            · rename_i e; exact absurd e e1
            have hk := of_decide_eq_true hA
            obtain ⟨x, rfl, -, -⟩ := k3 _ _ _ hk hv
            exact ⟨hn.symm, hl', ⟨⟨x, rfl, hmv.symm⟩, g2⟩, hw, hm'⟩
        · cases hr
      · cases hr
    · cases hr
  · cases hA
theorem hputf_ok {E : sx_E} {A : gx_A} {c : Nat} {v : hV} {z : Int} {a : ax_V} {r0 : List hV} {ty : FieldType} (hn : hnx E = E.1 + 3) (hst : sx_step yp_P xs nL E lv sv w = sx_putf E.1 lv sv w E.2.2.2.1 E.2.2.2.2.1 ty) (hc : Nat.beq c A.2.1 = true) {t : Nat} {r : ax_A} (hS : fx_S[A.2.1]? = some (t, r)) (hk : ax_nth r E.2.2.2.2.1 = some a) (hva : ∀ u, hg v u → ax_g [] a u ∧ hval u = z) (hl' : hl lv L) (hs' : hs sv (v :: .inr (.inl c) :: r0)) (hw : bx_in fx_S w) (hm' : hm w = m) (hr : sx_step yp_P xs nL E lv sv w = some r') : hrel E r' (L, r0, gx_u m c E.2.2.2.2.1 z) := by
  have hc := Nat.eq_of_beq_eq_true hc
  subst hc
  obtain ⟨u, s1, rfl, g1, g2⟩ := hs1 hs'
  obtain ⟨u2, s2, rfl, g3, g4⟩ := hs1 g2
  rcases hg_ref g3 with ⟨-, k, rfl⟩ | ⟨hne, rfl⟩
  · rw [hst] at hr; cases hr
  rw [hst] at hr
  unfold sx_putf at hr
  dsimp only at hr
  split at hr
  · rename_i c' fs hcw
    split at hr
    · rename_i hcc
      cases hr
      obtain ⟨vs, k1, k2, k3⟩ := hw.2 _ _ _ hS
      rw [hcw] at k1
      cases k1
      refine ⟨hn.symm, hl', g4, hset_in hw hS hk hcw (hva u g1).1, ?_⟩
      show hm (w.set A.2.1 (t, fs.set E.2.2.2.2.1 u)) = _
      rw [hset_m hcw hcc.2.2.1, hm', (hva u g1).2]
    · cases hr
  · cases hr
theorem hcpy_ok {E : sx_E} {A : gx_A} {a0 a1 : Nat} {n dp sp : Int} {r0 : List hV} (hn : hnx E = E.1 + 3) (hst : sx_step yp_P xs nL E lv sv w = sx_copy E.1 lv sv w) (hc : (Nat.beq a0 A.2.1 && Nat.beq a1 A.2.2) = true) (hA : (match fx_S[A.2.1]?, fx_S[A.2.2]? with
        | some (t, r), some (t', r') => decide (t = 100) && fx_all r && decide (t' = 100) && fx_all r' && decide (A.2.1 ≠ 100000) && decide (A.2.2 ≠ 100000)
        | _, _ => false) = true) (hl' : hl lv L) (hs' : hs sv (.inl n :: .inl dp :: .inr (.inl a1) :: .inl sp :: .inr (.inl a0) :: r0)) (hw : bx_in fx_S w) (hm' : hm w = m) (hr : sx_step yp_P xs nL E lv sv w = some r') : hrel E r' (L, r0, hcopy m a0 sp.toNat a1 dp.toNat n.toNat) := by
  rw [Bool.and_eq_true] at hc
  have hc0 := Nat.eq_of_beq_eq_true hc.1
  have hc1 := Nat.eq_of_beq_eq_true hc.2
  subst hc0
  subst hc1
  obtain ⟨u, s1, rfl, g1, g2⟩ := hs1 hs'
  obtain ⟨u2, s2, rfl, g3, g4⟩ := hs1 g2
  obtain ⟨u3, s3, rfl, g5, g6⟩ := hs1 g4
  obtain ⟨u4, s4, rfl, g7, g8⟩ := hs1 g6
  obtain ⟨u5, s5, rfl, g9, g10⟩ := hs1 g8
  obtain ⟨zn, rfl, rfl⟩ := hg_int g1
  obtain ⟨zd, rfl, rfl⟩ := hg_int g3
  obtain ⟨zs, rfl, rfl⟩ := hg_int g7
  split at hA
  · rename_i t q t' q' hS0 hS1
    simp only [Bool.and_eq_true, decide_eq_true_eq] at hA
    obtain ⟨⟨⟨⟨⟨rfl, ha0⟩, rfl⟩, ha1⟩, n0⟩, n1⟩ := hA
    rcases hg_ref g5 with ⟨e, -⟩ | ⟨-, rfl⟩
    · exact absurd e n1
    rcases hg_ref g9 with ⟨e, -⟩ | ⟨-, rfl⟩
    · exact absurd e n0
    rw [hst] at hr
    unfold sx_copy at hr
    dsimp only at hr
    split at hr
    · rename_i c0 f c1 g hf hg'
      split at hr
      · rename_i hcc
        cases hr
        obtain ⟨rfl, rfl, -, -, -, h1, h2, -⟩ := hcc
        obtain ⟨k1, k2⟩ := hcopy_ok hw hS0 hS1 ha0 ha1 hf hg' h1 h2
        exact ⟨hn.symm, hl', g10, k1, by rw [← hm']; exact k2⟩
      · cases hr
    · cases hr
  · cases hA
theorem h1_ok {E : sx_E} {A : gx_A} (h : h1 xs E A L st m = some q) (hA : hokA E A = true) (hl' : hl lv L) (hs' : hs sv st) (hw : bx_in fx_S w) (hm' : hm w = m) (hr : sx_step yp_P xs nL E lv sv w = some r') : hrel E r' q := by
  obtain ⟨pc, I, len, a, k, qq, z⟩ := E
  cases I
  case iconst n =>
    cases h; cases hr
    exact ⟨rfl, hl', ⟨⟨_, rfl, of_decide_eq_true hA⟩, hs'⟩, hw, hm'⟩
  case bipush n =>
    cases h; cases hr
    exact ⟨rfl, hl', ⟨⟨_, rfl, of_decide_eq_true hA⟩, hs'⟩, hw, hm'⟩
  case sipush n =>
    cases h; cases hr
    exact ⟨rfl, hl', ⟨⟨_, rfl, of_decide_eq_true hA⟩, hs'⟩, hw, hm'⟩
  case lconst n =>
    cases h; cases hr
    exact ⟨rfl, hl', ⟨⟨_, rfl, of_decide_eq_true hA⟩, hs'⟩, hw, hm'⟩
  case ldc n =>
    cases h; cases hr
    exact ⟨rfl, hl', ⟨⟨_, rfl, of_decide_eq_true hA⟩, hs'⟩, hw, hm'⟩
  case ldc_w n =>
    cases h; cases hr
    exact ⟨rfl, hl', ⟨⟨_, rfl, of_decide_eq_true hA⟩, hs'⟩, hw, hm'⟩
  case ldc2_w n =>
    cases h; cases hr
    exact ⟨rfl, hl', ⟨⟨_, rfl, of_decide_eq_true hA⟩, hs'⟩, hw, hm'⟩
  case iload_n i => exact hild_ok (n := 1) rfl rfl h hl' hs' hw hm' hr
  case iload i => exact hild_ok (n := 2) rfl rfl h hl' hs' hw hm' hr
  case lload_n i => exact hlld_ok (n := 1) rfl rfl h hl' hs' hw hm' hr
  case lload i => exact hlld_ok (n := 2) rfl rfl h hl' hs' hw hm' hr
  case aload_n i => exact hald_ok (n := 1) rfl rfl h hl' hs' hw hm' hr
  case aload i => exact hald_ok (n := 2) rfl rfl h hl' hs' hw hm' hr
  case istore_n i => exact hist_ok (n := 1) rfl rfl h hl' hs' hw hm' hr
  case istore i => exact hist_ok (n := 2) rfl rfl h hl' hs' hw hm' hr
  case lstore_n i => exact hlst_ok (n := 1) rfl rfl h hl' hs' hw hm' hr
  case lstore i => exact hlst_ok (n := 2) rfl rfl h hl' hs' hw hm' hr
  case iinc i n =>
    dsimp only [h1] at h
    dsimp only [hokA] at hA
    rw [decide_eq_true_eq] at hA
    split at h
    · rename_i x hx
      cases h
      obtain ⟨y, e1, -, e2⟩ := sx_iinc_inv (pc := pc) (nL := nL) (st := sv) (w := w) hr
      subst e2
      obtain ⟨u, g1, g2⟩ := hl_get hl' hx
      rw [e1] at g1
      cases g1
      obtain ⟨y', e, rfl⟩ := hg_int g2
      cases e
      refine ⟨rfl, hl_set hl' ⟨_, rfl, ?_⟩, hs', hw, hm'⟩
      rw [Int32.toInt_add, hA]
      exact gx_bm _
    · cases h
  case iadd => exact hb2_ok rfl rfl (fun x y z e => by cases e; rw [Int32.toInt_add]; exact gx_bm _) h hl' hs' hw hm' hr
  case isub => exact hb2_ok rfl rfl (fun x y z e => by cases e; rw [Int32.toInt_sub]; exact gx_bm _) h hl' hs' hw hm' hr
  case imul => exact hb2_ok rfl rfl (fun x y z e => by cases e; rw [Int32.toInt_mul]; exact gx_bm _) h hl' hs' hw hm' hr
  case iand => exact hb2_ok rfl rfl (fun x y z e => by cases e; unfold gx_and; rw [Int32.ofInt_toInt, Int32.ofInt_toInt]) h hl' hs' hw hm' hr
  case ior => exact hb2_ok rfl rfl (fun x y z e => by cases e; unfold gx_or; rw [Int32.ofInt_toInt, Int32.ofInt_toInt]) h hl' hs' hw hm' hr
  case ixor => exact hb2_ok rfl rfl (fun x y z e => by cases e; unfold gx_xor; rw [Int32.ofInt_toInt, Int32.ofInt_toInt]) h hl' hs' hw hm' hr
  case ishl => exact hb2_ok rfl rfl (fun x y z e => by cases e; unfold gx_shl; rw [Int32.ofInt_toInt, Int32.ofInt_toInt]) h hl' hs' hw hm' hr
  case ishr => exact hb2_ok rfl rfl (fun x y z e => by cases e; unfold gx_shr; rw [Int32.ofInt_toInt, Int32.ofInt_toInt]) h hl' hs' hw hm' hr
  case iushr => exact hb2_ok rfl rfl (fun x y z e => by cases e; unfold hushr; rw [Int32.ofInt_toInt, Int32.ofInt_toInt]) h hl' hs' hw hm' hr
  case idiv => exact hb2_ok rfl rfl (fun x y z e => by
    split at e
    · cases e
    · cases e; rw [Int32.toInt_div]; exact gx_bm _) h hl' hs' hw hm' hr
  case irem => exact hb2_ok rfl rfl (fun x y z e => by
    split at e
    · cases e
    · cases e; exact bx_rem _ _) h hl' hs' hw hm' hr
  case ineg => exact hu1_ok (f := fun x => .inl (gx_w (-x))) rfl rfl (fun x => ⟨_, rfl, by rw [Int32.toInt_neg]; exact gx_bm _⟩) h hl' hs' hw hm' hr
  case i2l => exact hu1_ok (f := fun x => .inr (.inr x)) rfl rfl (fun x => ⟨_, rfl, Int32.toInt_toInt64 x⟩) h hl' hs' hw hm' hr
  case i2b => exact hu1_ok (f := fun x => .inl (hi2b x)) rfl rfl (fun x => ⟨_, rfl, by unfold hi2b; rw [Int32.ofInt_toInt]⟩) h hl' hs' hw hm' hr
  case l2i =>
    dsimp only [h1] at h
    split at h
    · cases h
      obtain ⟨u, s1, rfl, g1, g2⟩ := hs1 hs'
      obtain ⟨b, rfl, rfl⟩ := hg_long g1
      cases hr
      exact ⟨rfl, hl', ⟨⟨_, rfl, by rw [Int64.toInt_toInt32]; exact gx_bm _⟩, g2⟩, hw, hm'⟩
    · cases h
  case ladd => exact hl2_ok rfl rfl (fun x y => by rw [Int64.toInt_add]; exact hlw_bm _) h hl' hs' hw hm' hr
  case lsub => exact hl2_ok rfl rfl (fun x y => by rw [Int64.toInt_sub]; exact hlw_bm _) h hl' hs' hw hm' hr
  case lmul => exact hl2_ok rfl rfl (fun x y => by rw [Int64.toInt_mul]; exact hlw_bm _) h hl' hs' hw hm' hr
  case land => exact hl2_ok rfl rfl (fun x y => by unfold hland; rw [Int64.ofInt_toInt, Int64.ofInt_toInt]) h hl' hs' hw hm' hr
  case lor => exact hl2_ok rfl rfl (fun x y => by unfold hlor; rw [Int64.ofInt_toInt, Int64.ofInt_toInt]) h hl' hs' hw hm' hr
  case lxor => exact hl2_ok rfl rfl (fun x y => by unfold hlxor; rw [Int64.ofInt_toInt, Int64.ofInt_toInt]) h hl' hs' hw hm' hr
  case lshl => exact hls_ok rfl rfl (fun x y => by unfold hlshl; rw [Int64.ofInt_toInt, Int32.ofInt_toInt]) h hl' hs' hw hm' hr
  case lushr => exact hls_ok rfl rfl (fun x y => by unfold hlushr; rw [Int64.ofInt_toInt, Int32.ofInt_toInt]) h hl' hs' hw hm' hr
  case lcmp =>
    dsimp only [h1] at h
    split at h
    · cases h
      obtain ⟨u, s1, rfl, g1, g2⟩ := hs1 hs'
      obtain ⟨v, s2, rfl, g3, g4⟩ := hs1 g2
      obtain ⟨b, rfl, rfl⟩ := hg_long g1
      obtain ⟨a0, rfl, rfl⟩ := hg_long g3
      cases hr
      exact ⟨rfl, hl', ⟨⟨_, rfl, hlcmp_ok _ _⟩, g4⟩, hw, hm'⟩
    · cases h
  case dup =>
    dsimp only [h1] at h
    split at h
    · cases h
      obtain ⟨u, s1, rfl, g1, g2⟩ := hs1 hs'
      dsimp only [sx_step] at hr
      unfold sx_d1 at hr
      dsimp only at hr
      split at hr
      · cases hr; exact ⟨rfl, hl', ⟨g1, g1, g2⟩, hw, hm'⟩
      · cases hr
    · cases h
  case pop =>
    dsimp only [h1] at h
    split at h
    · cases h
      obtain ⟨u, s1, rfl, g1, g2⟩ := hs1 hs'
      dsimp only [sx_step] at hr
      unfold sx_p1 at hr
      dsimp only at hr
      split at hr
      · cases hr; exact ⟨rfl, hl', g2, hw, hm'⟩
      · cases hr
    · cases h
  case pop2 =>
    dsimp only [h1] at h
    split at h
    · cases h
      obtain ⟨u, s1, rfl, g1, g2⟩ := hs1 hs'
      dsimp only [sx_step] at hr
      unfold sx_p2 at hr
      dsimp only at hr
      split at hr
      · cases hr; exact ⟨rfl, hl', g2, hw, hm'⟩
      · cases hr
    · cases h
  case dup_x1 =>
    dsimp only [h1] at h
    split at h
    · cases h
      obtain ⟨u, s1, rfl, g1, g2⟩ := hs1 hs'
      obtain ⟨v, s2, rfl, g3, g4⟩ := hs1 g2
      dsimp only [sx_step] at hr
      unfold sx_dx1 at hr
      dsimp only at hr
      split at hr
      · cases hr; exact ⟨rfl, hl', ⟨g1, g3, g1, g4⟩, hw, hm'⟩
      · cases hr
    · cases h
  case dup2 =>
    dsimp only [h1] at h
    split at h
    · cases h
      obtain ⟨u, s1, rfl, g1, g2⟩ := hs1 hs'
      obtain ⟨v, s2, rfl, g3, g4⟩ := hs1 g2
      dsimp only [sx_step] at hr
      unfold sx_d2 at hr
      dsimp only at hr
      split at hr
      · cases hr; exact ⟨rfl, hl', ⟨g1, g3, g1, g3, g4⟩, hw, hm'⟩
      · cases hr
    · cases h
  case goto off =>
    cases h
    have hr : sx_jmp pc off lv sv w true = some r' := hr
    unfold sx_jmp at hr
    rw [if_pos (of_decide_eq_true hA)] at hr
    cases hr
    exact ⟨rfl, hl', hs', hw, hm'⟩
  case getfield i =>
    dsimp only [h1] at h
    split at h
    · obtain ⟨hc, h⟩ := hcond h
      exact hgetf_ok rfl rfl hc hA h hl' hs' hw hm' hr
    · cases h
  case putfield i =>
    dsimp only [h1] at h
    dsimp only [hokA] at hA
    split at hA
    · rename_i t rr hS
      split at h
      · obtain ⟨hc, h⟩ := hcond h
        rw [Bool.and_eq_true] at hc
        cases h
        rw [Nat.eq_of_beq_eq_true hc.2] at hA
        exact hputf_ok (a := ax_top) rfl rfl hc.1 hS (of_decide_eq_true hA) (fun u hu => by
            obtain ⟨zz, rfl, rfl⟩ := hg_int hu
            exact ⟨ax_top_ok zz, rfl⟩) hl' hs' hw hm' hr
      · obtain ⟨hc, h⟩ := hcond h
        rw [Bool.and_eq_true] at hc
        cases h
        rw [Nat.eq_of_beq_eq_true hc.2] at hA
        exact hputf_ok (a := ax_topL) rfl rfl hc.1 hS (of_decide_eq_true hA) (fun u hu => by
            obtain ⟨zz, rfl, rfl⟩ := hg_long hu
            exact ⟨ax_topL_ok zz, rfl⟩) hl' hs' hw hm' hr
      · cases h
    · cases hA
  case iaload =>
    dsimp only [h1] at h
    dsimp only [hokA] at hA
    split at h
    · rename_i i c r0
      obtain ⟨hc, h⟩ := hcond h
      have hc := Nat.eq_of_beq_eq_true hc
      subst hc
      split at h
      · rename_i e0
        cases h
        rw [e0] at hA
        exact haget_ok rfl rfl hA hl' hs' hw hm' hr
      · rename_i e0
        cases h
        split at hA
        · rename_i e; exact absurd e e0
        have hA := of_decide_eq_true hA
        obtain ⟨u, s1, rfl, g1, g2⟩ := hs1 hs'
        obtain ⟨v, s2, rfl, g3, g4⟩ := hs1 g2
        obtain ⟨b, rfl, rfl⟩ := hg_int g1
        rcases hg_ref g3 with ⟨-, kk, rfl⟩ | ⟨hne, rfl⟩
        · dsimp only [sx_step] at hr
          unfold sx_aget at hr
          dsimp only at hr
          rw [if_pos rfl] at hr
          split at hr
          · rename_i j hj
            cases hr
            obtain ⟨-, e1, -⟩ := sx_ix_inv hj
            have e2 : b.toInt.toNat = j := e1
            exact ⟨rfl, hl', ⟨⟨_, rfl, by rw [e2]⟩, g4⟩, hw, hm'⟩
          · cases hr
        · exact absurd hA hne
    · cases h
  case baload =>
    dsimp only [h1] at h
    split at h
    · obtain ⟨hc, h⟩ := hcond h
      have hc := Nat.eq_of_beq_eq_true hc
      subst hc
      cases h
      exact haget_ok rfl rfl hA hl' hs' hw hm' hr
    · cases h
  case iastore =>
    dsimp only [h1] at h
    split at h
    · obtain ⟨hc, h⟩ := hcond h
      have hc := Nat.eq_of_beq_eq_true hc
      subst hc
      cases h
      exact haput_ok (g := fun x => x) (fun x => rfl) rfl rfl hA hl' hs' hw hm' hr
    · cases h
  case bastore =>
    dsimp only [h1] at h
    split at h
    · obtain ⟨hc, h⟩ := hcond h
      have hc := Nat.eq_of_beq_eq_true hc
      subst hc
      cases h
      exact haput_ok (g := hbyte) (fun x => by unfold hbyte; rw [Int32.ofInt_toInt]) rfl rfl hA hl' hs' hw hm' hr
    · cases h
  case arraylength =>
    dsimp only [h1] at h
    dsimp only [hokA] at hA
    split at h
    · rename_i c r0
      obtain ⟨hc, h'⟩ := hcond h
      clear h
      have hc := Nat.eq_of_beq_eq_true hc
      subst hc
      obtain ⟨u, s1, rfl, g1, g2⟩ := hs1 hs'
      split at h'
      · rename_i e0
        cases h'
        rw [e0] at hA
        have hA : (match fx_S[A.2.1]? with | some (_, r) => decide (ax_len r = A.2.2) && decide (A.2.1 ≠ 100000) && decide (A.2.2 < 100000) | none => false) = true := hA
        split at hA
        · rename_i t rr hS
          simp only [Bool.and_eq_true, decide_eq_true_eq] at hA
          obtain ⟨⟨hln, hne⟩, hlt⟩ := hA
          rcases hg_ref g1 with ⟨e, -⟩ | ⟨-, rfl⟩
          · exact absurd e hne
          obtain ⟨vs, k1, k2, k3⟩ := hw.2 _ _ _ hS
          dsimp only [sx_step] at hr
          unfold sx_alen at hr
          dsimp only at hr
          rw [k1] at hr
          dsimp only at hr
          split at hr
          · cases hr
            refine ⟨rfl, hl', ⟨⟨_, rfl, ?_⟩, g2⟩, hw, hm'⟩
            rw [k2, hln, Int32.toInt_ofNat_of_lt (by omega)]
          · cases hr
        · cases hA
      · rename_i e0
        cases h'
        split at hA
        · rename_i e; exact absurd e e0
        have hA := of_decide_eq_true hA
        rcases hg_ref g1 with ⟨-, kk, rfl⟩ | ⟨hne, rfl⟩
        · cases hr
          exact ⟨rfl, hl', ⟨⟨_, rfl, rfl⟩, g2⟩, hw, hm'⟩
        · exact absurd hA hne
    · cases h
  case invokestatic i =>
    dsimp only [h1] at h
    dsimp only [hokA] at hA
    split at h
    · split at h
      · obtain ⟨hc, h⟩ := hcond h
        cases h
        exact hcpy_ok (xs := xs) (nL := nL) (E := (pc, .invokestatic i, len, 1001, k, qq, z)) rfl rfl hc hA hl' hs' hw hm' hr
      · cases h
    · exact hmm_ok (xs := xs) (nL := nL) (E := (pc, .invokestatic i, len, 1002, k, qq, z)) rfl rfl hx_min h hl' hs' hw hm' hr
    · exact hmm_ok (xs := xs) (nL := nL) (E := (pc, .invokestatic i, len, 1003, k, qq, z)) rfl rfl hx_max h hl' hs' hw hm' hr
    · cases h
  all_goals (cases h; done)
end HXS
end
section
/-! PARTIAL RUNS, 4: runs, blocks, branches, switches, calls, ends -/
def hro (r : Option hV) (v : Option Value) : Prop := match r, v with
  | none, none => True
  | some x, some u => hg x u
  | _, _ => False
def hrs : Option hV → List hV
  | none => []
  | some v => [v]
theorem hro_hs {r : Option hV} {v : Option Value} (h : hro r v) : hs v.toList (hrs r) := by
  cases r <;> cases v
  · trivial
  · exact h.elim
  · exact h.elim
  · exact ⟨h, trivial⟩
/-- every run of n steps from here on that ends comes to an answer and a memory that Q holds of -/
noncomputable def hxn (xs : List Int32) (n : Nat) (M : sx_M) (pc : Nat) (L : hLs) (st : List hV) (m : gx_M) (Q : hQ) : Prop :=
  ∀ (d : Nat) (lv : sx_L) (sv : List Value) (w : sx_W) (o : sx_O), hl lv L → hs sv st → bx_in fx_S w → hm w = m → sx_ev yp_P xs n d M pc lv sv w = some o → ∃ r, hro r o.1 ∧ bx_in fx_S o.2 ∧ Q r (hm o.2)
noncomputable def hrows (M : sx_M) : Nat → List (sx_E × gx_A) → Nat → Bool
  | pc, [], n => decide (pc = n)
  | pc, p :: r, n => decide (p.1.1 = pc) && gx_rowB M p.1 && !(sx_isRetQ p.1.2.1) && !(sx_isCallQ p.1) && hokAQ p.1 p.2 && hrows M (hnxQ p.1) r n
noncomputable def hrun (xs : List Int32) : List (sx_E × gx_A) → hLs → List hV → gx_M → Option hR
  | [], L, st, m => some (L, st, m)
  | p :: r, L, st, m => match h1Q xs p.1 p.2 L st m with
    | some q => hrun xs r q.1 q.2.1 q.2.2
    | none => none
section HXR
variable {xs : List Int32} {n : Nat} {M : sx_M} {pc : Nat} {L : hLs} {st : List hV} {m : gx_M} {Q : hQ}
theorem hx_0 : hxn xs 0 M pc L st m Q := fun d lv sv w o _ _ _ _ h => by cases h
theorem hx_le {k : Nat} (hk : n ≤ k) (h : hxn xs k M pc L st m Q) : hxn xs n M pc L st m Q :=
  fun d lv sv w o h1 h2 h3 h4 h5 => h d lv sv w o h1 h2 h3 h4 (sx_ev_le hk _ _ _ _ _ _ _ h5)
theorem hx_dn (h : hxn xs (n + 1) M pc L st m Q) : hxn xs n M pc L st m Q := hx_le (Nat.le_succ n) h
theorem hx_mono {Q' : hQ} (h : hxn xs n M pc L st m Q) (hq : ∀ r m', Q r m' → Q' r m') : hxn xs n M pc L st m Q' := by
  intro d lv sv w o h1 h2 h3 h4 h5
  obtain ⟨r, g1, g2, g3⟩ := h d lv sv w o h1 h2 h3 h4 h5
  exact ⟨r, g1, g2, hq _ _ g3⟩
theorem hx_sub {L' : hLs} (hs' : ∀ q ∈ L', q ∈ L) (h : hxn xs n M pc L' st m Q) : hxn xs n M pc L st m Q :=
  fun d lv sv w o h1 h2 h3 h4 => h d lv sv w o (fun q hq => h1 q (hs' q hq)) h2 h3 h4
theorem hx_pick (is : List Nat) (h : hxn xs n M pc (hpick L is) st m Q) : hxn xs n M pc L st m Q := hx_sub (fun _ hq => hpick_mem hq) h
theorem hx_run : ∀ (R : List (sx_E × gx_A)) (n pc npc : Nat) (L : hLs) (st : List hV) (m : gx_M) (r : hR), hrows M pc R npc = true → hrun xs R L st m = some r → (∀ k, k ≤ n → (R ≠ [] → k + 1 ≤ n) → hxn xs k M npc r.1 r.2.1 r.2.2 Q) → hxn xs n M pc L st m Q
  | [], n, pc, npc, L, st, m, r, hR, h, hk => by
    have e : pc = npc := of_decide_eq_true hR
    subst e
    cases h
    exact hk n (Nat.le_refl _) (fun h => absurd rfl h)
  | p :: R, n, pc, npc, L, st, m, r, hR, h, hk => by
    unfold hrows at hR
    rw [sx_isRetQ_fn, sx_isCallQ_fn, hokAQ_fn, hnxQ_fn] at hR
    simp only [Bool.and_eq_true, decide_eq_true_eq, Bool.not_eq_true'] at hR
    obtain ⟨⟨⟨⟨⟨e1, e2⟩, e3⟩, e4⟩, e5⟩, e6⟩ := hR
    subst e1
    unfold hrun at h
    rw [h1Q_fn] at h
    split at h
    · rename_i q hq
      cases n with
      | zero => exact hx_0
      | succ n =>
        have hrest : hxn xs n M (hnx p.1) q.1 q.2.1 q.2.2 Q := hx_run R n _ npc q.1 q.2.1 q.2.2 r e6 h (fun k hk1 _ => hk k (by omega) (fun _ => by omega))
        intro d lv sv w o hl' hs' hw hm' he
        unfold sx_ev sx_ev1 at he
        rw [gx_rowB_ok e2] at he
        dsimp only at he
        rw [if_neg (by rw [e3]; decide), if_neg (by rw [e4]; decide)] at he
        split at he
        · rename_i r' hr'
          split at he
          · obtain ⟨k1, k2, k3, k4, k5⟩ := h1_ok hq e5 hl' hs' hw hm' hr'
            rw [k1] at he
            exact hrest d _ _ _ o k2 k3 k4 k5 he
          · cases he
        · cases he
    · cases h
theorem hx_blk {npc : Nat} {L' : hLs} {st' : List hV} {m' : gx_M} (R : List (sx_E × gx_A)) (hR : hrows M pc R npc = true) (h : hrun xs R L st m = some (L', st', m')) (hk : hxn xs n M npc L' st' m' Q) : hxn xs n M pc L st m Q :=
  hx_run R n pc npc L st m _ hR h (fun k hk1 _ => hx_le hk1 hk)
theorem hx_blks {npc : Nat} {L' : hLs} {st' : List hV} {m' : gx_M} (p : sx_E × gx_A) (R : List (sx_E × gx_A)) (hR : hrows M pc (p :: R) npc = true) (h : hrun xs (p :: R) L st m = some (L', st', m')) (hk : hxn xs n M npc L' st' m' Q) : hxn xs (n + 1) M pc L st m Q :=
  hx_run (p :: R) (n + 1) pc npc L st m _ hR h (fun k _ hk2 => hx_le (by have := hk2 (by simp); omega) hk)
/-- one step at a branch -/
theorem hx_step1 {E : sx_E} (hE : sx_row M pc = some E) (h1 : sx_isRet E.2.1 = false) (h2 : sx_isCall E = false) (h : ∀ (lv : sx_L) (sv : List Value) (w : sx_W) (r' : sx_R), hl lv L → hs sv st → sx_step yp_P xs M.2.2.1 E lv sv w = some r' → ∃ (npc : Nat) (L' : hLs) (st' : List hV), r'.1 = npc ∧ hl r'.2.1 L' ∧ hs r'.2.2.1 st' ∧ r'.2.2.2.1 = w ∧ hxn xs n M npc L' st' m Q) : hxn xs (n + 1) M pc L st m Q := by
  intro d lv sv w o hl' hs' hw hm' he
  unfold sx_ev sx_ev1 at he
  rw [hE] at he
  dsimp only at he
  rw [if_neg (by rw [h1]; decide), if_neg (by rw [h2]; decide)] at he
  split at he
  · rename_i r' hr'
    split at he
    · obtain ⟨npc, L', st', k1, k2, k3, k4, k5⟩ := h lv sv w r' hl' hs' hr'
      rw [k1] at he
      exact k5 d _ _ _ o k2 k3 (by rw [k4]; exact hw) (by rw [k4]; exact hm') he
    · cases he
  · cases he
theorem hx_ifs {x : Int} (c : ClassFile.Cond) (t : Nat) (hE : gx_isIf M pc c t = true) (h1 : gx_c c x 0 → hxn xs n M t L st m Q) (h2 : ¬ gx_c c x 0 → hxn xs n M (pc + 3) L st m Q) : hxn xs (n + 1) M pc L (.inl x :: st) m Q := by
  unfold gx_isIf at hE
  split at hE
  · rename_i p c' off rest hrow
    rw [Bool.and_eq_true, decide_eq_true_eq, decide_eq_true_eq] at hE
    obtain ⟨rfl, ho⟩ := hE
    have hp : p = pc := sx_row_pc hrow
    subst hp
    refine hx_step1 hrow rfl rfl (fun lv sv w r' hl' hs' hr => ?_)
    obtain ⟨u, s1, rfl, g1, g2⟩ := hs1 hs'
    obtain ⟨z, rfl, rfl⟩ := hg_int g1
    have hr : sx_jmp p off lv s1 w (sx_cond c' z 0) = some r' := hr
    obtain ⟨tgt, e1, e2⟩ := sx_jmp_inv hr
    subst e2
    have et : tgt = t := by omega
    by_cases hc : gx_c c' z.toInt 0
    · rw [(gx_c_ok c' z 0).mpr hc, if_pos rfl, et]
      exact ⟨_, _, _, rfl, hl', g2, rfl, h1 hc⟩
    · have hcb : sx_cond c' z 0 = false := by
        cases e : sx_cond c' z 0 with
        | false => rfl
        | true => exact absurd ((gx_c_ok c' z 0).mp e) hc
      rw [hcb, if_neg (by decide)]
      exact ⟨_, _, _, rfl, hl', g2, rfl, h2 hc⟩
  · cases hE
theorem hx_cmps {x y : Int} (c : ClassFile.Cond) (t : Nat) (hE : gx_isCmp M pc c t = true) (h1 : gx_c c x y → hxn xs n M t L st m Q) (h2 : ¬ gx_c c x y → hxn xs n M (pc + 3) L st m Q) : hxn xs (n + 1) M pc L (.inl y :: .inl x :: st) m Q := by
  unfold gx_isCmp at hE
  split at hE
  · rename_i p c' off rest hrow
    rw [Bool.and_eq_true, decide_eq_true_eq, decide_eq_true_eq] at hE
    obtain ⟨rfl, ho⟩ := hE
    have hp : p = pc := sx_row_pc hrow
    subst hp
    refine hx_step1 hrow rfl rfl (fun lv sv w r' hl' hs' hr => ?_)
    obtain ⟨u, s1, rfl, g1, g2⟩ := hs1 hs'
    obtain ⟨v, s2, rfl, g3, g4⟩ := hs1 g2
    obtain ⟨b, rfl, rfl⟩ := hg_int g1
    obtain ⟨z, rfl, rfl⟩ := hg_int g3
    have hr : sx_jmp p off lv s2 w (sx_cond c' z b) = some r' := hr
    obtain ⟨tgt, e1, e2⟩ := sx_jmp_inv hr
    subst e2
    have et : tgt = t := by omega
    by_cases hc : gx_c c' z.toInt b.toInt
    · rw [(gx_c_ok c' z b).mpr hc, if_pos rfl, et]
      exact ⟨_, _, _, rfl, hl', g4, rfl, h1 hc⟩
    · have hcb : sx_cond c' z b = false := by
        cases e : sx_cond c' z b with
        | false => rfl
        | true => exact absurd ((gx_c_ok c' z b).mp e) hc
      rw [hcb, if_neg (by decide)]
      exact ⟨_, _, _, rfl, hl', g4, rfl, h2 hc⟩
  · cases hE
theorem hx_if {x : Int} (c : ClassFile.Cond) (t : Nat) (hE : gx_isIf M pc c t = true) (h1 : gx_c c x 0 → hxn xs n M t L st m Q) (h2 : ¬ gx_c c x 0 → hxn xs n M (pc + 3) L st m Q) : hxn xs n M pc L (.inl x :: st) m Q := hx_dn (hx_ifs c t hE h1 h2)
theorem hx_cmp {x y : Int} (c : ClassFile.Cond) (t : Nat) (hE : gx_isCmp M pc c t = true) (h1 : gx_c c x y → hxn xs n M t L st m Q) (h2 : ¬ gx_c c x y → hxn xs n M (pc + 3) L st m Q) : hxn xs n M pc L (.inl y :: .inl x :: st) m Q := hx_dn (hx_cmps c t hE h1 h2)
/-! switches: the ways in a row, each under its number, the last one under none of them -/
noncomputable def hsw (xs : List Int32) (n : Nat) (M : sx_M) (L : hLs) (st : List hV) (m : gx_M) (Q : hQ) (x : Int) (dt : Nat) : List (Int × Nat) → Prop
  | [] => hxn xs n M dt L st m Q
  | p :: r => (x = p.1 → hxn xs n M p.2 L st m Q) ∧ (x ≠ p.1 → hsw xs n M L st m Q x dt r)
theorem hsw_n {x : Int} {dt : Nat} (h : hxn xs n M dt L st m Q) : hsw xs n M L st m Q x dt [] := h
theorem hsw_c {x v : Int} {dt t : Nat} {r : List (Int × Nat)} (h : x = v → hxn xs n M t L st m Q) (h' : x ≠ v → hsw xs n M L st m Q x dt r) : hsw xs n M L st m Q x dt ((v, t) :: r) := ⟨h, h'⟩
noncomputable def hisTsw (M : sx_M) (pc dt : Nat) (kts : List (Int × Nat)) : Bool := match sx_row M pc with
  | some (_, .tableswitch d lo hi offs, _) => decide ((pc : Int) + d = (dt : Int)) && decide (offs.toList.map (fun o => (pc : Int) + o) = kts.map (fun q => ((q.2 : Nat) : Int))) && decide (kts.map (fun q => q.1) = (List.range kts.length).map (fun (i : Nat) => lo + (i : Int))) && decide (lo + kts.length = hi + 1)
  | _ => false
noncomputable def hisLsw (M : sx_M) (pc dt : Nat) (kts : List (Int × Nat)) : Bool := match sx_row M pc with
  | some (_, .lookupswitch d ps, _) => decide ((pc : Int) + d = (dt : Int)) && decide (ps.toList.map (fun p => (p.1, (pc : Int) + p.2)) = kts.map (fun q => (q.1, ((q.2 : Nat) : Int))))
  | _ => false
theorem hsw_none {x : Int} {dt : Nat} : ∀ (kts : List (Int × Nat)), (∀ q ∈ kts, x ≠ q.1) → hsw xs n M L st m Q x dt kts → hxn xs n M dt L st m Q
  | [], _, h => h
  | p :: r, hn, h => hsw_none r (fun q hq => hn q (List.mem_cons_of_mem _ hq)) (h.2 (hn p List.mem_cons_self))
theorem hsw_at {x : Int} {dt : Nat} : ∀ (kts : List (Int × Nat)) (j : Nat) (t : Nat), kts[j]? = some (x, t) → (∀ i q, i < j → kts[i]? = some q → x ≠ q.1) → hsw xs n M L st m Q x dt kts → hxn xs n M t L st m Q
  | [], j, t, hj, _, _ => by cases hj
  | p :: r, 0, t, hj, _, h => by
    cases hj
    exact h.1 rfl
  | p :: r, j + 1, t, hj, hn, h => hsw_at r j t hj (fun i q hi hq => hn (i + 1) q (by omega) hq) (h.2 (hn 0 p (by omega) rfl))
theorem hx_tsws {x : Int} (dt : Nat) (kts : List (Int × Nat)) (hE : hisTsw M pc dt kts = true) (h : hsw xs n M L st m Q x dt kts) : hxn xs (n + 1) M pc L (.inl x :: st) m Q := by
  unfold hisTsw at hE
  split at hE
  · rename_i p dd lo hi offs rest hrow
    simp only [Bool.and_eq_true, decide_eq_true_eq] at hE
    obtain ⟨⟨⟨hdt, hts⟩, hks⟩, hlen⟩ := hE
    have hp : p = pc := sx_row_pc hrow
    subst hp
    have hkey : ∀ (i : Nat) (q : Int × Nat), kts[i]? = some q → q.1 = lo + (i : Int) := by
      intro i q hq
      have hi' : i < kts.length := (List.getElem?_eq_some_iff.mp hq).1
      have e1 : (kts.map (fun q => q.1))[i]? = some q.1 := by rw [List.getElem?_map, hq]; rfl
      rw [hks, List.getElem?_map, List.getElem?_range hi'] at e1
      exact (Option.some.inj e1).symm
    refine hx_step1 hrow rfl rfl (fun lv sv w r' hl' hs' hr => ?_)
    obtain ⟨u, s1, rfl, g1, g2⟩ := hs1 hs'
    obtain ⟨z, rfl, rfl⟩ := hg_int g1
    have hr : sx_tsw p lv (.int z :: s1) w dd lo hi offs = some r' := hr
    unfold sx_tsw at hr
    dsimp only at hr
    split at hr
    · rename_i hc
      obtain ⟨tgt, e1, e2⟩ := sx_jmp_inv hr
      subst e2
      rw [if_pos rfl]
      have et : tgt = dt := by omega
      subst et
      refine ⟨_, _, _, rfl, hl', g2, rfl, hsw_none kts (fun q hq hx => ?_) h⟩
      obtain ⟨i, hi1, hi2⟩ := List.getElem_of_mem hq
      have := hkey i q (by rw [List.getElem?_eq_getElem hi1, hi2])
      omega
    · rename_i hc
      split at hr
      · rename_i off hoff
        obtain ⟨tgt, e1, e2⟩ := sx_jmp_inv hr
        subst e2
        rw [if_pos rfl]
        have hj : (z.toInt - lo).toNat < kts.length := by omega
        have hkj := List.getElem?_eq_getElem hj
        have ek := hkey _ _ hkj
        have hoff' : offs.toList[(z.toInt - lo).toNat]? = some off := by rw [Array.getElem?_toList]; exact hoff
        have e3 : (offs.toList.map (fun o => (p : Int) + o))[(z.toInt - lo).toNat]? = some ((p : Int) + off) := by rw [List.getElem?_map, hoff']; rfl
        rw [hts, List.getElem?_map, hkj] at e3
        have e4 : ((kts[(z.toInt - lo).toNat].2 : Nat) : Int) = (p : Int) + off := Option.some.inj e3
        have et : tgt = kts[(z.toInt - lo).toNat].2 := by omega
        refine ⟨_, _, _, rfl, hl', g2, rfl, hsw_at kts (z.toInt - lo).toNat tgt ?_ (fun i q hi hq hx => ?_) h⟩
        · rw [hkj, et]
          exact congrArg some (Prod.ext (by rw [ek]; omega) rfl)
        · have := hkey i q hq
          omega
      · cases hr
  · cases hE
theorem hlsw_go {x : Int} {dt pc : Nat} {d : Int} (hd : (pc : Int) + d = (dt : Int)) : ∀ (ps : List (Int × Int)) (kts : List (Int × Nat)), ps.map (fun p => (p.1, (pc : Int) + p.2)) = kts.map (fun q => (q.1, ((q.2 : Nat) : Int))) → hsw xs n M L st m Q x dt kts → ∀ t : Nat, (pc : Int) + Op.lookupswitch.offset ps d x = (t : Int) → hxn xs n M t L st m Q
  | [], [], _, h, t, ht => by
    have e : Op.lookupswitch.offset [] d x = d := rfl
    rw [e] at ht
    have : t = dt := by omega
    subst this
    exact h
  | [], _ :: _, he, _, _, _ => by cases he
  | _ :: _, [], he, _, _, _ => by cases he
  | (k, o) :: ps, (k', t') :: kts, he, h, t, ht => by
    rw [List.map_cons, List.map_cons] at he
    obtain ⟨h1, h2⟩ := List.cons.inj he
    have ek : k = k' := congrArg Prod.fst h1
    have eo : (pc : Int) + o = ((t' : Nat) : Int) := congrArg Prod.snd h1
    subst ek
    rw [Op.lookupswitch.offset_cons] at ht
    by_cases hk : x = k
    · rw [if_pos (by first | exact hk | exact hk.symm)] at ht
      have : t = t' := by omega
      subst this
      exact h.1 hk
    · rw [if_neg (by first | exact hk | exact fun e => hk e.symm)] at ht
      exact hlsw_go hd ps kts h2 (h.2 hk) t ht
theorem hx_lsws {x : Int} (dt : Nat) (kts : List (Int × Nat)) (hE : hisLsw M pc dt kts = true) (h : hsw xs n M L st m Q x dt kts) : hxn xs (n + 1) M pc L (.inl x :: st) m Q := by
  unfold hisLsw at hE
  split at hE
  · rename_i p dd ps rest hrow
    simp only [Bool.and_eq_true, decide_eq_true_eq] at hE
    obtain ⟨hdt, hts⟩ := hE
    have hp : p = pc := sx_row_pc hrow
    subst hp
    refine hx_step1 hrow rfl rfl (fun lv sv w r' hl' hs' hr => ?_)
    obtain ⟨u, s1, rfl, g1, g2⟩ := hs1 hs'
    obtain ⟨z, rfl, rfl⟩ := hg_int g1
    have hr : sx_lsw p lv (.int z :: s1) w dd ps = some r' := hr
    unfold sx_lsw at hr
    dsimp only at hr
    split at hr
    · obtain ⟨tgt, e1, e2⟩ := sx_jmp_inv hr
      subst e2
      rw [if_pos rfl]
      exact ⟨_, _, _, rfl, hl', g2, rfl, hlsw_go hdt ps.toList kts hts h tgt e1⟩
    · cases hr
  · cases hE
theorem hx_tsw {x : Int} (dt : Nat) (kts : List (Int × Nat)) (hE : hisTsw M pc dt kts = true) (h : hsw xs n M L st m Q x dt kts) : hxn xs n M pc L (.inl x :: st) m Q := hx_dn (hx_tsws dt kts hE h)
theorem hx_lsw {x : Int} (dt : Nat) (kts : List (Int × Nat)) (hE : hisLsw M pc dt kts = true) (h : hsw xs n M L st m Q x dt kts) : hxn xs n M pc L (.inl x :: st) m Q := hx_dn (hx_lsws dt kts hE h)
/-! ends -/
noncomputable def hisR (M : sx_M) (pc : Nat) (I : Instr) : Bool := match sx_row M pc with
  | some E => iEqQ E.2.1 I
  | none => false
theorem hisR_ok {I : Instr} (h : hisR M pc I = true) : ∃ E, sx_row M pc = some E ∧ E.2.1 = I := by
  unfold hisR at h
  split at h
  · rename_i E hE
    exact ⟨E, hE, iEqQ_ok h⟩
  · cases h
theorem hx_end {E : sx_E} (hE : sx_row M pc = some E) (h1 : sx_isRet E.2.1 = true) (h : ∀ (sv : List Value) (r : Option Value), hs sv st → sx_retOk M.2.2.2.1 E.2.1 sv = some r → ∃ r', hro r' r ∧ Q r' m) : hxn xs n M pc L st m Q := by
  cases n with
  | zero => exact hx_0
  | succ n =>
    intro d lv sv w o hl' hs' hw hm' he
    unfold sx_ev sx_ev1 at he
    rw [hE] at he
    dsimp only at he
    rw [if_pos h1] at he
    cases hr : sx_retOk M.2.2.2.1 E.2.1 sv with
    | none => rw [hr] at he; cases he
    | some r =>
      rw [hr] at he
      cases he
      obtain ⟨r', g1, g2⟩ := h sv r hs' hr
      exact ⟨r', g1, hw, by rw [hm']; exact g2⟩
theorem hx_ret0 (hE : hisR M pc .return_ = true) (h : Q none m) : hxn xs n M pc L [] m Q := by
  obtain ⟨E, h1, h2⟩ := hisR_ok hE
  refine hx_end h1 (by rw [h2]; rfl) (fun sv r hs' hr => ?_)
  have := hs0 hs'
  subst this
  rw [h2] at hr
  generalize M.2.2.2.1 = rt at hr
  unfold sx_retOk at hr
  split at hr
  · cases hr; exact ⟨none, trivial, h⟩
  · rename_i e; cases e
  · rename_i e; cases e
  · cases hr
theorem hx_reti {x : Int} (hE : hisR M pc .ireturn = true) (h : Q (some (.inl x)) m) : hxn xs n M pc L [.inl x] m Q := by
  obtain ⟨E, h1, h2⟩ := hisR_ok hE
  refine hx_end h1 (by rw [h2]; rfl) (fun sv r hs' hr => ?_)
  obtain ⟨u, s1, rfl, g1, g2⟩ := hs1 hs'
  have := hs0 g2
  subst this
  rw [h2] at hr
  generalize M.2.2.2.1 = rt at hr
  unfold sx_retOk at hr
  split at hr
  · rename_i e _; cases e
  · rename_i ty v e1 e2 e3
    cases e3
    split at hr
    · cases hr
      exact ⟨some (.inl x), g1, h⟩
    · cases hr
  · rename_i e _; cases e
  · cases hr
theorem hx_retl {x : Int} (hE : hisR M pc .lreturn = true) (h : Q (some (.inr (.inr x))) m) : hxn xs n M pc L [.inr (.inr x)] m Q := by
  obtain ⟨E, h1, h2⟩ := hisR_ok hE
  refine hx_end h1 (by rw [h2]; rfl) (fun sv r hs' hr => ?_)
  obtain ⟨u, s1, rfl, g1, g2⟩ := hs1 hs'
  have := hs0 g2
  subst this
  rw [h2] at hr
  generalize M.2.2.2.1 = rt at hr
  unfold sx_retOk at hr
  split at hr
  · rename_i e _; cases e
  · rename_i e _; cases e
  · rename_i v e1 e2 e3
    cases e3
    cases hr
    exact ⟨some (.inr (.inr x)), g1, h⟩
  · cases hr
/-! calls -/
theorem hx_calls {M' : sx_M} {E : sx_E} (vs R : List hV) {st : List hV} (hst : st = vs.reverse ++ R) (hE : gx_rowB M E = true) (hp : E.1 = pc) (hI : sx_isRet E.2.1 = false ∧ sx_isCall E = true) (hM' : yp_P.2.2.2.1[E.2.2.2.1]? = some M') (hn : M'.2.2.2.2.1 = vs.length)
    (h : hxn xs n M' 0 (hargs 0 vs) [] m (fun r m' => hxn xs n M (pc + 3) L (hrs r ++ R) m' Q)) : hxn xs (n + 1) M pc L st m Q := by
  subst hst
  subst hp
  intro d lv sv w o hl' hs' hw hm' he
  unfold sx_ev sx_ev1 at he
  rw [gx_rowB_ok hE] at he
  dsimp only at he
  rw [if_neg (by rw [hI.1]; decide), if_pos hI.2] at he
  split at he
  · rename_i M1 d' hM1
    have hMe : M1 = M' := by
      have e := hM1
      rw [hM'] at e
      exact (Option.some.inj e).symm
    subst hMe
    split at he
    · split at he
      · rename_i o1 ho1
        obtain ⟨k1, k2⟩ := hs_app hs'
        rw [List.length_reverse] at k1 k2
        have k3 : hs (sv.take vs.length).reverse vs := by
          have := hs_rev k1
          rwa [List.reverse_reverse] at this
        rw [hn] at ho1 he
        obtain ⟨r, j1, j2, j3⟩ := h d' _ [] w o1 (hargs_ok 0 k3) trivial hw hm' ho1
        exact j3 (d' + 1) lv _ o1.2 o hl' (hs_cat (hro_hs j1) k2) j2 rfl he
      · cases he
    · cases he
  · cases he
theorem hx_call {M' : sx_M} {E : sx_E} (vs R : List hV) {st : List hV} (hst : st = vs.reverse ++ R) (hE : gx_rowB M E = true) (hp : E.1 = pc) (hI : sx_isRet E.2.1 = false ∧ sx_isCall E = true) (hM' : yp_P.2.2.2.1[E.2.2.2.1]? = some M') (hn : M'.2.2.2.2.1 = vs.length)
    (h : hxn xs n M' 0 (hargs 0 vs) [] m (fun r m' => hxn xs n M (pc + 3) L (hrs r ++ R) m' Q)) : hxn xs n M pc L st m Q := hx_dn (hx_calls vs R hst hE hp hI hM' hn h)
end HXR
end
section
/-! PARTIAL RUNS, 5: contracts of the reader used here; two things said of one run -/
theorem hg_fun {v v' : hV} {u : Value} (h : hg v u) (h' : hg v' u) : v = v' := by
  rcases v with x | c | x <;> rcases v' with x' | c' | x'
  · obtain ⟨z, rfl, rfl⟩ := hg_int h
    obtain ⟨z', e, rfl⟩ := hg_int h'
    cases e; rfl
  · obtain ⟨z, rfl, rfl⟩ := hg_int h
    rcases hg_ref h' with ⟨-, k, e⟩ | ⟨-, e⟩ <;> cases e
  · obtain ⟨z, rfl, rfl⟩ := hg_int h
    obtain ⟨z', e, rfl⟩ := hg_long h'
    cases e
  · obtain ⟨z, rfl, rfl⟩ := hg_int h'
    rcases hg_ref h with ⟨-, k, e⟩ | ⟨-, e⟩ <;> cases e
  · rcases hg_ref h with ⟨rfl, k, rfl⟩ | ⟨n1, rfl⟩
    · rcases hg_ref h' with ⟨rfl, k, e⟩ | ⟨-, e⟩
      · rfl
      · cases e
    · rcases hg_ref h' with ⟨-, k, e⟩ | ⟨-, e⟩
      · cases e
      · cases e; rfl
  · obtain ⟨z, rfl, rfl⟩ := hg_long h'
    rcases hg_ref h with ⟨-, k, e⟩ | ⟨-, e⟩ <;> cases e
  · obtain ⟨z, rfl, rfl⟩ := hg_long h
    obtain ⟨z', e, rfl⟩ := hg_int h'
    cases e
  · obtain ⟨z, rfl, rfl⟩ := hg_long h
    rcases hg_ref h' with ⟨-, k, e⟩ | ⟨-, e⟩ <;> cases e
  · obtain ⟨z, rfl, rfl⟩ := hg_long h
    obtain ⟨z', e, rfl⟩ := hg_long h'
    cases e; rfl
theorem hro_fun {r r' : Option hV} {v : Option Value} (h : hro r v) (h' : hro r' v) : r = r' := by
  cases v with
  | none =>
    cases r with
    | none => cases r' with
      | none => rfl
      | some _ => exact h'.elim
    | some _ => exact h.elim
  | some u =>
    cases r with
    | none => exact h.elim
    | some a => cases r' with
      | none => exact h'.elim
      | some b => rw [hg_fun (u := u) h h']
theorem hx_and {xs : List Int32} {n : Nat} {M : sx_M} {pc : Nat} {L : hLs} {st : List hV} {m : gx_M} {Q1 Q2 Q : hQ} (h1 : hxn xs n M pc L st m Q1) (h2 : hxn xs n M pc L st m Q2) (h : ∀ r m', Q1 r m' → Q2 r m' → Q r m') : hxn xs n M pc L st m Q := by
  intro d lv sv w o k1 k2 k3 k4 k5
  obtain ⟨r, g1, g2, g3⟩ := h1 d lv sv w o k1 k2 k3 k4 k5
  obtain ⟨r', j1, j2, j3⟩ := h2 d lv sv w o k1 k2 k3 k4 k5
  have e := hro_fun g1 j1
  subst e
  exact ⟨r, g1, g2, h _ _ g3 j3⟩
theorem hm_top {w : sx_W} (hw : bx_in fx_S w) {c t k : Nat} {r : ax_A} (hS : fx_S[c]? = some (t, r)) (hk : ax_nth r k = some ax_top) : hm w c k = gx_m w c k := by
  obtain ⟨vs, h1, h2, h3, -, -, -⟩ := fx_int (lo := -2147483648) (hi := 2147483647) hw hS hk
  rw [hm_rd (hrd_at h1 h3)]
  rfl
theorem hJ_top {c t k : Nat} {r : ax_A} {lo hi : Int} (h : bw_INV[c]? = some (t, r)) (hk : ax_nth r k = some (0, lo, hi)) : ∃ r', fx_S[c]? = some (t, r') ∧ ax_nth r' k = some ax_top := by
  refine ⟨_, gx_S_at h, ?_⟩
  rw [gx_nth_map, hk]
  rfl
theorem hI_m {w : sx_W} (hw : bx_in fx_S w) : gx_I (hm w) ↔ gx_I (gx_m w) := by
  constructor
  · intro h c t r k lo hi hc hk
    obtain ⟨r', e1, e2⟩ := hJ_top hc hk
    rw [← hm_top hw e1 e2]
    exact h c t r k lo hi hc hk
  · intro h c t r k lo hi hc hk
    obtain ⟨r', e1, e2⟩ := hJ_top hc hk
    rw [hm_top hw e1 e2]
    exact h c t r k lo hi hc hk
def hXc (gX : gx_M → Prop) : Prop := ∀ m m' : gx_M, (∀ q ∈ bw_PC, ∀ k, q.2.1 ≤ k → k < q.2.2 → m' q.1 k = m q.1 k) → gX m → gX m'
theorem hPC_top : gx_mB bw_PC = true := by decide +kernel
theorem hX_m {gX : gx_M → Prop} (hc : hXc gX) {w : sx_W} (hw : bx_in fx_S w) : gX (hm w) ↔ gX (gx_m w) := by
  have e : ∀ q ∈ bw_PC, ∀ k, q.2.1 ≤ k → k < q.2.2 → hm w q.1 k = gx_m w q.1 k := fun q hq k h1 h2 => by
    obtain ⟨t, r, a, g1, g2, rfl⟩ := (gx_mB_ok hPC_top).2 q hq k h1 h2
    exact hm_top hw g1 g2
  exact ⟨hc _ _ (fun q hq k h1 h2 => (e q hq k h1 h2).symm), hc _ _ e⟩
def hJ (gX : gx_M → Prop) (m : gx_M) : Prop := gx_I m ∧ gX m
theorem hJ_w {gX : gx_M → Prop} (hc : hXc gX) {w : sx_W} (hw : bx_in fx_S w) (h : hJ gX (hm w)) : bx_in bw_INV w ∧ gx_XW gX w :=
  ⟨gx_in_to hw ((hI_m hw).mp h.1), (hX_m hc hw).mp h.2⟩
theorem hJ_of {gX : gx_M → Prop} (hc : hXc gX) {w : sx_W} (h1 : bx_in bw_INV w) (h2 : gx_XW gX w) : bx_in fx_S w ∧ hJ gX (hm w) := by
  obtain ⟨g1, g2⟩ := gx_in_of h1
  exact ⟨g1, (hI_m g1).mpr g2, (hX_m hc g1).mpr h2⟩
def hfits (a : ax_V) (v : hV) : Prop := match v with
  | .inl x => a.1 = 0 ∧ a.2.1 ≤ x ∧ x ≤ a.2.2
  | .inr (.inl c) => c ≠ 100000 ∧ a.1 = 2 ∧ a.2.1.toNat = c
  | .inr (.inr x) => a.1 = 1 ∧ a.2.1 ≤ x ∧ x ≤ a.2.2
def hpre : ax_L → hLs → Prop
  | [], _ => True
  | (i, a) :: r, L => (match hget L i with
    | some v => hfits a v
    | none => False) ∧ hpre r L
theorem hfits_ok {a : ax_V} {v : hV} {u : Value} (h : hfits a v) (hg' : hg v u) : bx_c a u := by
  obtain ⟨t, lo, hi⟩ := a
  rcases v with x | c | x
  · obtain ⟨e, h1, h2⟩ := h
    dsimp only at e h1 h2
    subst e
    obtain ⟨z, rfl, rfl⟩ := hg_int hg'
    exact ⟨(fun h => by cases h), z, rfl, h1, h2⟩
  · obtain ⟨hne, e, h1⟩ := h
    dsimp only at e h1
    subst e
    rcases hg_ref hg' with ⟨e2, -⟩ | ⟨-, rfl⟩
    · exact absurd e2 hne
    · exact ⟨(fun h => by cases h), by rw [← h1]; rfl⟩
  · obtain ⟨e, h1, h2⟩ := h
    dsimp only at e h1 h2
    subst e
    obtain ⟨z, rfl, rfl⟩ := hg_long hg'
    exact ⟨(fun h => by cases h), z, rfl, h1, h2⟩
theorem hpre_ok : ∀ {pre : ax_L} {L : hLs} {lv : sx_L}, hpre pre L → hl lv L → bx_cl pre lv
  | [], L, lv, _, _ => fun q hq => by cases hq
  | (i, a) :: r, L, lv, h, hl' => by
    obtain ⟨h1, h2⟩ := h
    intro q hq
    rcases List.mem_cons.mp hq with rfl | hq
    · split at h1
      · rename_i v hv
        obtain ⟨u, e1, e2⟩ := hl_get hl' hv
        exact ⟨u, e1, hfits_ok h1 e2⟩
      · exact h1.elim
    · exact hpre_ok h2 hl' q hq
def hend (e : Option (Option ax_V)) (r : Option hV) : Prop := match e, r with
  | some none, none => True
  | some (some a), some (.inl x) => a.1 = 0 ∧ a.2.1 ≤ x ∧ x ≤ a.2.2
  | some (some a), some (.inr (.inr _)) => a.1 = 1
  | _, _ => False
theorem hfw_of {xs : List Int32} {mods : bx_M} {w w' : sx_W} (i1 : bx_in fx_S w) (i2 : bx_in fx_S w') (hst : bx_star mods = false) (h : bx_fw xs mods w w') : gx_fw mods (hm w) (hm w') := by
  rcases h with h | h
  · rw [hst] at h; cases h
  intro c k hq
  have far : ∀ {w : sx_W}, bx_in fx_S w → ¬ c < 100000 → hm w c k = 0 := fun h hc => by
    unfold hm
    rw [(gx_m_far h hc).1]
  by_cases hc : c < 100000
  case neg => rw [far i1 hc, far i2 hc]
  have := h c k hq
  rw [bx_rd_w hc, bx_rd_w hc] at this
  unfold hm gx_rd
  rw [this]
theorem hx_K {xs : List Int32} {gX : gx_M → Prop} {n mi dk : Nat} {pre : ax_L} {exits : List bx_E} {mods : bx_M} {lm : List Nat} {ctr : Option (Nat × Bool)} {M : sx_M} {L : hLs} {m : gx_M} {Q : hQ} (hc : hXc gX) (hK : bx_Kok yp_P xs bw_INV (gx_XW gX) (mi, 0, pre, [], exits, mods, lm, dk, ctr)) (hM : yp_P.2.2.2.1[mi]? = some M) (hst : bx_star mods = false) (hall : exits.all (fun e => match e.1 with
    | some none => true
    | some (some a) => decide (a.1 = 0) || decide (a.1 = 1)
    | none => false) = true) (hp : hpre pre L) (hj : hJ gX m) (h : ∀ r m', (∃ e ∈ exits, hend e.1 r) → hJ gX m' → gx_fw mods m m' → Q r m') : hxn xs n M 0 L [] m Q := by
  intro d lv sv w o hl' hs' hw hm' he
  have := hs0 hs'
  subst this
  subst hm'
  have hrun : sx_rn yp_P xs (max d dk) M 0 lv [] w o := sx_rn_up (Nat.le_max_left d dk) ⟨n, he⟩
  obtain ⟨e, hem, lv', w', g1, g2, g3, g4⟩ := hK M hM (max d dk) (Nat.le_max_right d dk) lv w (hpre_ok hp hl') (hJ_w hc hw hj) (fun q hq => by cases hq)
  have ha := List.all_eq_true.mp hall e hem
  obtain ⟨er, e2⟩ := e
  cases er with
  | none => cases ha
  | some ra =>
    obtain ⟨rv, k1, k2⟩ := g4
    have eo := sx_rn_fun hrun k2
    subst eo
    obtain ⟨i1, i2⟩ := hJ_of hc g1.1 g1.2
    have hfw := hfw_of hw i1 hst g3
    have hr : ∃ r, hro r rv ∧ hend (some ra) r := by
      cases ra with
      | none =>
        cases rv with
        | none => exact ⟨none, trivial, trivial⟩
        | some _ => exact k1.elim
      | some a =>
        cases rv with
        | none => exact k1.elim
        | some u =>
          obtain ⟨t, lo, hi⟩ := a
          obtain ⟨n4, hg'⟩ := k1
          dsimp only at ha
          rw [Bool.or_eq_true, decide_eq_true_eq, decide_eq_true_eq] at ha
          rcases ha with rfl | rfl
          · obtain ⟨x, rfl, q1, q2⟩ := hg'
            exact ⟨some (.inl x.toInt), ⟨x, rfl, rfl⟩, rfl, q1, q2⟩
          · obtain ⟨x, rfl, q1, q2⟩ := hg'
            exact ⟨some (.inr (.inr x.toInt)), ⟨x, rfl, rfl⟩, rfl⟩
    obtain ⟨r, r1, r2⟩ := hr
    exact ⟨r, r1, i1, h r _ ⟨_, hem, r2⟩ i2 hfw⟩
end
section
/-! BITS: numbers that are not below 0 as sets; how many are in them -/
theorem hbv_nat {X : Nat} (h : X < 2 ^ 63) : (Int64.ofInt (X : Int)).toBitVec.toNat = X := by
  rw [Int64.toBitVec_ofInt, BitVec.toNat_ofInt]
  omega
theorem hbv_to {x : Int64} (h : x.toBitVec.toNat < 2 ^ 63) : x.toInt = (x.toBitVec.toNat : Int) := by
  have e : x.toInt = x.toBitVec.toInt := rfl
  rw [e, BitVec.toInt_eq_toNat_cond, if_pos (by omega)]
theorem hland_of {x z : Int} {A B : Nat} (hA : (Int64.ofInt x).toBitVec.toNat = A) (hB : (Int64.ofInt z).toBitVec.toNat = B) (h : A &&& B < 2 ^ 63) : hland x z = ((A &&& B : Nat) : Int) := by
  have e : (Int64.ofInt x &&& Int64.ofInt z).toBitVec.toNat = A &&& B := by
    show ((Int64.ofInt x).toBitVec &&& (Int64.ofInt z).toBitVec).toNat = _
    rw [BitVec.toNat_and, hA, hB]
  unfold hland
  rw [hbv_to (by rw [e]; exact h), e]
theorem hland_nat {X Z : Nat} (hX : X < 2 ^ 63) (hZ : Z < 2 ^ 63) : hland (X : Int) (Z : Int) = ((X &&& Z : Nat) : Int) :=
  hland_of (hbv_nat hX) (hbv_nat hZ) (Nat.lt_of_le_of_lt Nat.and_le_left hX)
theorem hlor_nat {X Z : Nat} (hX : X < 2 ^ 63) (hZ : Z < 2 ^ 63) : hlor (X : Int) (Z : Int) = ((X ||| Z : Nat) : Int) := by
  have e : (Int64.ofInt (X : Int) ||| Int64.ofInt (Z : Int)).toBitVec.toNat = X ||| Z := by
    show ((Int64.ofInt (X : Int)).toBitVec ||| (Int64.ofInt (Z : Int)).toBitVec).toNat = _
    rw [BitVec.toNat_or, hbv_nat hX, hbv_nat hZ]
  unfold hlor
  rw [hbv_to (by rw [e]; exact Nat.or_lt_two_pow hX hZ), e]
theorem hl_amt : ∀ y : Nat, y < 64 → ((Int32.ofInt (y : Int)).toInt64.toUInt64 &&& Int64.toUInt64 63) = UInt64.ofNat y := by decide +kernel
theorem hlushr_nat {X y : Nat} (hX : X < 2 ^ 63) (hy : y < 64) : hlushr (X : Int) (y : Int) = ((X / 2 ^ y : Nat) : Int) := by
  unfold hlushr
  rw [hl_amt y hy]
  have e : ((Int64.ofInt (X : Int)).toUInt64 >>> UInt64.ofNat y).toInt64.toBitVec.toNat = X / 2 ^ y := by
    show ((Int64.ofInt (X : Int)).toUInt64 >>> UInt64.ofNat y).toNat = _
    rw [UInt64.toNat_shiftRight, UInt64.toNat_ofNat']
    have e1 : (Int64.ofInt (X : Int)).toUInt64.toNat = X := hbv_nat hX
    rw [e1, Nat.mod_eq_of_lt (show y % 2 ^ 64 < 64 by omega), Nat.mod_eq_of_lt (show y < 2 ^ 64 by omega), Nat.shiftRight_eq_div_pow]
  have hl : X / 2 ^ y ≤ X := Nat.div_le_self _ _
  rw [hbv_to (by rw [e]; omega), e]
theorem hlshl_one : ∀ y : Nat, y < 63 → hlshl 1 (y : Int) = ((2 ^ y : Nat) : Int) := by decide +kernel
theorem hlnot_one : ∀ y : Nat, y < 63 → (Int64.ofInt (hlxor (hlshl 1 (y : Int)) (-1))).toBitVec.toNat = 2 ^ 64 - 1 - 2 ^ y := by decide +kernel
theorem hbit_eq (X y : Nat) : X / 2 ^ y % 2 = if X.testBit y = true then 1 else 0 := by
  rw [Nat.testBit_eq_decide_div_mod_eq]
  by_cases h : X / 2 ^ y % 2 = 1
  · rw [h, if_pos (by simp)]
  · rw [if_neg (by simp only [decide_eq_true_eq]; exact h)]
    omega
/-- the test of a bit -/
theorem hlbit {X y : Nat} (hX : X < 2 ^ 63) (hy : y < 63) : hlcmp (hland (hlushr (X : Int) (y : Int)) 1) 0 = if X.testBit y = true then 1 else 0 := by
  rw [hlushr_nat hX (by omega)]
  have hl : X / 2 ^ y ≤ X := Nat.div_le_self _ _
  have e1 : hland ((X / 2 ^ y : Nat) : Int) ((1 : Nat) : Int) = ((X / 2 ^ y &&& 1 : Nat) : Int) := hland_nat (by omega) (by omega)
  have e2 : ((1 : Nat) : Int) = 1 := rfl
  rw [e2] at e1
  rw [e1, Nat.and_one_is_mod, hbit_eq]
  by_cases h : X.testBit y = true
  · rw [if_pos h, if_pos h]; rfl
  · rw [if_neg h, if_neg h]; rfl
/-! sets as numbers -/
def hmask (f : Nat → Bool) : Nat → Nat
  | 0 => 0
  | k + 1 => hmask f k + if f k = true then 2 ^ k else 0
def hcnt (f : Nat → Bool) : Nat → Nat
  | 0 => 0
  | k + 1 => hcnt f k + if f k = true then 1 else 0
theorem hmask_lt (f : Nat → Bool) : ∀ k, hmask f k < 2 ^ k
  | 0 => by show 0 < 1; decide
  | k + 1 => by
    have h := hmask_lt f k
    unfold hmask
    rw [Nat.pow_succ]
    split <;> omega
theorem hmask_bit (f : Nat → Bool) : ∀ k j : Nat, (hmask f k).testBit j = (decide (j < k) && f j)
  | 0, j => by
    unfold hmask
    rw [Nat.zero_testBit]
    simp
  | k + 1, j => by
    have ih := hmask_bit f k j
    have hlt := hmask_lt f k
    unfold hmask
    by_cases hk : f k = true
    · rw [if_pos hk, Nat.add_comm]
      rcases Nat.lt_trichotomy j k with h | h | h
      · rw [Nat.testBit_two_pow_add_gt h, ih]
        have e1 : decide (j < k) = true := decide_eq_true h
        have e2 : decide (j < k + 1) = true := decide_eq_true (by omega)
        rw [e1, e2]
      · subst h
        rw [Nat.testBit_two_pow_add_eq, ih, hk]
        simp
      · rw [Nat.testBit_lt_two_pow (by
          have : 2 ^ (k + 1) ≤ 2 ^ j := Nat.pow_le_pow_right (by decide) h
          rw [Nat.pow_succ] at this
          omega)]
        have e2 : decide (j < k + 1) = false := decide_eq_false (by omega)
        rw [e2]
        rfl
    · rw [if_neg hk, Nat.add_zero, ih]
      by_cases hj : j = k
      · subst hj
        have : f j = false := by simpa using hk
        rw [this]
        simp
      · have : decide (j < k + 1) = decide (j < k) := decide_eq_decide.mpr (by omega)
        rw [this]
theorem hmask_ext {f g : Nat → Bool} : ∀ k, (∀ j, j < k → f j = g j) → hmask f k = hmask g k
  | 0, _ => rfl
  | k + 1, h => by
    unfold hmask
    rw [hmask_ext k (fun j hj => h j (by omega)), h k (by omega)]
theorem hcnt_ext {f g : Nat → Bool} : ∀ k, (∀ j, j < k → f j = g j) → hcnt f k = hcnt g k
  | 0, _ => rfl
  | k + 1, h => by
    unfold hcnt
    rw [hcnt_ext k (fun j hj => h j (by omega)), h k (by omega)]
theorem hcnt_le (f : Nat → Bool) : ∀ k, hcnt f k ≤ k
  | 0 => Nat.le_refl _
  | k + 1 => by
    have := hcnt_le f k
    unfold hcnt
    split <;> omega
theorem hmask_eq {X k : Nat} (h : X < 2 ^ k) : hmask (fun j => X.testBit j) k = X := by
  apply Nat.eq_of_testBit_eq
  intro j
  rw [hmask_bit]
  by_cases hj : j < k
  · rw [decide_eq_true hj, Bool.true_and]
  · rw [decide_eq_false hj, Bool.false_and]
    exact (Nat.testBit_lt_two_pow (Nat.lt_of_lt_of_le h (Nat.pow_le_pow_right (by decide) (by omega)))).symm
theorem hmask_40 (f : Nat → Bool) : hmask f 40 < 2 ^ 63 := Nat.lt_of_lt_of_le (hmask_lt f 40) (by decide)
theorem hmask_test {f : Nat → Bool} {y : Nat} (hy : y < 40) : hlcmp (hland (hlushr ((hmask f 40 : Nat) : Int) (y : Int)) 1) 0 = if f y = true then 1 else 0 := by
  rw [hlbit (hmask_40 f) (by omega), hmask_bit, decide_eq_true hy, Bool.true_and]
/-- one more -/
theorem hmask_put {f : Nat → Bool} {y : Nat} (hy : y < 40) : hlor ((hmask f 40 : Nat) : Int) (hlshl 1 (y : Int)) = ((hmask (fun j => f j || decide (j = y)) 40 : Nat) : Int) := by
  rw [hlshl_one y (by omega), hlor_nat (hmask_40 f) (Nat.pow_lt_pow_right (by decide) (by omega))]
  congr 1
  apply Nat.eq_of_testBit_eq
  intro j
  rw [Nat.testBit_or, hmask_bit, hmask_bit, Nat.testBit_two_pow]
  by_cases hj : j < 40
  · rw [decide_eq_true hj, Bool.true_and, Bool.true_and]
    congr 1
    exact decide_eq_decide.mpr ⟨fun h => h.symm, fun h => h.symm⟩
  · rw [decide_eq_false hj, Bool.false_and, Bool.false_and, Bool.false_or]
    exact decide_eq_false (by omega)
theorem hmask_del {f : Nat → Bool} {y : Nat} (hy : y < 40) : hland ((hmask f 40 : Nat) : Int) (hlxor (hlshl 1 (y : Int)) (-1)) = ((hmask (fun j => f j && !(decide (j = y))) 40 : Nat) : Int) := by
  rw [hland_of (hbv_nat (hmask_40 f)) (hlnot_one y (by omega)) (Nat.lt_of_le_of_lt Nat.and_le_left (hmask_40 f))]
  congr 1
  apply Nat.eq_of_testBit_eq
  intro j
  rw [Nat.testBit_and, hmask_bit, hmask_bit]
  by_cases hj : j < 40
  · rw [decide_eq_true hj, Bool.true_and, Bool.true_and]
    congr 1
    have e : 2 ^ 64 - 1 - 2 ^ y = 2 ^ 64 - (2 ^ y + 1) := by omega
    rw [e, Nat.testBit_two_pow_sub_succ (Nat.pow_lt_pow_right (by decide) (by omega)), Nat.testBit_two_pow]
    have e1 : decide (j < 64) = true := decide_eq_true (by omega)
    rw [e1, Bool.true_and]
    congr 1
    exact decide_eq_decide.mpr ⟨fun h => h.symm, fun h => h.symm⟩
  · rw [decide_eq_false hj, Bool.false_and, Bool.false_and, Bool.false_and]
theorem hmask_and (f g : Nat → Bool) : hland ((hmask f 40 : Nat) : Int) ((hmask g 40 : Nat) : Int) = ((hmask (fun j => f j && g j) 40 : Nat) : Int) := by
  rw [hland_nat (hmask_40 f) (hmask_40 g)]
  congr 1
  apply Nat.eq_of_testBit_eq
  intro j
  rw [Nat.testBit_and, hmask_bit, hmask_bit, hmask_bit]
  cases decide (j < 40) <;> simp
/-- a set that grows from the left on -/
theorem hmask_grow {f : Nat → Bool} {y : Nat} (hy : y < 40) : hlor ((hmask f y : Nat) : Int) (hlshl 1 (y : Int)) = ((hmask f y + 2 ^ y : Nat) : Int) := by
  have h40 : hmask f y < 2 ^ 63 := Nat.lt_of_lt_of_le (hmask_lt f y) (Nat.pow_le_pow_right (by decide) (by omega))
  rw [hlshl_one y (by omega), hlor_nat h40 (Nat.pow_lt_pow_right (by decide) (by omega))]
  congr 1
  have h1 := Nat.two_pow_add_eq_or_of_lt (hmask_lt f y) 1
  rw [Nat.mul_one] at h1
  rw [Nat.or_comm, ← h1, Nat.add_comm]
/-! how many bits of a long number below 2^40: by bytes -/
theorem hp_byte {b Y μ M s : Nat} (hb : b < 256) (hμ : μ < 2 ^ (8 - s)) (hs : s ≤ 8) : ((b + 256 * Y) / 2 ^ s) &&& (μ + 256 * M) = ((b / 2 ^ s) &&& μ) + 256 * ((Y / 2 ^ s) &&& M) := by
  have h8 : (256 : Nat) = 2 ^ 8 := by decide
  have hμ8 : μ < 2 ^ 8 := Nat.lt_of_lt_of_le hμ (Nat.pow_le_pow_right (by decide) (by omega))
  have hlo : (b / 2 ^ s) &&& μ < 2 ^ 8 := Nat.lt_of_le_of_lt Nat.and_le_right hμ8
  apply Nat.eq_of_testBit_eq
  intro j
  rw [Nat.add_comm b, Nat.add_comm μ, Nat.add_comm (_ &&& μ), h8, Nat.testBit_and, ← Nat.shiftRight_eq_div_pow, ← Nat.shiftRight_eq_div_pow, ← Nat.shiftRight_eq_div_pow, Nat.testBit_shiftRight, Nat.testBit_two_pow_mul_add _ (by rw [← h8]; exact hb), Nat.testBit_two_pow_mul_add _ hμ8, Nat.testBit_two_pow_mul_add _ (by rw [Nat.shiftRight_eq_div_pow]; exact hlo)]
  by_cases hj : j < 8
  · rw [if_pos hj, if_pos hj, Nat.testBit_and, Nat.testBit_shiftRight]
    by_cases hjs : s + j < 8
    · rw [if_pos hjs]
    · rw [if_neg hjs]
      have : μ.testBit j = false := Nat.testBit_lt_two_pow (Nat.lt_of_lt_of_le hμ (Nat.pow_le_pow_right (by decide) (by omega)))
      rw [this, Bool.and_false, Bool.and_false]
  · rw [if_neg hj, if_neg hj, if_neg (by omega), Nat.testBit_and, Nat.testBit_shiftRight]
    have : s + j - 8 = s + (j - 8) := by omega
    rw [this]
def hpA (M X : Nat) : Nat := X - ((X / 2) &&& M)
def hpB (M X : Nat) : Nat := (X &&& M) + ((X / 4) &&& M)
def hpC (M X : Nat) : Nat := (X + X / 16) &&& M
theorem hpA_b {b Y M : Nat} (hb : b < 256) : hpA (85 + 256 * M) (b + 256 * Y) = hpA 85 b + 256 * hpA M Y := by
  have h := hp_byte (s := 1) (μ := 85) (M := M) (Y := Y) hb (by decide) (by decide)
  have e : (2 : Nat) ^ 1 = 2 := rfl
  rw [e] at h
  unfold hpA
  rw [h]
  have h1 : (b / 2 &&& 85) ≤ b / 2 := Nat.and_le_left
  have h2 : (Y / 2 &&& M) ≤ Y / 2 := Nat.and_le_left
  omega
theorem hpB_b {b Y M : Nat} (hb : b < 256) : hpB (51 + 256 * M) (b + 256 * Y) = hpB 51 b + 256 * hpB M Y := by
  have h := hp_byte (s := 2) (μ := 51) (M := M) (Y := Y) hb (by decide) (by decide)
  have h0 := hp_byte (s := 0) (μ := 51) (M := M) (Y := Y) hb (by decide) (by decide)
  have e : (2 : Nat) ^ 2 = 4 := rfl
  have e0 : (2 : Nat) ^ 0 = 1 := rfl
  rw [e] at h
  rw [e0, Nat.div_one, Nat.div_one, Nat.div_one] at h0
  unfold hpB
  rw [h, h0]
  omega
theorem hpC_b {p Y M : Nat} (hp : p < 256) (h1 : p % 16 ≤ 4) (h2 : p / 16 ≤ 4) (h3 : Y % 16 ≤ 4) : hpC (15 + 256 * M) (p + 256 * Y) = (p % 16 + p / 16) + 256 * hpC M Y := by
  unfold hpC
  have e : p + 256 * Y + (p + 256 * Y) / 16 = (p % 16 + p / 16 + 16 * (p / 16 + Y % 16)) + 256 * (Y + Y / 16) := by omega
  have hb : p % 16 + p / 16 + 16 * (p / 16 + Y % 16) < 256 := by omega
  have h0 := hp_byte (s := 0) (μ := 15) (M := M) (Y := Y + Y / 16) hb (by decide) (by decide)
  have e0 : (2 : Nat) ^ 0 = 1 := rfl
  rw [e0, Nat.div_one, Nat.div_one, Nat.div_one] at h0
  rw [e, h0]
  congr 1
  have e1 : ∀ z : Nat, z &&& 15 = z % 16 := fun z => Nat.and_two_pow_sub_one_eq_mod z 4
  rw [e1]
  omega
def hpop : Nat → Nat → Nat
  | 0, _ => 0
  | k + 1, x => x % 2 + hpop k (x / 2)
theorem hp_all : ∀ b : Nat, b < 256 → hpA 85 b < 256 ∧ hpB 51 (hpA 85 b) < 256 ∧ hpB 51 (hpA 85 b) % 16 ≤ 4 ∧ hpB 51 (hpA 85 b) / 16 ≤ 4 ∧ hpB 51 (hpA 85 b) % 16 + hpB 51 (hpA 85 b) / 16 = hpop 8 b := by decide +kernel
theorem hpop_le : ∀ k x : Nat, hpop k x ≤ k
  | 0, _ => Nat.le_refl _
  | k + 1, x => by
    have := hpop_le k (x / 2)
    unfold hpop
    omega
theorem hpop_add : ∀ j k x : Nat, hpop (j + k) x = hpop j x + hpop k (x / 2 ^ j)
  | 0, k, x => by
    rw [Nat.zero_add, Nat.pow_zero, Nat.div_one]
    show _ = 0 + _
    omega
  | j + 1, k, x => by
    have e : j + 1 + k = (j + k) + 1 := by omega
    rw [e]
    show x % 2 + hpop (j + k) (x / 2) = (x % 2 + hpop j (x / 2)) + hpop k (x / 2 ^ (j + 1))
    rw [hpop_add j k (x / 2), Nat.div_div_eq_div_mul, Nat.pow_succ, Nat.mul_comm 2]
    omega
theorem hpop_mod : ∀ k x : Nat, hpop k (x % 2 ^ k) = hpop k x
  | 0, _ => rfl
  | k + 1, x => by
    unfold hpop
    have e1 : x % 2 ^ (k + 1) % 2 = x % 2 := Nat.mod_mod_of_dvd _ ⟨2 ^ k, by rw [Nat.pow_succ, Nat.mul_comm]⟩
    have e2 : x % 2 ^ (k + 1) / 2 = x / 2 % 2 ^ k := by
      rw [Nat.pow_succ, Nat.mul_comm, Nat.mod_mul_right_div_self]
    rw [e1, e2, hpop_mod k (x / 2)]
theorem hcnt_pop (f : Nat → Bool) : ∀ k X, (∀ j, j < k → X.testBit j = f j) → hpop k X = hcnt f k
  | 0, _, _ => rfl
  | k + 1, X, h => by
    have h1 := hpop_add k 1 X
    rw [h1, hcnt_pop f k X (fun j hj => h j (by omega))]
    show _ = hcnt f k + _
    have e : hpop 1 (X / 2 ^ k) = X / 2 ^ k % 2 := by
      show X / 2 ^ k % 2 + 0 = _
      omega
    rw [e, hbit_eq, h k (by omega)]
theorem hpop_hmask (f : Nat → Bool) (k : Nat) : hpop k (hmask f k) = hcnt f k :=
  hcnt_pop f k _ (fun j hj => by rw [hmask_bit, decide_eq_true hj, Bool.true_and])
/-- the bytes of a number below 2^40 -/
theorem hp_long {X : Nat} (h : X < 2 ^ 40) : hpC 1085102592571150095 (hpB 3689348814741910323 (hpA 6148914691236517205 X)) = hpop 8 (X % 256) + 256 * (hpop 8 (X / 256 % 256) + 256 * (hpop 8 (X / 65536 % 256) + 256 * (hpop 8 (X / 16777216 % 256) + 256 * hpop 8 (X / 4294967296 % 256)))) := by
  obtain ⟨b0, hb0⟩ : ∃ b, b = X % 256 := ⟨_, rfl⟩
  obtain ⟨b1, hb1⟩ : ∃ b, b = X / 256 % 256 := ⟨_, rfl⟩
  obtain ⟨b2, hb2⟩ : ∃ b, b = X / 65536 % 256 := ⟨_, rfl⟩
  obtain ⟨b3, hb3⟩ : ∃ b, b = X / 16777216 % 256 := ⟨_, rfl⟩
  obtain ⟨b4, hb4⟩ : ∃ b, b = X / 4294967296 % 256 := ⟨_, rfl⟩
  rw [← hb0, ← hb1, ← hb2, ← hb3, ← hb4]
  have hX : X = b0 + 256 * (b1 + 256 * (b2 + 256 * (b3 + 256 * (b4 + 256 * 0)))) := by omega
  obtain ⟨p0, q0, r0, s0, t0⟩ := hp_all b0 (by omega)
  obtain ⟨p1, q1, r1, s1, t1⟩ := hp_all b1 (by omega)
  obtain ⟨p2, q2, r2, s2, t2⟩ := hp_all b2 (by omega)
  obtain ⟨p3, q3, r3, s3, t3⟩ := hp_all b3 (by omega)
  obtain ⟨p4, q4, r4, s4, t4⟩ := hp_all b4 (by omega)
  have z1 : ∀ M, hpA M 0 = 0 := fun M => by unfold hpA; omega
  have z2 : ∀ M, hpB M 0 = 0 := fun M => by unfold hpB; rw [Nat.zero_div, Nat.zero_and]
  have z3 : ∀ M, hpC M 0 = 0 := fun M => by unfold hpC; rw [Nat.zero_div, Nat.add_zero, Nat.zero_and]
  have m1 : (6148914691236517205 : Nat) = 85 + 256 * (85 + 256 * (85 + 256 * (85 + 256 * (85 + 256 * 5592405)))) := by decide
  have m2 : (3689348814741910323 : Nat) = 51 + 256 * (51 + 256 * (51 + 256 * (51 + 256 * (51 + 256 * 3355443)))) := by decide
  have m3 : (1085102592571150095 : Nat) = 15 + 256 * (15 + 256 * (15 + 256 * (15 + 256 * (15 + 256 * 986895)))) := by decide
  rw [hX, m1, m2, m3, hpA_b (by omega), hpA_b (by omega), hpA_b (by omega), hpA_b (by omega), hpA_b (by omega), z1, hpB_b p0, hpB_b p1, hpB_b p2, hpB_b p3, hpB_b p4, z2]
  rw [hpC_b q0 r0 s0 (by omega), hpC_b q1 r1 s1 (by omega), hpC_b q2 r2 s2 (by omega), hpC_b q3 r3 s3 (by omega), hpC_b q4 r4 s4 (by omega), z3, t0, t1, t2, t3, t4]
  omega
theorem hp_sum {X : Nat} (h : X < 2 ^ 40) : hpop 40 X = hpop 8 (X % 256) + hpop 8 (X / 256 % 256) + hpop 8 (X / 65536 % 256) + hpop 8 (X / 16777216 % 256) + hpop 8 (X / 4294967296 % 256) := by
  have e : ∀ z, hpop 8 (z % 256) = hpop 8 z := fun z => hpop_mod 8 z
  rw [e, e, e, e, e]
  have a1 := hpop_add 8 32 X
  have a2 := hpop_add 8 24 (X / 2 ^ 8)
  have a3 := hpop_add 8 16 (X / 2 ^ 8 / 2 ^ 8)
  have a4 := hpop_add 8 8 (X / 2 ^ 8 / 2 ^ 8 / 2 ^ 8)
  rw [Nat.div_div_eq_div_mul] at a3 a4
  rw [Nat.div_div_eq_div_mul] at a3 a4
  rw [Nat.div_div_eq_div_mul] at a4
  rw [Nat.div_div_eq_div_mul] at a2
  simp only [Nat.reducePow, Nat.reduceMul, Nat.reduceAdd] at a1 a2 a3 a4
  omega
end
section
/-! BITS of 32 bits; the library's counts of bits -/
theorem hiv_nat {X : Nat} (h : X < 2 ^ 31) : (Int32.ofInt (X : Int)).toBitVec.toNat = X := by
  rw [Int32.toBitVec_ofInt, BitVec.toNat_ofInt]
  omega
theorem hiv_to {x : Int32} (h : x.toBitVec.toNat < 2 ^ 31) : x.toInt = (x.toBitVec.toNat : Int) := by
  have e : x.toInt = x.toBitVec.toInt := rfl
  rw [e, BitVec.toInt_eq_toNat_cond, if_pos (by omega)]
theorem hand_nat {X Z : Nat} (hX : X < 2 ^ 31) (hZ : Z < 2 ^ 31) : gx_and (X : Int) (Z : Int) = ((X &&& Z : Nat) : Int) := by
  have e : (Int32.ofInt (X : Int) &&& Int32.ofInt (Z : Int)).toBitVec.toNat = X &&& Z := by
    show ((Int32.ofInt (X : Int)).toBitVec &&& (Int32.ofInt (Z : Int)).toBitVec).toNat = _
    rw [BitVec.toNat_and, hiv_nat hX, hiv_nat hZ]
  unfold gx_and
  rw [hiv_to (by rw [e]; exact Nat.lt_of_le_of_lt Nat.and_le_left hX), e]
theorem hor_nat {X Z : Nat} (hX : X < 2 ^ 31) (hZ : Z < 2 ^ 31) : gx_or (X : Int) (Z : Int) = ((X ||| Z : Nat) : Int) := by
  have e : (Int32.ofInt (X : Int) ||| Int32.ofInt (Z : Int)).toBitVec.toNat = X ||| Z := by
    show ((Int32.ofInt (X : Int)).toBitVec ||| (Int32.ofInt (Z : Int)).toBitVec).toNat = _
    rw [BitVec.toNat_or, hiv_nat hX, hiv_nat hZ]
  unfold gx_or
  rw [hiv_to (by rw [e]; exact Nat.or_lt_two_pow hX hZ), e]
theorem hi_amt : ∀ y : Nat, y < 32 → ((Int32.ofInt (y : Int)).toUInt32 &&& Int32.toUInt32 31) = UInt32.ofNat y := by decide +kernel
theorem hi_sam : ∀ y : Nat, y < 32 → ((Int32.ofInt (y : Int) &&& 31).toBitVec.smod 32).toNat = y := by decide +kernel
theorem hushr_nat {X y : Nat} (hX : X < 2 ^ 31) (hy : y < 32) : hushr (X : Int) (y : Int) = ((X / 2 ^ y : Nat) : Int) := by
  unfold hushr
  rw [hi_amt y hy]
  have e : ((Int32.ofInt (X : Int)).toUInt32 >>> UInt32.ofNat y).toInt32.toBitVec.toNat = X / 2 ^ y := by
    show ((Int32.ofInt (X : Int)).toUInt32 >>> UInt32.ofNat y).toNat = _
    rw [UInt32.toNat_shiftRight, UInt32.toNat_ofNat']
    have e1 : (Int32.ofInt (X : Int)).toUInt32.toNat = X := hiv_nat hX
    rw [e1, Nat.mod_eq_of_lt (show y % 2 ^ 32 < 32 by omega), Nat.mod_eq_of_lt (show y < 2 ^ 32 by omega), Nat.shiftRight_eq_div_pow]
  have hl : X / 2 ^ y ≤ X := Nat.div_le_self _ _
  rw [hiv_to (by rw [e]; omega), e]
theorem hshr_nat {X y : Nat} (hX : X < 2 ^ 31) (hy : y < 32) : gx_shr (X : Int) (y : Int) = ((X / 2 ^ y : Nat) : Int) := by
  unfold gx_shr
  have hl : X / 2 ^ y ≤ X := Nat.div_le_self _ _
  have e : (Int32.ofInt (X : Int) >>> (Int32.ofInt (y : Int) &&& 31)).toInt = (((Int32.ofInt (X : Int)).toBitVec).sshiftRight' ((Int32.ofInt (y : Int) &&& 31).toBitVec.smod 32)).toInt := rfl
  rw [e, BitVec.toInt_sshiftRight', hi_sam y hy]
  have e1 : (Int32.ofInt (X : Int)).toBitVec.toInt = (X : Int) := by
    rw [BitVec.toInt_eq_toNat_cond, hiv_nat hX, if_pos (by omega)]
  rw [e1, Int.shiftRight_eq_div_pow]
  norm_cast
theorem hshl_one : ∀ y : Nat, y < 31 → gx_shl 1 (y : Int) = ((2 ^ y : Nat) : Int) := by decide +kernel
theorem hibit {X y : Nat} (hX : X < 2 ^ 31) (hy : y < 32) : gx_and (gx_shr (X : Int) (y : Int)) 1 = if X.testBit y = true then 1 else 0 := by
  rw [hshr_nat hX hy]
  have hl : X / 2 ^ y ≤ X := Nat.div_le_self _ _
  have e1 : gx_and ((X / 2 ^ y : Nat) : Int) ((1 : Nat) : Int) = ((X / 2 ^ y &&& 1 : Nat) : Int) := hand_nat (by omega) (by omega)
  have e2 : ((1 : Nat) : Int) = 1 := rfl
  rw [e2] at e1
  rw [e1, Nat.and_one_is_mod, hbit_eq]
  split <;> rfl
theorem hlw_id {x : Int} (h1 : -9223372036854775808 ≤ x) (h2 : x < 9223372036854775808) : hlw x = x := by unfold hlw; omega
end
section
/-! how many bits a long number has, by the library -/
/-- bitCount from 0 on -/
theorem hr61_0 {xs : List Int32} {n : Nat} {Q : hQ} {m : gx_M} {x0 : Int}
    (h1 : hxn xs n yp_m61 10 [(0, .inr (.inr (hlw (x0 - (hland (hlushr x0 1) 6148914691236517205)))))] [] m Q) : hxn xs (n + 1) yp_m61 0 [(0, .inr (.inr x0))] [] m Q := by
  refine hx_blks (npc := 10) (L' := [(0, .inr (.inr (hlw (x0 - (hland (hlushr x0 1) 6148914691236517205)))))]) (st' := []) (m' := m) ((0, .lload_n 0, 1, 0, 0, 0, 0), (0, 0, 0)) [((1, .lload_n 0, 1, 0, 0, 0, 0), (0, 0, 0)), ((2, .iconst 1, 1, 0, 0, 0, 0), (0, 0, 0)), ((3, .lushr, 1, 0, 0, 0, 0), (0, 0, 0)), ((4, .ldc2_w 314, 3, 0, 0, 3147, 6148914691236517205), (0, 0, 0)), ((7, .land, 1, 0, 0, 0, 0), (0, 0, 0)), ((8, .lsub, 1, 0, 0, 0, 0), (0, 0, 0)), ((9, .lstore_n 0, 1, 0, 0, 0, 0), (0, 0, 0))] (by decide +kernel) rfl ?_
  exact hx_pick [0] h1

/-- bitCount from 10 on -/
theorem hr61_10 {xs : List Int32} {n : Nat} {Q : hQ} {m : gx_M} {x0 : Int}
    (h1 : hxn xs n yp_m61 24 [(0, .inr (.inr (hlw ((hland x0 3689348814741910323) + (hland (hlushr x0 2) 3689348814741910323)))))] [] m Q) : hxn xs (n + 1) yp_m61 10 [(0, .inr (.inr x0))] [] m Q := by
  refine hx_blks (npc := 24) (L' := [(0, .inr (.inr (hlw ((hland x0 3689348814741910323) + (hland (hlushr x0 2) 3689348814741910323)))))]) (st' := []) (m' := m) ((10, .lload_n 0, 1, 0, 0, 0, 0), (0, 0, 0)) [((11, .ldc2_w 316, 3, 0, 0, 3148, 3689348814741910323), (0, 0, 0)), ((14, .land, 1, 0, 0, 0, 0), (0, 0, 0)), ((15, .lload_n 0, 1, 0, 0, 0, 0), (0, 0, 0)), ((16, .iconst 2, 1, 0, 0, 0, 0), (0, 0, 0)), ((17, .lushr, 1, 0, 0, 0, 0), (0, 0, 0)), ((18, .ldc2_w 316, 3, 0, 0, 3148, 3689348814741910323), (0, 0, 0)), ((21, .land, 1, 0, 0, 0, 0), (0, 0, 0)), ((22, .ladd, 1, 0, 0, 0, 0), (0, 0, 0)), ((23, .lstore_n 0, 1, 0, 0, 0, 0), (0, 0, 0))] (by decide +kernel) rfl ?_
  exact hx_pick [0] h1

/-- bitCount from 24 on -/
theorem hr61_24 {xs : List Int32} {n : Nat} {Q : hQ} {m : gx_M} {x0 : Int}
    (h1 : hxn xs n yp_m61 34 [(0, .inr (.inr (hland (hlw (x0 + (hlushr x0 4))) 1085102592571150095)))] [] m Q) : hxn xs (n + 1) yp_m61 24 [(0, .inr (.inr x0))] [] m Q := by
  refine hx_blks (npc := 34) (L' := [(0, .inr (.inr (hland (hlw (x0 + (hlushr x0 4))) 1085102592571150095)))]) (st' := []) (m' := m) ((24, .lload_n 0, 1, 0, 0, 0, 0), (0, 0, 0)) [((25, .lload_n 0, 1, 0, 0, 0, 0), (0, 0, 0)), ((26, .iconst 4, 1, 0, 0, 0, 0), (0, 0, 0)), ((27, .lushr, 1, 0, 0, 0, 0), (0, 0, 0)), ((28, .ladd, 1, 0, 0, 0, 0), (0, 0, 0)), ((29, .ldc2_w 318, 3, 0, 0, 3149, 1085102592571150095), (0, 0, 0)), ((32, .land, 1, 0, 0, 0, 0), (0, 0, 0)), ((33, .lstore_n 0, 1, 0, 0, 0, 0), (0, 0, 0))] (by decide +kernel) rfl ?_
  exact hx_pick [0] h1

/-- bitCount from 34 on -/
theorem hr61_34 {xs : List Int32} {n : Nat} {Q : hQ} {m : gx_M} {x0 : Int}
    (h1 : hxn xs n yp_m61 41 [(0, .inr (.inr (hlw (x0 + (hlushr x0 8)))))] [] m Q) : hxn xs (n + 1) yp_m61 34 [(0, .inr (.inr x0))] [] m Q := by
  refine hx_blks (npc := 41) (L' := [(0, .inr (.inr (hlw (x0 + (hlushr x0 8)))))]) (st' := []) (m' := m) ((34, .lload_n 0, 1, 0, 0, 0, 0), (0, 0, 0)) [((35, .lload_n 0, 1, 0, 0, 0, 0), (0, 0, 0)), ((36, .bipush 8, 2, 0, 0, 0, 0), (0, 0, 0)), ((38, .lushr, 1, 0, 0, 0, 0), (0, 0, 0)), ((39, .ladd, 1, 0, 0, 0, 0), (0, 0, 0)), ((40, .lstore_n 0, 1, 0, 0, 0, 0), (0, 0, 0))] (by decide +kernel) rfl ?_
  exact hx_pick [0] h1

/-- bitCount from 41 on -/
theorem hr61_41 {xs : List Int32} {n : Nat} {Q : hQ} {m : gx_M} {x0 : Int}
    (h1 : hxn xs n yp_m61 48 [(0, .inr (.inr (hlw (x0 + (hlushr x0 16)))))] [] m Q) : hxn xs (n + 1) yp_m61 41 [(0, .inr (.inr x0))] [] m Q := by
  refine hx_blks (npc := 48) (L' := [(0, .inr (.inr (hlw (x0 + (hlushr x0 16)))))]) (st' := []) (m' := m) ((41, .lload_n 0, 1, 0, 0, 0, 0), (0, 0, 0)) [((42, .lload_n 0, 1, 0, 0, 0, 0), (0, 0, 0)), ((43, .bipush 16, 2, 0, 0, 0, 0), (0, 0, 0)), ((45, .lushr, 1, 0, 0, 0, 0), (0, 0, 0)), ((46, .ladd, 1, 0, 0, 0, 0), (0, 0, 0)), ((47, .lstore_n 0, 1, 0, 0, 0, 0), (0, 0, 0))] (by decide +kernel) rfl ?_
  exact hx_pick [0] h1

/-- bitCount from 48 on -/
theorem hr61_48 {xs : List Int32} {n : Nat} {Q : hQ} {m : gx_M} {x0 : Int}
    (h1 : hxn xs n yp_m61 55 [(0, .inr (.inr (hlw (x0 + (hlushr x0 32)))))] [] m Q) : hxn xs (n + 1) yp_m61 48 [(0, .inr (.inr x0))] [] m Q := by
  refine hx_blks (npc := 55) (L' := [(0, .inr (.inr (hlw (x0 + (hlushr x0 32)))))]) (st' := []) (m' := m) ((48, .lload_n 0, 1, 0, 0, 0, 0), (0, 0, 0)) [((49, .lload_n 0, 1, 0, 0, 0, 0), (0, 0, 0)), ((50, .bipush 32, 2, 0, 0, 0, 0), (0, 0, 0)), ((52, .lushr, 1, 0, 0, 0, 0), (0, 0, 0)), ((53, .ladd, 1, 0, 0, 0, 0), (0, 0, 0)), ((54, .lstore_n 0, 1, 0, 0, 0, 0), (0, 0, 0))] (by decide +kernel) rfl ?_
  exact hx_pick [0] h1

/-- bitCount from 55 on -/
theorem hr61_55 {xs : List Int32} {n : Nat} {Q : hQ} {m : gx_M} {x0 : Int}
    (h1 : Q (some (.inl (gx_and (gx_w x0) 127))) m) : hxn xs (n + 1) yp_m61 55 [(0, .inr (.inr x0))] [] m Q := by
  have f1 := gx_and_bd (gx_w x0) 127 (by decide)
  refine hx_blks (npc := 60) (L' := [(0, .inr (.inr x0))]) (st' := [.inl (gx_and (gx_w x0) 127)]) (m' := m) ((55, .lload_n 0, 1, 0, 0, 0, 0), (0, 0, 0)) [((56, .l2i, 1, 0, 0, 0, 0), (0, 0, 0)), ((57, .bipush 127, 2, 0, 0, 0, 0), (0, 0, 0)), ((59, .iand, 1, 0, 0, 0, 0), (0, 0, 0))] (by decide +kernel) rfl ?_
  exact hx_reti (by decide +kernel) h1

theorem hp_fin {p0 p1 p2 p3 p4 C D E F : Nat} (h0 : p0 ≤ 8) (h1 : p1 ≤ 8) (h2 : p2 ≤ 8) (h3 : p3 ≤ 8) (h4 : p4 ≤ 8) (hC : C = p0 + 256 * (p1 + 256 * (p2 + 256 * (p3 + 256 * p4)))) (hD : D = C + C / 256) (hE : E = D + D / 65536) (hF : F = E + E / 4294967296) : C < 2 ^ 50 ∧ D < 2 ^ 50 ∧ E < 2 ^ 50 ∧ F % 4294967296 < 2147483648 ∧ F % 4294967296 % 128 = p0 + p1 + p2 + p3 + p4 := by
  have k1 : C / 256 = p1 + 256 * (p2 + 256 * (p3 + 256 * p4)) := by omega
  rw [k1] at hD
  have k2 : D = (p0 + p1) + 256 * (p1 + p2) + 65536 * ((p2 + p3) + 256 * (p3 + p4) + 65536 * p4) := by omega
  have k3 : D / 65536 = (p2 + p3) + 256 * (p3 + p4) + 65536 * p4 := by
    clear hC hD hE hF k1
    omega
  rw [k3] at hE
  have k4 : E = ((p0 + p1 + p2 + p3) + 256 * (p1 + p2 + p3 + p4) + 65536 * (p2 + p3 + p4) + 16777216 * (p3 + p4)) + 4294967296 * p4 := by
    clear hC hD hF k1 k3
    omega
  have k5 : E / 4294967296 = p4 := by
    clear hC hD hE hF k1 k2 k3
    omega
  rw [k5] at hF
  have k6 : F % 4294967296 = ((p0 + p1 + p2 + p3 + p4) + 256 * (p1 + p2 + p3 + p4) + 65536 * (p2 + p3 + p4) + 16777216 * (p3 + p4)) := by
    clear hC hD hE k1 k2 k3 k5
    omega
  refine ⟨by clear hD hE hF k1 k2 k3 k4 k5 k6; omega, by clear hC hE hF hD k1 k3 k4 k5 k6; omega, by clear hC hD hF hE k1 k2 k3 k5 k6; omega, ?_, ?_⟩
  · rw [k6]; clear hC hD hE hF k1 k2 k3 k4 k5 k6; omega
  · rw [k6]; clear hC hD hE hF k1 k2 k3 k4 k5 k6; omega
theorem hs61 {xs : List Int32} {n : Nat} {Q : hQ} {m : gx_M} {X : Nat} (hX : X < 2 ^ 40) (h : Q (some (.inl ((hpop 40 X : Nat) : Int))) m) : hxn xs n yp_m61 0 [(0, .inr (.inr (X : Int)))] [] m Q := by
  have hXX : X < 2 ^ 63 := by omega
  have la : ∀ X Z : Nat, X < 2 ^ 63 → Z < 2 ^ 63 → hland (X : Int) (Z : Int) = ((X &&& Z : Nat) : Int) := fun X Z h1 h2 => hland_nat h1 h2
  have ls : ∀ X y : Nat, X < 2 ^ 63 → y < 64 → hlushr (X : Int) (y : Int) = ((X / 2 ^ y : Nat) : Int) := fun X y h1 h2 => hlushr_nat h1 h2
  have bound : ∀ X k : Nat, X / k ≤ X := Nat.div_le_self
  refine hx_dn (hr61_0 (hx_dn ?_))
  -- a
  obtain ⟨A, hA⟩ : ∃ A, A = hpA 6148914691236517205 X := ⟨_, rfl⟩
  have eA : hlw ((X : Int) - hland (hlushr (X : Int) 1) 6148914691236517205) = (A : Int) := by
    have e1 := ls X 1 hXX (by decide)
    have e2 := la (X / 2 ^ 1) 6148914691236517205 (by have := bound X (2 ^ 1); omega) (by decide)
    have l1 : (X / 2 ^ 1 &&& 6148914691236517205) ≤ X / 2 ^ 1 := Nat.and_le_left
    have l2 := bound X (2 ^ 1)
    have c1 : ((1 : Nat) : Int) = 1 := rfl
    have c2 : ((6148914691236517205 : Nat) : Int) = 6148914691236517205 := rfl
    rw [c1] at e1
    rw [c2] at e2
    rw [e1, e2, hA]
    unfold hpA
    have p2 : X / 2 ^ 1 = X / 2 := rfl
    rw [p2] at l1 l2 ⊢
    rw [hlw_id (by omega) (by omega)]
    omega
  rw [eA]
  have bA : A < 2 ^ 40 := by rw [hA]; unfold hpA; omega
  refine hr61_10 (hx_dn ?_)
  obtain ⟨B, hB⟩ : ∃ B, B = hpB 3689348814741910323 A := ⟨_, rfl⟩
  have bB0 : B ≤ A + A := by
    rw [hB]; unfold hpB
    have l1 : (A &&& 3689348814741910323) ≤ A := Nat.and_le_left
    have l2 : (A / 4 &&& 3689348814741910323) ≤ A / 4 := Nat.and_le_left
    omega
  have eB : hlw (hland (A : Int) 3689348814741910323 + hland (hlushr (A : Int) 2) 3689348814741910323) = (B : Int) := by
    have e0 := la A 3689348814741910323 (by omega) (by decide)
    have e1 := ls A 2 (by omega) (by decide)
    have e2 := la (A / 2 ^ 2) 3689348814741910323 (by have := bound A (2 ^ 2); omega) (by decide)
    have c1 : ((2 : Nat) : Int) = 2 := rfl
    have c2 : ((3689348814741910323 : Nat) : Int) = 3689348814741910323 := rfl
    rw [c1] at e1
    rw [c2] at e0 e2
    rw [e1, e2, e0]
    have p2 : A / 2 ^ 2 = A / 4 := rfl
    have hB' : B = (A &&& 3689348814741910323) + (A / 4 &&& 3689348814741910323) := hB
    rw [p2, hlw_id (by omega) (by omega)]
    omega
  rw [eB]
  refine hr61_24 (hx_dn ?_)
  obtain ⟨C, hC⟩ : ∃ C, C = hpC 1085102592571150095 B := ⟨_, rfl⟩
  have eC : hland (hlw ((B : Int) + hlushr (B : Int) 4)) 1085102592571150095 = (C : Int) := by
    have e1 := ls B 4 (by omega) (by decide)
    have c1 : ((4 : Nat) : Int) = 4 := rfl
    have c2 : ((1085102592571150095 : Nat) : Int) = 1085102592571150095 := rfl
    rw [c1] at e1
    have p2 : B / 2 ^ 4 = B / 16 := rfl
    have l2 := bound B 16
    rw [e1, p2, hlw_id (by omega) (by omega)]
    have e2 := la (B + B / 16) 1085102592571150095 (by omega) (by decide)
    rw [c2] at e2
    have e3 : ((B + B / 16 : Nat) : Int) = (B : Int) + ((B / 16 : Nat) : Int) := by omega
    rw [e3] at e2
    rw [e2, hC]
    rfl
  rw [eC]
  have hCv := hp_long hX
  rw [← hA, ← hB, ← hC] at hCv
  have hsum := hp_sum hX
  have q0 := hpop_le 8 (X % 256)
  have q1 := hpop_le 8 (X / 256 % 256)
  have q2 := hpop_le 8 (X / 65536 % 256)
  have q3 := hpop_le 8 (X / 16777216 % 256)
  have q4 := hpop_le 8 (X / 4294967296 % 256)
  have hfin := fun D E F h1 h2 h3 => hp_fin (C := C) (D := D) (E := E) (F := F) q0 q1 q2 q3 q4 hCv h1 h2 h3
  clear hCv q0 q1 q2 q3 q4 eA eB eC bB0 bA hA hB hC
  have step : ∀ (D k : Nat), D < 2 ^ 62 → k < 64 → hlw ((D : Int) + hlushr (D : Int) (k : Int)) = ((D + D / 2 ^ k : Nat) : Int) := fun D k h1 h2 => by
    rw [ls D k (by omega) h2]
    have := bound D (2 ^ k)
    generalize D / 2 ^ k = z at *
    rw [hlw_id (by omega) (by omega)]
    omega
  refine hr61_34 (hx_dn ?_)
  have s1 := step C 8 (Nat.lt_trans (hfin _ _ _ rfl rfl rfl).1 (by decide)) (by decide)
  have c8 : ((8 : Nat) : Int) = 8 := rfl
  rw [c8] at s1
  rw [s1]
  have d1 : C + C / 2 ^ 8 = C + C / 256 := rfl
  rw [d1]
  refine hr61_41 (hx_dn ?_)
  obtain ⟨D, hD⟩ : ∃ D, D = C + C / 256 := ⟨_, rfl⟩
  rw [← hD]
  have s2 := step D 16 (Nat.lt_trans (hfin D _ _ hD rfl rfl).2.1 (by decide)) (by decide)
  have c16 : ((16 : Nat) : Int) = 16 := rfl
  rw [c16] at s2
  rw [s2]
  have d2 : D + D / 2 ^ 16 = D + D / 65536 := rfl
  rw [d2]
  obtain ⟨E, hE⟩ : ∃ E, E = D + D / 65536 := ⟨_, rfl⟩
  rw [← hE]
  refine hr61_48 (hx_dn ?_)
  have s3 := step E 32 (Nat.lt_trans (hfin D E _ hD hE rfl).2.2.1 (by decide)) (by decide)
  have c32 : ((32 : Nat) : Int) = 32 := rfl
  rw [c32] at s3
  rw [s3]
  have d3 : E + E / 2 ^ 32 = E + E / 4294967296 := rfl
  rw [d3]
  obtain ⟨F, hF⟩ : ∃ F, F = E + E / 4294967296 := ⟨_, rfl⟩
  rw [← hF]
  refine hr61_55 ?_
  have e : gx_and (gx_w (F : Int)) 127 = ((hpop 40 X : Nat) : Int) := by
    have e0 : gx_w (F : Int) = ((F % 4294967296 : Nat) : Int) - (if F % 4294967296 < 2147483648 then 0 else 4294967296) := by
      unfold gx_w
      split <;> omega
    have hlow : F % 4294967296 < 2147483648 := (hfin D E F hD hE hF).2.2.2.1
    rw [e0, if_pos hlow, Int.sub_zero]
    have e1 : gx_and ((F % 4294967296 : Nat) : Int) ((127 : Nat) : Int) = ((F % 4294967296 &&& 127 : Nat) : Int) := hand_nat (by omega) (by decide)
    have c127 : ((127 : Nat) : Int) = 127 := rfl
    rw [c127] at e1
    have e2 : (F % 4294967296 &&& 127) = F % 4294967296 % 128 := Nat.and_two_pow_sub_one_eq_mod _ 7
    rw [e1, e2, hsum, (hfin D E F hD hE hF).2.2.2.2]
  rw [e]
  exact h
end
section
/-! how many bits a number has, by the library -/
/-- bitCount from 0 on -/
theorem hr63_0 {xs : List Int32} {n : Nat} {Q : hQ} {m : gx_M} {x0 : Int}
    (h1 : hxn xs n yp_m63 10 [(0, .inl (gx_w (x0 - (gx_and (hushr x0 1) 1431655765))))] [] m Q) : hxn xs (n + 1) yp_m63 0 [(0, .inl x0)] [] m Q := by
  have f1 := gx_and_bd (hushr x0 1) 1431655765 (by decide)
  refine hx_blks (npc := 10) (L' := [(0, .inl (gx_w (x0 - (gx_and (hushr x0 1) 1431655765))))]) (st' := []) (m' := m) ((0, .iload_n 0, 1, 0, 0, 0, 0), (0, 0, 0)) [((1, .iload_n 0, 1, 0, 0, 0, 0), (0, 0, 0)), ((2, .iconst 1, 1, 0, 0, 0, 0), (0, 0, 0)), ((3, .iushr, 1, 0, 0, 0, 0), (0, 0, 0)), ((4, .ldc_w 265, 3, 0, 0, 3157, 1431655765), (0, 0, 0)), ((7, .iand, 1, 0, 0, 0, 0), (0, 0, 0)), ((8, .isub, 1, 0, 0, 0, 0), (0, 0, 0)), ((9, .istore_n 0, 1, 0, 0, 0, 0), (0, 0, 0))] (by decide +kernel) rfl ?_
  exact hx_pick [0] h1

/-- bitCount from 10 on -/
theorem hr63_10 {xs : List Int32} {n : Nat} {Q : hQ} {m : gx_M} {x0 : Int}
    (h1 : hxn xs n yp_m63 24 [(0, .inl ((gx_and x0 858993459) + (gx_and (hushr x0 2) 858993459)))] [] m Q) : hxn xs (n + 1) yp_m63 10 [(0, .inl x0)] [] m Q := by
  have f1 := gx_and_bd x0 858993459 (by decide)
  have f2 := gx_and_bd (hushr x0 2) 858993459 (by decide)
  have e3 : gx_w ((gx_and x0 858993459) + (gx_and (hushr x0 2) 858993459)) = (gx_and x0 858993459) + (gx_and (hushr x0 2) 858993459) := gx_w_id (by omega) (by omega)
  refine hx_blks (npc := 24) (L' := [(0, .inl (gx_w ((gx_and x0 858993459) + (gx_and (hushr x0 2) 858993459))))]) (st' := []) (m' := m) ((10, .iload_n 0, 1, 0, 0, 0, 0), (0, 0, 0)) [((11, .ldc_w 266, 3, 0, 0, 3158, 858993459), (0, 0, 0)), ((14, .iand, 1, 0, 0, 0, 0), (0, 0, 0)), ((15, .iload_n 0, 1, 0, 0, 0, 0), (0, 0, 0)), ((16, .iconst 2, 1, 0, 0, 0, 0), (0, 0, 0)), ((17, .iushr, 1, 0, 0, 0, 0), (0, 0, 0)), ((18, .ldc_w 266, 3, 0, 0, 3158, 858993459), (0, 0, 0)), ((21, .iand, 1, 0, 0, 0, 0), (0, 0, 0)), ((22, .iadd, 1, 0, 0, 0, 0), (0, 0, 0)), ((23, .istore_n 0, 1, 0, 0, 0, 0), (0, 0, 0))] (by decide +kernel) rfl ?_
  rw [e3]
  exact hx_pick [0] h1

/-- bitCount from 24 on -/
theorem hr63_24 {xs : List Int32} {n : Nat} {Q : hQ} {m : gx_M} {x0 : Int}
    (h1 : hxn xs n yp_m63 34 [(0, .inl (gx_and (gx_w (x0 + (hushr x0 4))) 252645135))] [] m Q) : hxn xs (n + 1) yp_m63 24 [(0, .inl x0)] [] m Q := by
  have f1 := gx_and_bd (gx_w (x0 + (hushr x0 4))) 252645135 (by decide)
  refine hx_blks (npc := 34) (L' := [(0, .inl (gx_and (gx_w (x0 + (hushr x0 4))) 252645135))]) (st' := []) (m' := m) ((24, .iload_n 0, 1, 0, 0, 0, 0), (0, 0, 0)) [((25, .iload_n 0, 1, 0, 0, 0, 0), (0, 0, 0)), ((26, .iconst 4, 1, 0, 0, 0, 0), (0, 0, 0)), ((27, .iushr, 1, 0, 0, 0, 0), (0, 0, 0)), ((28, .iadd, 1, 0, 0, 0, 0), (0, 0, 0)), ((29, .ldc_w 267, 3, 0, 0, 3159, 252645135), (0, 0, 0)), ((32, .iand, 1, 0, 0, 0, 0), (0, 0, 0)), ((33, .istore_n 0, 1, 0, 0, 0, 0), (0, 0, 0))] (by decide +kernel) rfl ?_
  exact hx_pick [0] h1

/-- bitCount from 34 on -/
theorem hr63_34 {xs : List Int32} {n : Nat} {Q : hQ} {m : gx_M} {x0 : Int}
    (h1 : hxn xs n yp_m63 41 [(0, .inl (gx_w (x0 + (hushr x0 8))))] [] m Q) : hxn xs (n + 1) yp_m63 34 [(0, .inl x0)] [] m Q := by
  refine hx_blks (npc := 41) (L' := [(0, .inl (gx_w (x0 + (hushr x0 8))))]) (st' := []) (m' := m) ((34, .iload_n 0, 1, 0, 0, 0, 0), (0, 0, 0)) [((35, .iload_n 0, 1, 0, 0, 0, 0), (0, 0, 0)), ((36, .bipush 8, 2, 0, 0, 0, 0), (0, 0, 0)), ((38, .iushr, 1, 0, 0, 0, 0), (0, 0, 0)), ((39, .iadd, 1, 0, 0, 0, 0), (0, 0, 0)), ((40, .istore_n 0, 1, 0, 0, 0, 0), (0, 0, 0))] (by decide +kernel) rfl ?_
  exact hx_pick [0] h1

/-- bitCount from 41 on -/
theorem hr63_41 {xs : List Int32} {n : Nat} {Q : hQ} {m : gx_M} {x0 : Int}
    (h1 : hxn xs n yp_m63 48 [(0, .inl (gx_w (x0 + (hushr x0 16))))] [] m Q) : hxn xs (n + 1) yp_m63 41 [(0, .inl x0)] [] m Q := by
  refine hx_blks (npc := 48) (L' := [(0, .inl (gx_w (x0 + (hushr x0 16))))]) (st' := []) (m' := m) ((41, .iload_n 0, 1, 0, 0, 0, 0), (0, 0, 0)) [((42, .iload_n 0, 1, 0, 0, 0, 0), (0, 0, 0)), ((43, .bipush 16, 2, 0, 0, 0, 0), (0, 0, 0)), ((45, .iushr, 1, 0, 0, 0, 0), (0, 0, 0)), ((46, .iadd, 1, 0, 0, 0, 0), (0, 0, 0)), ((47, .istore_n 0, 1, 0, 0, 0, 0), (0, 0, 0))] (by decide +kernel) rfl ?_
  exact hx_pick [0] h1

/-- bitCount from 48 on -/
theorem hr63_48 {xs : List Int32} {n : Nat} {Q : hQ} {m : gx_M} {x0 : Int}
    (h1 : Q (some (.inl (gx_and x0 63))) m) : hxn xs (n + 1) yp_m63 48 [(0, .inl x0)] [] m Q := by
  have f1 := gx_and_bd x0 63 (by decide)
  refine hx_blks (npc := 52) (L' := [(0, .inl x0)]) (st' := [.inl (gx_and x0 63)]) (m' := m) ((48, .iload_n 0, 1, 0, 0, 0, 0), (0, 0, 0)) [((49, .bipush 63, 2, 0, 0, 0, 0), (0, 0, 0)), ((51, .iand, 1, 0, 0, 0, 0), (0, 0, 0))] (by decide +kernel) rfl ?_
  exact hx_reti (by decide +kernel) h1

def hia (X : Nat) : Nat := X - ((X / 2) &&& 1431655765)
def hib (A : Nat) : Nat := (A &&& 858993459) + ((A / 4) &&& 858993459)
def hic (B : Nat) : Nat := (B + B / 16) &&& 252645135
theorem hi_all (X : Nat) (hX : X < 65536) : hia X < 65536 ∧ hib (hia X) < 65536 ∧ hic (hib (hia X)) < 65536 ∧ (hic (hib (hia X)) + hic (hib (hia X)) / 256) % 64 = hpop 20 X ∧ hic (hib (hia X)) + hic (hib (hia X)) / 256 < 65536 := by
  obtain ⟨b0, hb0⟩ : ∃ b, b = X % 256 := ⟨_, rfl⟩
  obtain ⟨b1, hb1⟩ : ∃ b, b = X / 256 := ⟨_, rfl⟩
  have hX' : X = b0 + 256 * (b1 + 256 * 0) := by omega
  obtain ⟨p0, q0, r0, s0, t0⟩ := hp_all b0 (by omega)
  obtain ⟨p1, q1, r1, s1, t1⟩ := hp_all b1 (by omega)
  have z1 : ∀ M, hpA M 0 = 0 := fun M => by unfold hpA; omega
  have z2 : ∀ M, hpB M 0 = 0 := fun M => by unfold hpB; rw [Nat.zero_div, Nat.zero_and]
  have z3 : ∀ M, hpC M 0 = 0 := fun M => by unfold hpC; rw [Nat.zero_div, Nat.add_zero, Nat.zero_and]
  have m1 : (1431655765 : Nat) = 85 + 256 * (85 + 256 * 21845) := by decide
  have m2 : (858993459 : Nat) = 51 + 256 * (51 + 256 * 13107) := by decide
  have m3 : (252645135 : Nat) = 15 + 256 * (15 + 256 * 3855) := by decide
  have eA : hia X = hpA 85 b0 + 256 * hpA 85 b1 := by
    show hpA 1431655765 X = _
    rw [m1, hX', hpA_b (by omega), hpA_b (by omega), z1, Nat.mul_zero, Nat.add_zero]
  have eB : hib (hia X) = hpB 51 (hpA 85 b0) + 256 * hpB 51 (hpA 85 b1) := by
    rw [eA]
    show hpB 858993459 _ = _
    have e : hpA 85 b0 + 256 * hpA 85 b1 = hpA 85 b0 + 256 * (hpA 85 b1 + 256 * 0) := by omega
    rw [e, m2, hpB_b p0, hpB_b p1, z2, Nat.mul_zero, Nat.add_zero]
  have eC : hic (hib (hia X)) = hpop 8 b0 + 256 * hpop 8 b1 := by
    rw [eB]
    show hpC 252645135 _ = _
    have e : hpB 51 (hpA 85 b0) + 256 * hpB 51 (hpA 85 b1) = hpB 51 (hpA 85 b0) + 256 * (hpB 51 (hpA 85 b1) + 256 * 0) := by omega
    rw [e, m3, hpC_b q0 r0 s0 (by omega), hpC_b q1 r1 s1 (by omega), z3, t0, t1, Nat.mul_zero, Nat.add_zero]
  have a1 := hpop_add 8 12 X
  have a2 := hpop_add 8 4 (X / 2 ^ 8)
  have a3 : hpop 8 (X % 2 ^ 8) = hpop 8 X := hpop_mod 8 X
  have e8 : (2 : Nat) ^ 8 = 256 := rfl
  have e0 : X / 2 ^ 8 / 2 ^ 8 = 0 := by rw [e8]; omega
  rw [e0] at a2
  have h0 : hpop 4 0 = 0 := rfl
  rw [h0, e8, ← hb1] at a2
  rw [e8, ← hb1] at a1
  rw [e8, ← hb0] at a3
  have l0 := hpop_le 8 b0
  have l1 := hpop_le 8 b1
  have esum : hpop 20 X = hpop 8 b0 + hpop 8 b1 := by
    have : hpop (8 + 12) X = hpop 20 X := rfl
    have : hpop (8 + 4) b1 = hpop 12 b1 := rfl
    omega
  refine ⟨by omega, by omega, by omega, ?_, by omega⟩
  rw [esum, eC]
  omega
end
section
/-! the same, 2 -/
theorem hs63 {xs : List Int32} {n : Nat} {Q : hQ} {m : gx_M} {X : Nat} (hX : X < 65536) (h : Q (some (.inl ((hpop 20 X : Nat) : Int))) m) : hxn xs n yp_m63 0 [(0, .inl (X : Int))] [] m Q := by
  obtain ⟨b1, b2, b3, b4, b5⟩ := hi_all X hX
  have la : ∀ X Z : Nat, X < 2 ^ 31 → Z < 2 ^ 31 → gx_and (X : Int) (Z : Int) = ((X &&& Z : Nat) : Int) := fun X Z h1 h2 => hand_nat h1 h2
  have ls : ∀ X y : Nat, X < 2 ^ 31 → y < 32 → hushr (X : Int) (y : Int) = ((X / 2 ^ y : Nat) : Int) := fun X y h1 h2 => hushr_nat h1 h2
  have bound : ∀ X k : Nat, X / k ≤ X := Nat.div_le_self
  refine hx_dn (hr63_0 (hx_dn ?_))
  obtain ⟨A, hA⟩ : ∃ A, A = hia X := ⟨_, rfl⟩
  rw [← hA] at b1 b2 b3 b4 b5
  have eA : gx_w ((X : Int) - gx_and (hushr (X : Int) 1) 1431655765) = (A : Int) := by
    have e1 := ls X 1 (by omega) (by decide)
    have l2 := bound X (2 ^ 1)
    have e2 := la (X / 2 ^ 1) 1431655765 (by omega) (by decide)
    have l1 : (X / 2 ^ 1 &&& 1431655765) ≤ X / 2 ^ 1 := Nat.and_le_left
    have c1 : ((1 : Nat) : Int) = 1 := rfl
    have c2 : ((1431655765 : Nat) : Int) = 1431655765 := rfl
    rw [c1] at e1
    rw [c2] at e2
    have p2 : X / 2 ^ 1 = X / 2 := rfl
    rw [e1, e2]
    rw [p2] at l1 l2 ⊢
    have hA' : A = X - ((X / 2) &&& 1431655765) := hA
    rw [gx_w_id (by omega) (by omega)]
    omega
  rw [eA]
  refine hr63_10 (hx_dn ?_)
  obtain ⟨B, hB⟩ : ∃ B, B = hib A := ⟨_, rfl⟩
  rw [← hB] at b2 b3 b4 b5
  have eB : gx_and (A : Int) 858993459 + gx_and (hushr (A : Int) 2) 858993459 = (B : Int) := by
    have e0 := la A 858993459 (by omega) (by decide)
    have e1 := ls A 2 (by omega) (by decide)
    have e2 := la (A / 2 ^ 2) 858993459 (by have := bound A (2 ^ 2); omega) (by decide)
    have c1 : ((2 : Nat) : Int) = 2 := rfl
    have c2 : ((858993459 : Nat) : Int) = 858993459 := rfl
    rw [c1] at e1
    rw [c2] at e0 e2
    rw [e1, e2, e0]
    have p2 : A / 2 ^ 2 = A / 4 := rfl
    have hB' : B = (A &&& 858993459) + (A / 4 &&& 858993459) := hB
    rw [p2]
    omega
  rw [eB]
  refine hr63_24 (hx_dn ?_)
  obtain ⟨C, hC⟩ : ∃ C, C = hic B := ⟨_, rfl⟩
  rw [← hC] at b3 b4 b5
  have eC : gx_and (gx_w ((B : Int) + hushr (B : Int) 4)) 252645135 = (C : Int) := by
    have e1 := ls B 4 (by omega) (by decide)
    have c1 : ((4 : Nat) : Int) = 4 := rfl
    have c2 : ((252645135 : Nat) : Int) = 252645135 := rfl
    rw [c1] at e1
    have p2 : B / 2 ^ 4 = B / 16 := rfl
    have l2 := bound B 16
    rw [e1, p2, gx_w_id (by omega) (by omega)]
    have e2 := la (B + B / 16) 252645135 (by omega) (by decide)
    rw [c2] at e2
    have e3 : ((B + B / 16 : Nat) : Int) = (B : Int) + ((B / 16 : Nat) : Int) := by omega
    rw [e3] at e2
    rw [e2, hC]
    rfl
  rw [eC]
  have step : ∀ (D k : Nat), D < 2 ^ 30 → k < 32 → gx_w ((D : Int) + hushr (D : Int) (k : Int)) = ((D + D / 2 ^ k : Nat) : Int) := fun D k h1 h2 => by
    rw [ls D k (by omega) h2]
    have := bound D (2 ^ k)
    generalize D / 2 ^ k = z at *
    rw [gx_w_id (by omega) (by omega)]
    omega
  refine hr63_34 (hx_dn ?_)
  have s1 := step C 8 (by omega) (by decide)
  have c8 : ((8 : Nat) : Int) = 8 := rfl
  rw [c8] at s1
  rw [s1]
  have d1 : C + C / 2 ^ 8 = C + C / 256 := rfl
  rw [d1]
  refine hr63_41 (hx_dn ?_)
  obtain ⟨D, hD⟩ : ∃ D, D = C + C / 256 := ⟨_, rfl⟩
  rw [← hD] at b4 b5 ⊢
  have s2 := step D 16 (by omega) (by decide)
  have c16 : ((16 : Nat) : Int) = 16 := rfl
  rw [c16] at s2
  rw [s2]
  have d2 : D + D / 2 ^ 16 = D + D / 65536 := rfl
  rw [d2]
  have hz : D / 65536 = 0 ∨ D / 65536 = 1 := by omega
  refine hr63_48 ?_
  have e1 := la (D + D / 65536) 63 (by omega) (by decide)
  have c63 : ((63 : Nat) : Int) = 63 := rfl
  rw [c63] at e1
  have e2 : (D + D / 65536 &&& 63) = (D + D / 65536) % 64 := Nat.and_two_pow_sub_one_eq_mod _ 6
  have e3 : D / 65536 = 0 := by
    omega
  rw [e3, Nat.add_zero] at e1 e2 ⊢
  rw [e1, e2, b4]
  exact h
end
