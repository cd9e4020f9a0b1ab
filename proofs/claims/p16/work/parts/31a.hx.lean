/-! PARTIAL RUNS, 1: what a run that ends comes to, over numbers (Int) and a memory that is a function; with longs, the script, rows copied -/
abbrev hV : Type := Int ⊕ (Nat ⊕ Int)
abbrev hLs : Type := List (Nat × hV)
abbrev hQ : Type := Option hV → gx_M → Prop
abbrev hR : Type := hLs × List hV × gx_M
def hval : Value → Int
  | .int x => x.toInt
  | .long x => x.toInt
  | _ => 0
def hm (w : sx_W) : gx_M := fun c k => match gx_rd w c k with
  | some v => hval v
  | none => 0
def hg (v : hV) (u : Value) : Prop := match v with
  | .inl x => ∃ z : Int32, u = .int z ∧ z.toInt = x
  | .inr (.inl c) => (c = 100000 ∧ ∃ k, u = .retAddr k) ∨ (c ≠ 100000 ∧ u = .ref c)
  | .inr (.inr x) => ∃ z : Int64, u = .long z ∧ z.toInt = x
def hcat (v : hV) : Nat := match v with
  | .inl _ => 1
  | .inr (.inl _) => 1
  | .inr (.inr _) => 2
theorem hg_int {x : Int} {u : Value} (h : hg (.inl x) u) : ∃ z : Int32, u = .int z ∧ z.toInt = x := h
theorem hg_long {x : Int} {u : Value} (h : hg (.inr (.inr x)) u) : ∃ z : Int64, u = .long z ∧ z.toInt = x := h
theorem hg_ref {c : Nat} {u : Value} (h : hg (.inr (.inl c)) u) : (c = 100000 ∧ ∃ k, u = .retAddr k) ∨ (c ≠ 100000 ∧ u = .ref c) := h
theorem hg_cat {v : hV} {u : Value} (h : hg v u) : u.category = hcat v := by
  rcases v with x | c | x
  · obtain ⟨z, rfl, -⟩ := h; rfl
  · rcases h with ⟨-, k, rfl⟩ | ⟨-, rfl⟩ <;> rfl
  · obtain ⟨z, rfl, -⟩ := h; rfl
theorem hg_val {v : hV} {u : Value} (h : hg v u) : (match v with | .inl x => hval u = x | .inr (.inl _) => True | .inr (.inr x) => hval u = x) := by
  rcases v with x | c | x
  · obtain ⟨z, rfl, rfl⟩ := h; rfl
  · trivial
  · obtain ⟨z, rfl, rfl⟩ := h; rfl
def hl (lv : sx_L) (L : hLs) : Prop := ∀ q ∈ L, ∃ u, sx_get lv q.1 = some u ∧ hg q.2 u
def hs : List Value → List hV → Prop
  | [], [] => True
  | u :: us, v :: vs => hg v u ∧ hs us vs
  | _, _ => False
theorem hs1 {us : List Value} {v : hV} {vs : List hV} (h : hs us (v :: vs)) : ∃ u r, us = u :: r ∧ hg v u ∧ hs r vs := by
  cases us with
  | nil => exact h.elim
  | cons u r => exact ⟨u, r, rfl, h.1, h.2⟩
theorem hs0 {us : List Value} (h : hs us []) : us = [] := by
  cases us with
  | nil => rfl
  | cons u r => exact h.elim
theorem hs_len : ∀ {us : List Value} {vs : List hV}, hs us vs → us.length = vs.length
  | [], [], _ => rfl
  | u :: us, v :: vs, h => congrArg (· + 1) (hs_len h.2)
  | [], _ :: _, h => h.elim
  | _ :: _, [], h => h.elim
theorem hs_app : ∀ {us : List Value} {vs ws : List hV}, hs us (vs ++ ws) → hs (us.take vs.length) vs ∧ hs (us.drop vs.length) ws
  | us, [], ws, h => ⟨trivial, h⟩
  | us, v :: vs, ws, h => by
    obtain ⟨u, r, rfl, h1, h2⟩ := hs1 h
    obtain ⟨h3, h4⟩ := hs_app (vs := vs) (ws := ws) h2
    exact ⟨⟨h1, h3⟩, h4⟩
theorem hs_cat : ∀ {us us' : List Value} {vs ws : List hV}, hs us vs → hs us' ws → hs (us ++ us') (vs ++ ws)
  | [], us', [], ws, _, h' => h'
  | u :: us, us', v :: vs, ws, h, h' => ⟨h.1, hs_cat h.2 h'⟩
  | [], _, _ :: _, _, h, _ => h.elim
  | _ :: _, _, [], _, h, _ => h.elim
theorem hs_rev : ∀ {us : List Value} {vs : List hV}, hs us vs → hs us.reverse vs.reverse
  | [], [], _ => trivial
  | u :: us, v :: vs, h => by
    rw [List.reverse_cons, List.reverse_cons]
    exact hs_cat (hs_rev h.2) ⟨h.1, trivial⟩
  | [], _ :: _, h => h.elim
  | _ :: _, [], h => h.elim
def hargs : Nat → List hV → hLs
  | _, [] => []
  | i, v :: vs => (i, v) :: hargs (i + hcat v) vs
theorem hcat_pos (v : hV) : 1 ≤ hcat v := by rcases v with x | c | x <;> exact Nat.le_of_ble_eq_true rfl
theorem hargs_ge : ∀ {vs : List hV} {i : Nat} {q : Nat × hV}, q ∈ hargs i vs → i ≤ q.1
  | [], i, q, h => by cases h
  | v :: vs, i, q, h => by
    rcases List.mem_cons.mp h with rfl | h
    · exact Nat.le_refl _
    · have := hargs_ge h
      have := hcat_pos v
      omega
theorem hargs_ok : ∀ {us : List Value} {vs : List hV} (i : Nat), hs us vs → hl (lv_args i us) (hargs i vs)
  | [], [], i, _ => fun q hq => by cases hq
  | u :: us, v :: vs, i, h => by
    have hc := hg_cat h.1
    have hi : (if u.category = 2 then i + 2 else i + 1) = i + hcat v := by
      rw [hc]
      rcases v with x | c | x <;> rfl
    intro q hq
    unfold lv_args
    rw [hi]
    rcases List.mem_cons.mp hq with rfl | hq
    · exact ⟨u, sx_get_self _ _ _, h.1⟩
    · obtain ⟨x, h1, h2⟩ := hargs_ok (i + hcat v) h.2 q hq
      have hge := hargs_ge hq
      have := hcat_pos v
      refine ⟨x, ?_, h2⟩
      unfold sx_get at h1 ⊢
      rw [List.find?_cons]
      have : ((i, u).1 == q.1) = false := by simp; omega
      rw [this]
      exact h1
  | [], _ :: _, _, h => h.elim
  | _ :: _, [], _, h => h.elim
def hget : hLs → Nat → Option hV
  | [], _ => none
  | q :: r, i => if q.1 = i then some q.2 else hget r i
def hput0 : hLs → Nat → hV → hLs
  | [], i, v => [(i, v)]
  | q :: r, i, v => if q.1 = i then (i, v) :: r.filter (fun q => !decide (q.1 = i)) else q :: hput0 r i v
def hkill (i : Nat) (v : hV) (q : Nat × hV) : Bool := (decide (q.1 + 1 = i) && decide (hcat q.2 = 2)) || (decide (hcat v = 2) && decide (q.1 = i + 1))
def hput (L : hLs) (i : Nat) (v : hV) : hLs := hput0 (L.filter (fun q => !(hkill i v q))) i v
theorem hget_mem : ∀ {L : hLs} {i : Nat} {v : hV}, hget L i = some v → (i, v) ∈ L
  | [], _, _, h => by cases h
  | q :: r, i, v, h => by
    unfold hget at h
    split at h
    · rename_i e
      cases h
      rw [← e]
      exact List.mem_cons_self
    · exact List.mem_cons_of_mem _ (hget_mem h)
theorem hput0_mem : ∀ {L : hLs} {i : Nat} {v : hV} {q : Nat × hV}, q ∈ hput0 L i v → q = (i, v) ∨ (q ∈ L ∧ q.1 ≠ i)
  | [], i, v, q, h => by
    rw [hput0, List.mem_singleton] at h
    exact .inl h
  | p :: r, i, v, q, h => by
    unfold hput0 at h
    split at h
    · rcases List.mem_cons.mp h with h | h
      · exact .inl h
      · obtain ⟨h1, h2⟩ := List.mem_filter.mp h
        rw [Bool.not_eq_true', decide_eq_false_iff_not] at h2
        exact .inr ⟨List.mem_cons_of_mem _ h1, h2⟩
    · rename_i hne
      rcases List.mem_cons.mp h with rfl | h
      · exact .inr ⟨List.mem_cons_self, hne⟩
      · rcases hput0_mem h with h | h
        · exact .inl h
        · exact .inr ⟨List.mem_cons_of_mem _ h.1, h.2⟩
theorem hput_mem {L : hLs} {i : Nat} {v : hV} {q : Nat × hV} (h : q ∈ hput L i v) : q = (i, v) ∨ (q ∈ L ∧ q.1 ≠ i ∧ hkill i v q = false) := by
  rcases hput0_mem h with h | ⟨h1, h2⟩
  · exact .inl h
  · obtain ⟨h3, h4⟩ := List.mem_filter.mp h1
    rw [Bool.not_eq_true'] at h4
    exact .inr ⟨h3, h2, h4⟩
theorem hl_set {lv : sx_L} {L : hLs} {i : Nat} {v : hV} {u : Value} (h : hl lv L) (hv : hg v u) : hl (sx_set lv i u) (hput L i v) := by
  intro q hq
  rcases hput_mem hq with rfl | ⟨hm, hne, hk⟩
  · exact ⟨u, sx_get_self _ _ _, hv⟩
  · obtain ⟨x, h1, h2⟩ := h q hm
    refine ⟨x, sx_get_keep hne h1 ?_, h2⟩
    unfold hkill at hk
    rw [Bool.or_eq_false_iff, Bool.and_eq_false_iff, decide_eq_false_iff_not, decide_eq_false_iff_not] at hk
    simp only [Bool.and_eq_true, Bool.not_eq_true', beq_eq_false_iff_ne, ne_eq, Bool.and_eq_false_iff]
    rw [hg_cat h2]
    exact ⟨hne, hk.1⟩
theorem hl_set2 {lv : sx_L} {L : hLs} {i : Nat} {v : hV} {u : Value} (h : hl lv L) (hv : hg v u) (h2c : hcat v = 2) : hl (sx_set2 lv i u) (hput L i v) := by
  intro q hq
  rcases hput_mem hq with rfl | ⟨hm, hne, hk⟩
  · exact ⟨u, sx_get_self _ _ _, hv⟩
  · obtain ⟨x, h1, h2⟩ := h q hm
    refine ⟨x, sx_get_keep hne h1 ?_, h2⟩
    unfold hkill at hk
    rw [Bool.or_eq_false_iff, Bool.and_eq_false_iff, Bool.and_eq_false_iff, decide_eq_false_iff_not, decide_eq_false_iff_not, decide_eq_false_iff_not, decide_eq_false_iff_not] at hk
    simp only [Bool.and_eq_true, Bool.not_eq_true', beq_eq_false_iff_ne, ne_eq, Bool.and_eq_false_iff]
    rw [hg_cat h2]
    exact ⟨hne, hk.2.resolve_left (fun e => e h2c), hk.1⟩
theorem hl_get {lv : sx_L} {L : hLs} {i : Nat} {v : hV} (h : hl lv L) (hg' : hget L i = some v) : ∃ u, sx_get lv i = some u ∧ hg v u := h _ (hget_mem hg')
def hpick (L : hLs) : List Nat → hLs
  | [] => []
  | i :: r => match hget L i with
    | some v => (i, v) :: hpick L r
    | none => hpick L r
theorem hpick_mem {L : hLs} : ∀ {is : List Nat} {q : Nat × hV}, q ∈ hpick L is → q ∈ L
  | [], q, h => by cases h
  | i :: r, q, h => by
    unfold hpick at h
    split at h
    · rename_i v hv
      rcases List.mem_cons.mp h with rfl | h
      · exact hget_mem hv
      · exact hpick_mem h
    · exact hpick_mem h
/-! the world -/
theorem hm_rd {w : sx_W} {c k : Nat} {v : Value} (h : gx_rd w c k = some v) : hm w c k = hval v := by
  unfold hm
  rw [h]
theorem hrd_at {w : sx_W} {c t k : Nat} {vs : List Value} {v : Value} (h : w[c]? = some (t, vs)) (hk : vs[k]? = some v) : gx_rd w c k = some v := by
  unfold gx_rd
  rw [h]
  exact hk
theorem hset_in {S : ax_W} {w : sx_W} {c t k : Nat} {r : ax_A} {a : ax_V} {v : Value} {vs : List Value} (hw : bx_in S w) (hS : S[c]? = some (t, r)) (hk : ax_nth r k = some a) (h1 : w[c]? = some (t, vs)) (hv : ax_g [] a v) : bx_in S (w.set c (t, vs.set k v)) := by
  obtain ⟨vs0, g1, g2, g3⟩ := hw.2 _ _ _ hS
  rw [h1] at g1
  cases g1
  have hcl : c < w.length := (List.getElem?_eq_some_iff.mp h1).1
  refine ⟨by rw [List.length_set]; exact hw.1, fun c' t' r' hS' => ?_⟩
  by_cases hcc : c' = c
  · subst hcc
    rw [hS] at hS'
    cases hS'
    refine ⟨_, List.getElem?_set_self hcl, by rw [List.length_set]; exact g2, fun j b y hb hy => ?_⟩
    by_cases hjk : j = k
    · subst hjk
      have hl := fx_nth_lt r j a hk
      rw [List.getElem?_set_self (by omega)] at hy
      cases hy
      rw [hk] at hb
      cases hb
      exact hv
    · rw [List.getElem?_set_ne (fun h => hjk h.symm)] at hy
      exact g3 j b y hb hy
  · rw [List.getElem?_set_ne (fun h => hcc h.symm)]
    exact hw.2 c' t' r' hS'
theorem hset_m {w : sx_W} {c t k : Nat} {vs : List Value} {v : Value} (h1 : w[c]? = some (t, vs)) (hk : k < vs.length) : hm (w.set c (t, vs.set k v)) = gx_u (hm w) c k (hval v) := by
  have hcl : c < w.length := (List.getElem?_eq_some_iff.mp h1).1
  funext c' k'
  unfold gx_u
  by_cases hcc : c' = c
  · subst hcc
    by_cases hkk : k' = k
    · subst hkk
      rw [if_pos ⟨rfl, rfl⟩]
      exact hm_rd (hrd_at (List.getElem?_set_self hcl) (List.getElem?_set_self hk))
    · rw [if_neg (fun h => hkk h.2)]
      unfold hm gx_rd
      rw [List.getElem?_set_self hcl, h1]
      show (match (vs.set k v)[k']? with | some v => hval v | none => 0) = (match vs[k']? with | some v => hval v | none => 0)
      rw [List.getElem?_set_ne (fun h => hkk h.symm)]
  · rw [if_neg (fun h => hcc h.1)]
    unfold hm gx_rd
    rw [List.getElem?_set_ne (fun h => hcc h.symm)]
def hcopy (m : gx_M) (a0 sp a1 dp n : Nat) : gx_M := fun c k => if c = a1 ∧ dp ≤ k ∧ k < dp + n then m a0 (k - dp + sp) else m c k
theorem hcopy_get {f g : List Value} {sp dp n k : Nat} (h1 : sp + n ≤ f.length) (h2 : dp + n ≤ g.length) : (g.take dp ++ ((f.drop sp).take n ++ g.drop (dp + n)))[k]? = if dp ≤ k ∧ k < dp + n then f[k - dp + sp]? else g[k]? := by
  have e1 : (g.take dp).length = dp := by rw [List.length_take]; omega
  have e2 : ((f.drop sp).take n).length = n := by rw [List.length_take, List.length_drop]; omega
  by_cases c1 : k < dp
  · rw [List.getElem?_append_left (by omega), if_neg (by omega), List.getElem?_take_of_lt c1]
  · rw [List.getElem?_append_right (by omega), e1]
    by_cases c2 : k < dp + n
    · rw [if_pos ⟨by omega, c2⟩, List.getElem?_append_left (by omega), List.getElem?_take_of_lt (by omega), List.getElem?_drop]
      congr 1
      omega
    · rw [if_neg (by omega), List.getElem?_append_right (by omega), e2, List.getElem?_drop]
      congr 1
      omega
theorem hcopy_ok {w : sx_W} {a0 a1 sp dp n : Nat} {r0 r1 : ax_A} {f g : List Value} (hw : bx_in fx_S w) (hS0 : fx_S[a0]? = some (100, r0)) (hS1 : fx_S[a1]? = some (100, r1)) (ha0 : fx_all r0 = true) (ha1 : fx_all r1 = true) (hf : w[a0]? = some (100, f)) (hg' : w[a1]? = some (100, g)) (h1 : sp + n ≤ f.length) (h2 : dp + n ≤ g.length) :
    bx_in fx_S (w.set a1 (100, g.take dp ++ ((f.drop sp).take n ++ g.drop (dp + n)))) ∧ hm (w.set a1 (100, g.take dp ++ ((f.drop sp).take n ++ g.drop (dp + n)))) = hcopy (hm w) a0 sp a1 dp n := by
  have hcl : a1 < w.length := (List.getElem?_eq_some_iff.mp hg').1
  have hlen : (g.take dp ++ ((f.drop sp).take n ++ g.drop (dp + n))).length = g.length := by
    rw [List.length_append, List.length_append, List.length_take, List.length_take, List.length_drop, List.length_drop]
    omega
  obtain ⟨f', u1, u2, u3⟩ := hw.2 _ _ _ hS0
  rw [hf] at u1
  cases u1
  obtain ⟨g', v1, v2, v3⟩ := hw.2 _ _ _ hS1
  rw [hg'] at v1
  cases v1
  refine ⟨⟨by rw [List.length_set]; exact hw.1, fun c' t' r' hS' => ?_⟩, ?_⟩
  · by_cases hcc : c' = a1
    · subst hcc
      rw [hS1] at hS'
      cases hS'
      refine ⟨_, List.getElem?_set_self hcl, by rw [hlen]; exact v2, fun j b y hb hy => ?_⟩
      rw [hcopy_get h1 h2] at hy
      have hjl := fx_nth_lt r1 j b hb
      have hbt : b = ax_top := by
        have := fx_all_nth r1 j ha1 hjl
        rw [this] at hb
        cases hb
        rfl
      split at hy
      · have hj2 : j - dp + sp < f.length := (List.getElem?_eq_some_iff.mp hy).1
        have := u3 (j - dp + sp) ax_top y (fx_all_nth r0 _ ha0 (by omega)) hy
        rw [hbt]
        exact this
      · exact v3 j b y hb hy
    · rw [List.getElem?_set_ne (fun h => hcc h.symm)]
      exact hw.2 c' t' r' hS'
  · funext c' k'
    unfold hcopy
    by_cases hcc : c' = a1
    · subst hcc
      unfold hm gx_rd
      rw [List.getElem?_set_self hcl, hf, hg']
      show (match (g.take dp ++ ((f.drop sp).take n ++ g.drop (dp + n)))[k']? with | some v => hval v | none => 0) = if c' = c' ∧ dp ≤ k' ∧ k' < dp + n then (match f[k' - dp + sp]? with | some v => hval v | none => 0) else (match g[k']? with | some v => hval v | none => 0)
      rw [hcopy_get h1 h2]
      by_cases hc : dp ≤ k' ∧ k' < dp + n
      · rw [if_pos hc, if_pos ⟨rfl, hc⟩]
      · rw [if_neg hc, if_neg (fun h => hc h.2)]
    · rw [if_neg (fun h => hcc h.1)]
      unfold hm gx_rd
      rw [List.getElem?_set_ne (fun h => hcc h.symm)]
