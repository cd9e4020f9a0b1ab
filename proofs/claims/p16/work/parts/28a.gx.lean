/-! BY HAND, 2: what a run comes to, over numbers (Int) and a memory that is a function of them; from a place on, with the locals and operands named, it comes to an answer and a memory that Q holds of -/
abbrev gx_V : Type := Int ⊕ Nat
abbrev gx_L : Type := List (Nat × gx_V)
abbrev gx_M : Type := Nat → Nat → Int
abbrev gx_Q : Type := Option Int → gx_M → Prop
def gx_u (m : gx_M) (c k : Nat) (v : Int) : gx_M := fun c' k' => if c' = c ∧ k' = k then v else m c' k'
theorem gx_u_self {m : gx_M} {c k : Nat} {v : Int} : gx_u m c k v c k = v := if_pos ⟨rfl, rfl⟩
theorem gx_u_ne {m : gx_M} {c k : Nat} {v : Int} {c' k' : Nat} (h : ¬ (c' = c ∧ k' = k)) : gx_u m c k v c' k' = m c' k' := if_neg h
def gx_m (w : sx_W) : gx_M := fun c k => (fx_i w c k).toInt
/-- a number as 32 bits hold it -/
def gx_w (x : Int) : Int := (x + 2147483648) % 4294967296 - 2147483648
theorem gx_w_id {x : Int} (h1 : -2147483648 ≤ x) (h2 : x ≤ 2147483647) : gx_w x = x := by unfold gx_w; omega
theorem gx_w_bd (x : Int) : -2147483648 ≤ gx_w x ∧ gx_w x ≤ 2147483647 := by unfold gx_w; omega
theorem gx_bm (x : Int) : x.bmod (2^32) = gx_w x := by
  rw [Int.bmod_def]
  unfold gx_w
  have e : ((2^32 : Nat) : Int) = 4294967296 := by decide
  rw [e]
  split <;> omega
def gx_and (x y : Int) : Int := (Int32.ofInt x &&& Int32.ofInt y).toInt
def gx_or (x y : Int) : Int := (Int32.ofInt x ||| Int32.ofInt y).toInt
def gx_xor (x y : Int) : Int := (Int32.ofInt x ^^^ Int32.ofInt y).toInt
def gx_shl (x y : Int) : Int := (Int32.ofInt x <<< (Int32.ofInt y &&& 31)).toInt
def gx_shr (x y : Int) : Int := (Int32.ofInt x >>> (Int32.ofInt y &&& 31)).toInt
def gx_g (v : gx_V) (u : Value) : Prop := match v with
  | .inl x => ∃ z : Int32, u = .int z ∧ z.toInt = x
  | .inr c => u = .ref c
theorem gx_g_int {x : Int} {u : Value} (h : gx_g (.inl x) u) : ∃ z : Int32, u = .int z ∧ z.toInt = x := h
theorem gx_g_cat {v : gx_V} {u : Value} (h : gx_g v u) : u.category = 1 := by
  cases v with
  | inl x => obtain ⟨z, rfl, -⟩ := h; rfl
  | inr c => cases h; rfl
def gx_hl (lv : sx_L) (L : gx_L) : Prop := ∀ q ∈ L, ∃ u, sx_get lv q.1 = some u ∧ gx_g q.2 u
def gx_hs : List Value → List gx_V → Prop
  | [], [] => True
  | u :: us, v :: vs => gx_g v u ∧ gx_hs us vs
  | _, _ => False
theorem gx_hs1 {us : List Value} {v : gx_V} {vs : List gx_V} (h : gx_hs us (v :: vs)) : ∃ u r, us = u :: r ∧ gx_g v u ∧ gx_hs r vs := by
  cases us with
  | nil => exact h.elim
  | cons u r => exact ⟨u, r, rfl, h.1, h.2⟩
theorem gx_hs0 {us : List Value} (h : gx_hs us []) : us = [] := by
  cases us with
  | nil => rfl
  | cons u r => exact h.elim
theorem gx_hs_len : ∀ {us : List Value} {vs : List gx_V}, gx_hs us vs → us.length = vs.length
  | [], [], _ => rfl
  | u :: us, v :: vs, h => congrArg (· + 1) (gx_hs_len h.2)
  | [], _ :: _, h => h.elim
  | _ :: _, [], h => h.elim
theorem gx_hs_csum : ∀ {us : List Value} {vs : List gx_V}, gx_hs us vs → sx_csum us = vs.length
  | [], [], _ => rfl
  | u :: us, v :: vs, h => by
    show (List.map (fun v => v.category) (u :: us)).sum = _
    rw [List.map_cons, List.sum_cons, gx_g_cat h.1, List.length_cons]
    have : (List.map (fun v => v.category) us).sum = vs.length := gx_hs_csum h.2
    omega
  | [], _ :: _, h => h.elim
  | _ :: _, [], h => h.elim
theorem gx_hs_app : ∀ {us : List Value} {vs ws : List gx_V}, gx_hs us (vs ++ ws) → gx_hs (us.take vs.length) vs ∧ gx_hs (us.drop vs.length) ws
  | us, [], ws, h => ⟨trivial, h⟩
  | us, v :: vs, ws, h => by
    obtain ⟨u, r, rfl, h1, h2⟩ := gx_hs1 h
    obtain ⟨h3, h4⟩ := gx_hs_app (vs := vs) (ws := ws) h2
    exact ⟨⟨h1, h3⟩, h4⟩
theorem gx_hs_cat : ∀ {us us' : List Value} {vs ws : List gx_V}, gx_hs us vs → gx_hs us' ws → gx_hs (us ++ us') (vs ++ ws)
  | [], us', [], ws, _, h' => h'
  | u :: us, us', v :: vs, ws, h, h' => ⟨h.1, gx_hs_cat h.2 h'⟩
  | [], _, _ :: _, _, h, _ => h.elim
  | _ :: _, _, [], _, h, _ => h.elim
theorem gx_hs_rev : ∀ {us : List Value} {vs : List gx_V}, gx_hs us vs → gx_hs us.reverse vs.reverse
  | [], [], _ => trivial
  | u :: us, v :: vs, h => by
    rw [List.reverse_cons, List.reverse_cons]
    exact gx_hs_cat (gx_hs_rev h.2) ⟨h.1, trivial⟩
  | [], _ :: _, h => h.elim
  | _ :: _, [], h => h.elim
def gx_args : Nat → List gx_V → gx_L
  | _, [] => []
  | i, v :: vs => (i, v) :: gx_args (i + 1) vs
theorem gx_args_ge : ∀ {vs : List gx_V} {i : Nat} {q : Nat × gx_V}, q ∈ gx_args i vs → i ≤ q.1
  | [], i, q, h => by cases h
  | v :: vs, i, q, h => by
    rcases List.mem_cons.mp h with rfl | h
    · exact Nat.le_refl _
    · have := gx_args_ge h; omega
theorem gx_args_ok : ∀ {us : List Value} {vs : List gx_V} (i : Nat), gx_hs us vs → gx_hl (lv_args i us) (gx_args i vs)
  | [], [], i, _ => fun q hq => by cases hq
  | u :: us, v :: vs, i, h => by
    have hc := gx_g_cat h.1
    intro q hq
    unfold lv_args
    rw [if_neg (by rw [hc]; decide)]
    rcases List.mem_cons.mp hq with rfl | hq
    · exact ⟨u, by unfold sx_get; simp, h.1⟩
    · obtain ⟨x, h1, h2⟩ := gx_args_ok (i + 1) h.2 q hq
      have hge := gx_args_ge hq
      refine ⟨x, ?_, h2⟩
      unfold sx_get at h1 ⊢
      rw [List.find?_cons]
      have : ((i, u).1 == q.1) = false := by simp; omega
      rw [this]
      exact h1
  | [], _ :: _, _, h => h.elim
  | _ :: _, [], _, h => h.elim
/-- what a world holds beside numbers stays -/
def gx_rd (w : sx_W) (c k : Nat) : Option Value := (w[c]?).bind (fun x => x.2[k]?)
def gx_same (w0 w : sx_W) : Prop := ∀ c k, gx_rd w c k = gx_rd w0 c k ∨ ∃ x y : Int32, gx_rd w0 c k = some (.int x) ∧ gx_rd w c k = some (.int y)
theorem gx_same.rf {w : sx_W} : gx_same w w := fun _ _ => .inl rfl
theorem gx_same.tr {w0 w1 w2 : sx_W} (h : gx_same w0 w1) (h' : gx_same w1 w2) : gx_same w0 w2 := by
  intro c k
  rcases h c k with h1 | ⟨x, y, h1, h2⟩
  · rcases h' c k with h3 | ⟨x', y', h3, h4⟩
    · exact .inl (h3.trans h1)
    · exact .inr ⟨x', y', h1 ▸ h3, h4⟩
  · rcases h' c k with h3 | ⟨x', y', h3, h4⟩
    · exact .inr ⟨x, y, h1, h3.trans h2⟩
    · exact .inr ⟨x, y', h1, h4⟩
theorem gx_rd_i {w : sx_W} {c k : Nat} {x : Int32} (h : gx_rd w c k = some (.int x)) : fx_i w c k = x := by
  unfold gx_rd at h
  unfold fx_i
  rw [h]
theorem gx_same.eq {w0 w : sx_W} (h : gx_same w0 w) {c k : Nat} (he : gx_m w c k = gx_m w0 c k) : gx_rd w c k = gx_rd w0 c k := by
  rcases h c k with h | ⟨x, y, h1, h2⟩
  · exact h
  · unfold gx_m at he
    rw [gx_rd_i h1, gx_rd_i h2] at he
    rw [h1, h2, Int32.toInt_inj.mp he]
def gx_in (w0 w : sx_W) : Prop := bx_in fx_S w ∧ gx_same w0 w
def gx_ro (r : Option Int) (v : Option Value) : Prop := match r, v with
  | none, none => True
  | some x, some u => gx_g (.inl x) u
  | _, _ => False
def gx_rs : Option Int → List gx_V
  | none => []
  | some x => [.inl x]
theorem gx_ro_hs {r : Option Int} {v : Option Value} (h : gx_ro r v) : gx_hs v.toList (gx_rs r) := by
  cases r <;> cases v
  · trivial
  · exact h.elim
  · exact h.elim
  · exact ⟨h, trivial⟩
noncomputable def gx_to (xs : List Int32) (w0 : sx_W) (d : Nat) (M : sx_M) (pc : Nat) (L : gx_L) (st : List gx_V) (m : gx_M) (Q : gx_Q) : Prop :=
  ∀ (lv : sx_L) (sv : List Value) (w : sx_W), gx_hl lv L → gx_hs sv st → gx_in w0 w → gx_m w = m → ∃ (o : sx_O) (r : Option Int), sx_rn yp_P xs d M pc lv sv w o ∧ gx_in w0 o.2 ∧ gx_ro r o.1 ∧ Q r (gx_m o.2)
section GXB
variable {xs : List Int32} {w0 : sx_W} {d : Nat} {M : sx_M} {pc : Nat} {L : gx_L} {st : List gx_V} {m : gx_M} {Q : gx_Q}
theorem gx_to_mono {Q' : gx_Q} (h : gx_to xs w0 d M pc L st m Q) (hq : ∀ r m', Q r m' → Q' r m') : gx_to xs w0 d M pc L st m Q' := by
  intro lv sv w h1 h2 h3 h4
  obtain ⟨o, r, g1, g2, g3, g4⟩ := h lv sv w h1 h2 h3 h4
  exact ⟨o, r, g1, g2, g3, hq _ _ g4⟩
theorem gx_to_up {d' : Nat} (hd : d ≤ d') (h : gx_to xs w0 d M pc L st m Q) : gx_to xs w0 d' M pc L st m Q := by
  intro lv sv w h1 h2 h3 h4
  obtain ⟨o, r, g1, g2, g3, g4⟩ := h lv sv w h1 h2 h3 h4
  exact ⟨o, r, sx_rn_up hd g1, g2, g3, g4⟩
def gx_get : gx_L → Nat → Option gx_V
  | [], _ => none
  | q :: r, i => if q.1 = i then some q.2 else gx_get r i
def gx_put : gx_L → Nat → gx_V → gx_L
  | [], i, v => [(i, v)]
  | q :: r, i, v => if q.1 = i then (i, v) :: r.filter (fun q => !decide (q.1 = i)) else q :: gx_put r i v
theorem gx_get_mem : ∀ {L : gx_L} {i : Nat} {v : gx_V}, gx_get L i = some v → (i, v) ∈ L
  | [], _, _, h => by cases h
  | q :: r, i, v, h => by
    unfold gx_get at h
    split at h
    · rename_i e
      cases h
      rw [← e]
      exact List.mem_cons_self
    · exact List.mem_cons_of_mem _ (gx_get_mem h)
theorem gx_put_mem : ∀ {L : gx_L} {i : Nat} {v : gx_V} {q : Nat × gx_V}, q ∈ gx_put L i v → q = (i, v) ∨ (q ∈ L ∧ q.1 ≠ i)
  | [], i, v, q, h => by
    rw [gx_put, List.mem_singleton] at h
    exact .inl h
  | p :: r, i, v, q, h => by
    unfold gx_put at h
    split at h
    · rcases List.mem_cons.mp h with h | h
      · exact .inl h
      · obtain ⟨h1, h2⟩ := List.mem_filter.mp h
        rw [Bool.not_eq_true', decide_eq_false_iff_not] at h2
        exact .inr ⟨List.mem_cons_of_mem _ h1, h2⟩
    · rename_i hne
      rcases List.mem_cons.mp h with rfl | h
      · exact .inr ⟨List.mem_cons_self, hne⟩
      · rcases gx_put_mem h with h | h
        · exact .inl h
        · exact .inr ⟨List.mem_cons_of_mem _ h.1, h.2⟩
theorem gx_hl_set {lv : sx_L} {L : gx_L} {i : Nat} {v : gx_V} {u : Value} (h : gx_hl lv L) (hv : gx_g v u) : gx_hl (sx_set lv i u) (gx_put L i v) := by
  intro q hq
  rcases gx_put_mem hq with rfl | ⟨hm, hne⟩
  · exact ⟨u, sx_get_self _ _ _, hv⟩
  · obtain ⟨x, h1, h2⟩ := h q hm
    refine ⟨x, sx_get_keep hne h1 ?_, h2⟩
    simp only [Bool.and_eq_true, Bool.not_eq_true', beq_eq_false_iff_ne, ne_eq, Bool.and_eq_false_iff]
    exact ⟨hne, .inr (by rw [gx_g_cat h2]; decide)⟩
theorem gx_hl_get {lv : sx_L} {L : gx_L} {i : Nat} {v : gx_V} (h : gx_hl lv L) (hg : gx_get L i = some v) : ∃ u, sx_get lv i = some u ∧ gx_g v u := h _ (gx_get_mem hg)
theorem gx_to_sub {L' : gx_L} (hs : ∀ q ∈ L', q ∈ L) (h : gx_to xs w0 d M pc L' st m Q) : gx_to xs w0 d M pc L st m Q :=
  fun lv sv w h1 h2 h3 h4 => h lv sv w (fun q hq => h1 q (hs q hq)) h2 h3 h4
/-- with some of the locals alone -/
def gx_pick (L : gx_L) : List Nat → gx_L
  | [] => []
  | i :: r => match gx_get L i with
    | some v => (i, v) :: gx_pick L r
    | none => gx_pick L r
theorem gx_pick_mem {L : gx_L} : ∀ {is : List Nat} {q : Nat × gx_V}, q ∈ gx_pick L is → q ∈ L
  | [], q, h => by cases h
  | i :: r, q, h => by
    unfold gx_pick at h
    split at h
    · rename_i v hv
      rcases List.mem_cons.mp h with rfl | h
      · exact gx_get_mem hv
      · exact gx_pick_mem h
    · exact gx_pick_mem h
theorem gx_to_pick (is : List Nat) (h : gx_to xs w0 d M pc (gx_pick L is) st m Q) : gx_to xs w0 d M pc L st m Q := gx_to_sub (fun _ hq => gx_pick_mem hq) h
end GXB
