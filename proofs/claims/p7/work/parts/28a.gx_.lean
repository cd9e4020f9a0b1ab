section
/-! BY HAND, 2: what a run comes to, over numbers (Int) and a memory that is a function of them; from a place on, with the locals and operands named, it comes to an answer and a memory that Q holds of -/
abbrev gx_V : Type := Int ⊕ Nat
abbrev gx_L : Type := List (Nat × gx_V)
abbrev gx_M : Type := Nat → Nat → Int
abbrev gx_Q : Type := Option Int → gx_M → Prop
def gx_u (m : gx_M) (c k : Nat) (v : Int) : gx_M := fun c' k' => if c' = c ∧ k' = k then v else m c' k'
theorem gx_u_self {m : gx_M} {c k : Nat} {v : Int} : gx_u m c k v c k = v := if_pos ⟨rfl, rfl⟩
theorem gx_u_ne {m : gx_M} {c k : Nat} {v : Int} {c' k' : Nat} (h : ¬ (c' = c ∧ k' = k)) : gx_u m c k v c' k' = m c' k' := if_neg h
def gx_m (w : sx_W) : gx_M := fun c k => (fx_i w c k).toInt
/-- a number as 32 bits hold it -/
def gx_w (x : Int) : Int := (x + 2147483648) % 4294967296 - 2147483648
theorem gx_w_id {x : Int} (h1 : -2147483648 ≤ x) (h2 : x ≤ 2147483647) : gx_w x = x := by unfold gx_w; omega
theorem gx_w_bd (x : Int) : -2147483648 ≤ gx_w x ∧ gx_w x ≤ 2147483647 := by unfold gx_w; omega
theorem gx_bm (x : Int) : x.bmod (2^32) = gx_w x := by
  rw [Int.bmod_def]
  unfold gx_w
  have e : ((2^32 : Nat) : Int) = 4294967296 := by decide
  rw [e]
  split <;> omega
def gx_and (x y : Int) : Int := (Int32.ofInt x &&& Int32.ofInt y).toInt
def gx_or (x y : Int) : Int := (Int32.ofInt x ||| Int32.ofInt y).toInt
def gx_xor (x y : Int) : Int := (Int32.ofInt x ^^^ Int32.ofInt y).toInt
def gx_shl (x y : Int) : Int := (Int32.ofInt x <<< (Int32.ofInt y &&& 31)).toInt
def gx_shr (x y : Int) : Int := (Int32.ofInt x >>> (Int32.ofInt y &&& 31)).toInt
def gx_g (v : gx_V) (u : Value) : Prop := match v with
  | .inl x => ∃ z : Int32, u = .int z ∧ z.toInt = x
  | .inr c => u = .ref c
theorem gx_g_int {x : Int} {u : Value} (h : gx_g (.inl x) u) : ∃ z : Int32, u = .int z ∧ z.toInt = x := h
theorem gx_g_cat {v : gx_V} {u : Value} (h : gx_g v u) : u.category = 1 := by
  cases v with
  | inl x => obtain ⟨z, rfl, -⟩ := h; rfl
  | inr c => cases h; rfl
def gx_hl (lv : sx_L) (L : gx_L) : Prop := ∀ q ∈ L, ∃ u, sx_get lv q.1 = some u ∧ gx_g q.2 u
def gx_hs : List Value → List gx_V → Prop
  | [], [] => True
  | u :: us, v :: vs => gx_g v u ∧ gx_hs us vs
  | _, _ => False
theorem gx_hs1 {us : List Value} {v : gx_V} {vs : List gx_V} (h : gx_hs us (v :: vs)) : ∃ u r, us = u :: r ∧ gx_g v u ∧ gx_hs r vs := by
  cases us with
  | nil => exact h.elim
  | cons u r => exact ⟨u, r, rfl, h.1, h.2⟩
theorem gx_hs0 {us : List Value} (h : gx_hs us []) : us = [] := by
  cases us with
  | nil => rfl
  | cons u r => exact h.elim
theorem gx_hs_len : ∀ {us : List Value} {vs : List gx_V}, gx_hs us vs → us.length = vs.length
  | [], [], _ => rfl
  | u :: us, v :: vs, h => congrArg (· + 1) (gx_hs_len h.2)
  | [], _ :: _, h => h.elim
  | _ :: _, [], h => h.elim
theorem gx_hs_csum : ∀ {us : List Value} {vs : List gx_V}, gx_hs us vs → sx_csum us = vs.length
  | [], [], _ => rfl
  | u :: us, v :: vs, h => by
    show (List.map (fun v => v.category) (u :: us)).sum = _
    rw [List.map_cons, List.sum_cons, gx_g_cat h.1, List.length_cons]
    have : (List.map (fun v => v.category) us).sum = vs.length := gx_hs_csum h.2
    omega
  | [], _ :: _, h => h.elim
  | _ :: _, [], h => h.elim
theorem gx_hs_app : ∀ {us : List Value} {vs ws : List gx_V}, gx_hs us (vs ++ ws) → gx_hs (us.take vs.length) vs ∧ gx_hs (us.drop vs.length) ws
  | us, [], ws, h => ⟨trivial, h⟩
  | us, v :: vs, ws, h => by
    obtain ⟨u, r, rfl, h1, h2⟩ := gx_hs1 h
    obtain ⟨h3, h4⟩ := gx_hs_app (vs := vs) (ws := ws) h2
    exact ⟨⟨h1, h3⟩, h4⟩
theorem gx_hs_cat : ∀ {us us' : List Value} {vs ws : List gx_V}, gx_hs us vs → gx_hs us' ws → gx_hs (us ++ us') (vs ++ ws)
  | [], us', [], ws, _, h' => h'
  | u :: us, us', v :: vs, ws, h, h' => ⟨h.1, gx_hs_cat h.2 h'⟩
  | [], _, _ :: _, _, h, _ => h.elim
  | _ :: _, _, [], _, h, _ => h.elim
theorem gx_hs_rev : ∀ {us : List Value} {vs : List gx_V}, gx_hs us vs → gx_hs us.reverse vs.reverse
  | [], [], _ => trivial
  | u :: us, v :: vs, h => by
    rw [List.reverse_cons, List.reverse_cons]
    exact gx_hs_cat (gx_hs_rev h.2) ⟨h.1, trivial⟩
  | [], _ :: _, h => h.elim
  | _ :: _, [], h => h.elim
def gx_args : Nat → List gx_V → gx_L
  | _, [] => []
  | i, v :: vs => (i, v) :: gx_args (i + 1) vs
theorem gx_args_ge : ∀ {vs : List gx_V} {i : Nat} {q : Nat × gx_V}, q ∈ gx_args i vs → i ≤ q.1
  | [], i, q, h => by cases h
  | v :: vs, i, q, h => by
    rcases List.mem_cons.mp h with rfl | h
    · exact Nat.le_refl _
    · have := gx_args_ge h; omega
theorem gx_args_ok : ∀ {us : List Value} {vs : List gx_V} (i : Nat), gx_hs us vs → gx_hl (lv_args i us) (gx_args i vs)
  | [], [], i, _ => fun q hq => by cases hq
  | u :: us, v :: vs, i, h => by
    have hc := gx_g_cat h.1
    intro q hq
    unfold lv_args
    rw [if_neg (by rw [hc]; decide)]
    rcases List.mem_cons.mp hq with rfl | hq
    · exact ⟨u, by unfold sx_get; simp, h.1⟩
    · obtain ⟨x, h1, h2⟩ := gx_args_ok (i + 1) h.2 q hq
      have hge := gx_args_ge hq
      refine ⟨x, ?_, h2⟩
      unfold sx_get at h1 ⊢
      rw [List.find?_cons]
      have : ((i, u).1 == q.1) = false := by simp; omega
      rw [this]
      exact h1
  | [], _ :: _, _, h => h.elim
  | _ :: _, [], _, h => h.elim
/-- what a world holds beside numbers stays -/
def gx_rd (w : sx_W) (c k : Nat) : Option Value := (w[c]?).bind (fun x => x.2[k]?)
def gx_same (w0 w : sx_W) : Prop := ∀ c k, gx_rd w c k = gx_rd w0 c k ∨ ∃ x y : Int32, gx_rd w0 c k = some (.int x) ∧ gx_rd w c k = some (.int y)
theorem gx_same.rf {w : sx_W} : gx_same w w := fun _ _ => .inl rfl
theorem gx_same.tr {w0 w1 w2 : sx_W} (h : gx_same w0 w1) (h' : gx_same w1 w2) : gx_same w0 w2 := by
  intro c k
  rcases h c k with h1 | ⟨x, y, h1, h2⟩
  · rcases h' c k with h3 | ⟨x', y', h3, h4⟩
    · exact .inl (h3.trans h1)
    · exact .inr ⟨x', y', h1 ▸ h3, h4⟩
  · rcases h' c k with h3 | ⟨x', y', h3, h4⟩
    · exact .inr ⟨x, y, h1, h3.trans h2⟩
    · exact .inr ⟨x, y', h1, h4⟩
theorem gx_rd_i {w : sx_W} {c k : Nat} {x : Int32} (h : gx_rd w c k = some (.int x)) : fx_i w c k = x := by
  unfold gx_rd at h
  unfold fx_i
  rw [h]
theorem gx_same.eq {w0 w : sx_W} (h : gx_same w0 w) {c k : Nat} (he : gx_m w c k = gx_m w0 c k) : gx_rd w c k = gx_rd w0 c k := by
  rcases h c k with h | ⟨x, y, h1, h2⟩
  · exact h
  · unfold gx_m at he
    rw [gx_rd_i h1, gx_rd_i h2] at he
    rw [h1, h2, Int32.toInt_inj.mp he]
def gx_in (w0 w : sx_W) : Prop := bx_in fx_S w ∧ gx_same w0 w
def gx_ro (r : Option Int) (v : Option Value) : Prop := match r, v with
  | none, none => True
  | some x, some u => gx_g (.inl x) u
  | _, _ => False
def gx_rs : Option Int → List gx_V
  | none => []
  | some x => [.inl x]
theorem gx_ro_hs {r : Option Int} {v : Option Value} (h : gx_ro r v) : gx_hs v.toList (gx_rs r) := by
  cases r <;> cases v
  · trivial
  · exact h.elim
  · exact h.elim
  · exact ⟨h, trivial⟩
noncomputable def gx_to (xs : List Int32) (w0 : sx_W) (d : Nat) (M : sx_M) (pc : Nat) (L : gx_L) (st : List gx_V) (m : gx_M) (Q : gx_Q) : Prop :=
  ∀ (lv : sx_L) (sv : List Value) (w : sx_W), gx_hl lv L → gx_hs sv st → gx_in w0 w → gx_m w = m → ∃ (o : sx_O) (r : Option Int), sx_rn yp_P xs d M pc lv sv w o ∧ gx_in w0 o.2 ∧ gx_ro r o.1 ∧ Q r (gx_m o.2)
section GXB
variable {xs : List Int32} {w0 : sx_W} {d : Nat} {M : sx_M} {pc : Nat} {L : gx_L} {st : List gx_V} {m : gx_M} {Q : gx_Q}
theorem gx_to_mono {Q' : gx_Q} (h : gx_to xs w0 d M pc L st m Q) (hq : ∀ r m', Q r m' → Q' r m') : gx_to xs w0 d M pc L st m Q' := by
  intro lv sv w h1 h2 h3 h4
  obtain ⟨o, r, g1, g2, g3, g4⟩ := h lv sv w h1 h2 h3 h4
  exact ⟨o, r, g1, g2, g3, hq _ _ g4⟩
theorem gx_to_up {d' : Nat} (hd : d ≤ d') (h : gx_to xs w0 d M pc L st m Q) : gx_to xs w0 d' M pc L st m Q := by
  intro lv sv w h1 h2 h3 h4
  obtain ⟨o, r, g1, g2, g3, g4⟩ := h lv sv w h1 h2 h3 h4
  exact ⟨o, r, sx_rn_up hd g1, g2, g3, g4⟩
def gx_get : gx_L → Nat → Option gx_V
  | [], _ => none
  | q :: r, i => if q.1 = i then some q.2 else gx_get r i
def gx_put : gx_L → Nat → gx_V → gx_L
  | [], i, v => [(i, v)]
  | q :: r, i, v => if q.1 = i then (i, v) :: r.filter (fun q => !decide (q.1 = i)) else q :: gx_put r i v
theorem gx_get_mem : ∀ {L : gx_L} {i : Nat} {v : gx_V}, gx_get L i = some v → (i, v) ∈ L
  | [], _, _, h => by cases h
  | q :: r, i, v, h => by
    unfold gx_get at h
    split at h
    · rename_i e
      cases h
      rw [← e]
      exact List.mem_cons_self
    · exact List.mem_cons_of_mem _ (gx_get_mem h)
theorem gx_put_mem : ∀ {L : gx_L} {i : Nat} {v : gx_V} {q : Nat × gx_V}, q ∈ gx_put L i v → q = (i, v) ∨ (q ∈ L ∧ q.1 ≠ i)
  | [], i, v, q, h => by
    rw [gx_put, List.mem_singleton] at h
    exact .inl h
  | p :: r, i, v, q, h => by
    unfold gx_put at h
    split at h
    · rcases List.mem_cons.mp h with h | h
      · exact .inl h
      · obtain ⟨h1, h2⟩ := List.mem_filter.mp h
        rw [Bool.not_eq_true', decide_eq_false_iff_not] at h2
        exact .inr ⟨List.mem_cons_of_mem _ h1, h2⟩
    · rename_i hne
      rcases List.mem_cons.mp h with rfl | h
      · exact .inr ⟨List.mem_cons_self, hne⟩
      · rcases gx_put_mem h with h | h
        · exact .inl h
        · exact .inr ⟨List.mem_cons_of_mem _ h.1, h.2⟩
theorem gx_hl_set {lv : sx_L} {L : gx_L} {i : Nat} {v : gx_V} {u : Value} (h : gx_hl lv L) (hv : gx_g v u) : gx_hl (sx_set lv i u) (gx_put L i v) := by
  intro q hq
  rcases gx_put_mem hq with rfl | ⟨hm, hne⟩
  · exact ⟨u, sx_get_self _ _ _, hv⟩
  · obtain ⟨x, h1, h2⟩ := h q hm
    refine ⟨x, sx_get_keep hne h1 ?_, h2⟩
    simp only [Bool.and_eq_true, Bool.not_eq_true', beq_eq_false_iff_ne, ne_eq, Bool.and_eq_false_iff]
    exact ⟨hne, .inr (by rw [gx_g_cat h2]; decide)⟩
theorem gx_hl_get {lv : sx_L} {L : gx_L} {i : Nat} {v : gx_V} (h : gx_hl lv L) (hg : gx_get L i = some v) : ∃ u, sx_get lv i = some u ∧ gx_g v u := h _ (gx_get_mem hg)
theorem gx_to_sub {L' : gx_L} (hs : ∀ q ∈ L', q ∈ L) (h : gx_to xs w0 d M pc L' st m Q) : gx_to xs w0 d M pc L st m Q :=
  fun lv sv w h1 h2 h3 h4 => h lv sv w (fun q hq => h1 q (hs q hq)) h2 h3 h4
/-- with some of the locals alone -/
def gx_pick (L : gx_L) : List Nat → gx_L
  | [] => []
  | i :: r => match gx_get L i with
    | some v => (i, v) :: gx_pick L r
    | none => gx_pick L r
theorem gx_pick_mem {L : gx_L} : ∀ {is : List Nat} {q : Nat × gx_V}, q ∈ gx_pick L is → q ∈ L
  | [], q, h => by cases h
  | i :: r, q, h => by
    unfold gx_pick at h
    split at h
    · rename_i v hv
      rcases List.mem_cons.mp h with rfl | h
      · exact gx_get_mem hv
      · exact gx_pick_mem h
    · exact gx_pick_mem h
theorem gx_to_pick (is : List Nat) (h : gx_to xs w0 d M pc (gx_pick L is) st m Q) : gx_to xs w0 d M pc L st m Q := gx_to_sub (fun _ hq => gx_pick_mem hq) h
end GXB
end
section
/-! BY HAND, 3: an instruction over numbers, and that it is a step of the simple machine -/
abbrev gx_A : Type := Nat × Nat × Nat
abbrev gx_R : Type := Prop × gx_L × List gx_V × gx_M
def gx_b2 (C : Prop) (L : gx_L) (st : List gx_V) (m : gx_M) (f : Int → Int → Int) : Option gx_R := match st with
  | .inl y :: .inl x :: r => some (C, L, .inl (f x y) :: r, m)
  | _ => none
def gx_ild (C : Prop) (L : gx_L) (st : List gx_V) (m : gx_M) (i : Nat) : Option gx_R := match gx_get L i with
  | some (.inl x) => some (C, L, .inl x :: st, m)
  | _ => none
def gx_ald (C : Prop) (L : gx_L) (st : List gx_V) (m : gx_M) (i : Nat) : Option gx_R := match gx_get L i with
  | some (.inr x) => some (C, L, .inr x :: st, m)
  | _ => none
def gx_sto (C : Prop) (L : gx_L) (st : List gx_V) (m : gx_M) (i : Nat) : Option gx_R := match st with
  | .inl x :: r => some (C, gx_put L i (.inl x), r, m)
  | _ => none
def gx_1 (E : sx_E) (A : gx_A) (C : Prop) (L : gx_L) (st : List gx_V) (m : gx_M) : Option gx_R := match E with
  | (_, I, _, _, k, _, z) => match I with
    | .iconst n => some (C, L, .inl n :: st, m)
    | .bipush n => some (C, L, .inl n :: st, m)
    | .sipush n => some (C, L, .inl n :: st, m)
    | .ldc _ => some (C, L, .inl z :: st, m)
    | .ldc_w _ => some (C, L, .inl z :: st, m)
    | .iload_n i => gx_ild C L st m (i : Nat)
    | .iload i => gx_ild C L st m i
    | .aload_n i => gx_ald C L st m (i : Nat)
    | .istore_n i => gx_sto C L st m (i : Nat)
    | .istore i => gx_sto C L st m i
    | .iinc i n => (match gx_get L i with
      | some (.inl x) => some (C, gx_put L i (.inl (gx_w (x + n))), st, m)
      | _ => none)
    | .iadd => gx_b2 C L st m (fun x y => gx_w (x + y))
    | .isub => gx_b2 C L st m (fun x y => gx_w (x - y))
    | .imul => gx_b2 C L st m (fun x y => gx_w (x * y))
    | .iand => gx_b2 C L st m gx_and
    | .ior => gx_b2 C L st m gx_or
    | .ixor => gx_b2 C L st m gx_xor
    | .ishl => gx_b2 C L st m gx_shl
    | .ishr => gx_b2 C L st m gx_shr
    | .idiv => (match st with
      | .inl y :: .inl x :: r => some (C ∧ y ≠ 0, L, .inl (gx_w (Int.tdiv x y)) :: r, m)
      | _ => none)
    | .irem => (match st with
      | .inl y :: .inl x :: r => some (C ∧ y ≠ 0, L, .inl (Int.tmod x y) :: r, m)
      | _ => none)
    | .dup => (match st with
      | v :: r => some (C, L, v :: v :: r, m)
      | _ => none)
    | .pop => (match st with
      | _ :: r => some (C, L, r, m)
      | _ => none)
    | .getfield _ => (match st with
      | .inr c :: r => cond (Nat.beq c A.2.1) (match A.1 with
        | 0 => some (C, L, .inl (m c k) :: r, m)
        | _ => some (C, L, .inr A.2.2 :: r, m)) none
      | _ => none)
    | .putfield _ => (match st with
      | .inl v :: .inr c :: r => cond (Nat.beq c A.2.1) (some (C, L, r, gx_u m c k v)) none
      | _ => none)
    | .iaload => (match st with
      | .inl i :: .inr c :: r => cond (Nat.beq c A.2.1) (some (C ∧ (0 ≤ i ∧ i < (A.2.2 : Int)), L, .inl (m c i.toNat) :: r, m)) none
      | _ => none)
    | .baload => (match st with
      | .inl i :: .inr c :: r => cond (Nat.beq c A.2.1) (some (C ∧ (0 ≤ i ∧ i < (A.2.2 : Int)), L, .inl (m c i.toNat) :: r, m)) none
      | _ => none)
    | .iastore => (match st with
      | .inl v :: .inl i :: .inr c :: r => cond (Nat.beq c A.2.1) (some (C ∧ (0 ≤ i ∧ i < (A.2.2 : Int)), L, r, gx_u m c i.toNat v)) none
      | _ => none)
    | .goto _ => some (C, L, st, m)
    | _ => none
def gx_okA (nL : Nat) (E : sx_E) (A : gx_A) : Bool := match E with
  | (pc, I, _, a, k, _, z) => match I with
    | .iconst n => decide ((Int32.ofInt n).toInt = n)
    | .bipush n => decide ((Int8.ofInt n).toInt32.toInt = n)
    | .sipush n => decide ((Int16.ofInt n).toInt32.toInt = n)
    | .ldc _ => decide ((Int32.ofInt z).toInt = z)
    | .ldc_w _ => decide ((Int32.ofInt z).toInt = z)
    | .istore_n i => decide ((i : Nat) < nL)
    | .istore i => decide (i < nL)
    | .iinc i n => decide (i < nL) && decide ((Int32.ofInt n).toInt = n)
    | .getfield _ => (match fx_S[A.2.1]? with
      | some (t, r) => decide (t = a) && decide (a < 100) && (match A.1 with
        | 0 => decide (ax_nth r k = some ax_top)
        | _ => decide (ax_nth r k = some (2, (A.2.2 : Int), 0)))
      | none => false)
    | .putfield _ => (match fx_S[A.2.1]? with
      | some (t, r) => decide (t = a) && decide (a < 100) && decide (ax_nth r k = some ax_top) && decide (yp_P.2.2.1 a k = .int)
      | none => false)
    | .iaload => (match fx_S[A.2.1]? with
      | some (t, r) => decide (t = 100) && fx_all r && decide (ax_len r = A.2.2)
      | none => false)
    | .baload => (match fx_S[A.2.1]? with
      | some (t, r) => decide (t = 101) && fx_all r && decide (ax_len r = A.2.2)
      | none => false)
    | .iastore => (match fx_S[A.2.1]? with
      | some (t, r) => decide (t = 100) && fx_all r && decide (ax_len r = A.2.2)
      | none => false)
    | .goto off => decide (0 ≤ (pc : Int) + off)
    | _ => true
def gx_nx (E : sx_E) : Nat := match E with
  | (pc, I, _, _, _, _, _) => match I with
    | .bipush _ => pc + 2
    | .sipush _ => pc + 3
    | .ldc _ => pc + 2
    | .ldc_w _ => pc + 3
    | .iload _ => pc + 2
    | .istore _ => pc + 2
    | .iinc _ _ => pc + 3
    | .getfield _ => pc + 3
    | .putfield _ => pc + 3
    | .goto off => ((pc : Int) + off).toNat
    | _ => pc + 1
theorem gx_b2_inv {C : Prop} {L : gx_L} {st : List gx_V} {m : gx_M} {f : Int → Int → Int} {r : gx_R} (h : gx_b2 C L st m f = some r) : ∃ x y r0, st = .inl y :: .inl x :: r0 ∧ r = (C, L, .inl (f x y) :: r0, m) := by
  unfold gx_b2 at h
  split at h
  · cases h; exact ⟨_, _, _, rfl, rfl⟩
  · cases h
theorem gx_cond {α : Type} {b c : Nat} {x : Option α} {r : α} (h : cond (Nat.beq b c) x none = some r) : b = c ∧ x = some r := by
  cases e : Nat.beq b c with
  | true => rw [e] at h; exact ⟨Nat.eq_of_beq_eq_true e, h⟩
  | false => rw [e] at h; cases h
/-- what is laid into a world -/
theorem gx_put_ok {w0 w : sx_W} {c t k : Nat} {r : ax_A} {v : Int32} (hw : gx_in w0 w) (hS : fx_S[c]? = some (t, r)) (hk : ax_nth r k = some ax_top) : gx_in w0 (fx_p w c k v) ∧ gx_m (fx_p w c k v) = gx_u (gx_m w) c k v.toInt := by
  refine ⟨⟨fx_p_in hw.1 hS hk, fun c' k' => ?_⟩, ?_⟩
  · obtain ⟨vs, u, h1, h2, h3, ⟨z, rfl, -, -⟩, h6⟩ := fx_cell hw.1 hS hk
    have hcl : c < w.length := (List.getElem?_eq_some_iff.mp h1).1
    have hwk : gx_rd w c k = some (.int z) := by unfold gx_rd; rw [h1]; exact h3
    unfold fx_p
    rw [h1]
    dsimp only
    by_cases hcc : c' = c
    · subst hcc
      by_cases hkk : k' = k
      · subst hkk
        have e1 : gx_rd (w.set c' (t, vs.set k' (.int v))) c' k' = some (.int v) := by
          unfold gx_rd
          rw [List.getElem?_set_self hcl]
          exact List.getElem?_set_self h6
        rcases hw.2 c' k' with h | ⟨x, y, g1, g2⟩
        · exact .inr ⟨z, v, h ▸ hwk, e1⟩
        · exact .inr ⟨x, v, g1, e1⟩
      · have e1 : gx_rd (w.set c' (t, vs.set k (.int v))) c' k' = gx_rd w c' k' := by
          unfold gx_rd
          rw [List.getElem?_set_self hcl, h1]
          exact List.getElem?_set_ne (fun h => hkk h.symm)
        rw [e1]
        exact hw.2 c' k'
    · have e1 : gx_rd (w.set c (t, vs.set k (.int v))) c' k' = gx_rd w c' k' := by
        unfold gx_rd
        rw [List.getElem?_set_ne (fun h => hcc h.symm)]
      rw [e1]
      exact hw.2 c' k'
  · funext c' k'
    unfold gx_m gx_u
    rw [fx_i_p hw.1 hS hk]
    split <;> rfl
section GXS
variable {xs : List Int32} {w0 : sx_W} {nL : Nat} {C : Prop} {L : gx_L} {st : List gx_V} {sv : List Value} {m : gx_M} {w : sx_W} {lv : sx_L} {r : gx_R}
def gx_res (xs : List Int32) (w0 : sx_W) (nL : Nat) (E : sx_E) (C : Prop) (sv : List Value) (w : sx_W) (lv : sx_L) (r : gx_R) : Prop := C ∧ ∃ lv' sv' w', sx_step yp_P xs nL E lv sv w = some (gx_nx E, lv', sv', w', 0, 0) ∧ gx_hl lv' r.2.1 ∧ gx_hs sv' r.2.2.1 ∧ gx_in w0 w' ∧ gx_m w' = r.2.2.2
theorem gx_2 {E : sx_E} {f : Int → Int → Int} {g : Int32 → Int32 → Option Int32} (hst : sx_step yp_P xs nL E lv sv w = sx_b2 E.1 lv sv w g) (hn : gx_nx E = E.1 + 1) (hf : ∀ x y : Int32, ∃ z, g x y = some z ∧ z.toInt = f x.toInt y.toInt) (h : gx_b2 C L st m f = some r) (hC : r.1) (hl : gx_hl lv L) (hs : gx_hs sv st) (hw : gx_in w0 w) (hm : gx_m w = m) : gx_res xs w0 nL E C sv w lv r := by
  obtain ⟨x, y, r0, rfl, rfl⟩ := gx_b2_inv h
  obtain ⟨u, s1, rfl, g1, g2⟩ := gx_hs1 hs
  obtain ⟨v, s2, rfl, g3, g4⟩ := gx_hs1 g2
  obtain ⟨b, rfl, rfl⟩ := gx_g_int g1
  obtain ⟨a, rfl, rfl⟩ := gx_g_int g3
  obtain ⟨z, e1, e2⟩ := hf a b
  refine ⟨hC, lv, .int z :: s2, w, ?_, hl, ⟨⟨z, rfl, e2⟩, g4⟩, hw, hm⟩
  rw [hst, hn]
  unfold sx_b2
  dsimp only
  rw [e1]
  rfl
theorem gx_ild_ok {E : sx_E} {i n : Nat} (hn : gx_nx E = E.1 + n) (hst : sx_step yp_P xs nL E lv sv w = sx_ild E.1 n lv sv w i) (h : gx_ild C L st m i = some r) (hC : r.1) (hl : gx_hl lv L) (hs : gx_hs sv st) (hw : gx_in w0 w) (hm : gx_m w = m) : gx_res xs w0 nL E C sv w lv r := by
  unfold gx_ild at h
  split at h
  · rename_i x hv
    cases h
    obtain ⟨u, e1, e2⟩ := gx_hl_get hl hv
    obtain ⟨z, rfl, e3⟩ := gx_g_int e2
    refine ⟨hC, lv, .int z :: sv, w, ?_, hl, ⟨⟨z, rfl, e3⟩, hs⟩, hw, hm⟩
    rw [hst, hn]
    unfold sx_ild
    rw [e1]
  · cases h
theorem gx_ald_ok {E : sx_E} {i n : Nat} (hn : gx_nx E = E.1 + n) (hst : sx_step yp_P xs nL E lv sv w = sx_ald E.1 n lv sv w i) (h : gx_ald C L st m i = some r) (hC : r.1) (hl : gx_hl lv L) (hs : gx_hs sv st) (hw : gx_in w0 w) (hm : gx_m w = m) : gx_res xs w0 nL E C sv w lv r := by
  unfold gx_ald at h
  split at h
  · rename_i x hv
    cases h
    obtain ⟨u, e1, e2⟩ := gx_hl_get hl hv
    have e3 : u = .ref x := e2
    subst e3
    refine ⟨hC, lv, .ref x :: sv, w, ?_, hl, ⟨rfl, hs⟩, hw, hm⟩
    rw [hst, hn]
    unfold sx_ald
    rw [e1]
  · cases h
theorem gx_ist_ok {E : sx_E} {i n : Nat} (hn : gx_nx E = E.1 + n) (hst : sx_step yp_P xs nL E lv sv w = sx_ist E.1 n nL lv sv w i) (hi : i < nL) (h : gx_sto C L st m i = some r) (hC : r.1) (hl : gx_hl lv L) (hs : gx_hs sv st) (hw : gx_in w0 w) (hm : gx_m w = m) : gx_res xs w0 nL E C sv w lv r := by
  unfold gx_sto at h
  split at h
  · rename_i x r0
    cases h
    obtain ⟨u, s1, rfl, g1, g2⟩ := gx_hs1 hs
    obtain ⟨z, rfl, e⟩ := gx_g_int g1
    refine ⟨hC, sx_set lv i (.int z), s1, w, ?_, gx_hl_set hl ⟨z, rfl, e⟩, g2, hw, hm⟩
    rw [hst, hn]
    unfold sx_ist
    dsimp only
    rw [if_pos hi]
  · cases h
theorem gx_aget_ok {E : sx_E} {A : gx_A} {t : Nat} (hn : gx_nx E = E.1 + 1) (hst : sx_step yp_P xs nL E lv sv w = sx_aget E.1 lv sv w xs t) (hA : (match fx_S[A.2.1]? with
      | some (t', r) => decide (t' = t) && fx_all r && decide (ax_len r = A.2.2)
      | none => false) = true) (h : (match st with
      | .inl i :: .inr c :: r => cond (Nat.beq c A.2.1) (some ((C ∧ (0 ≤ i ∧ i < (A.2.2 : Int)), L, .inl (m c i.toNat) :: r, m) : gx_R)) none
      | _ => none) = some r) (hC : r.1) (hl : gx_hl lv L) (hs : gx_hs sv st) (hw : gx_in w0 w) (hm : gx_m w = m) : gx_res xs w0 nL E C sv w lv r := by
  split at h
  · rename_i i c r0
    obtain ⟨rfl, h⟩ := gx_cond h
    cases h
    obtain ⟨hC1, hi1, hi2⟩ := hC
    obtain ⟨u, s1, rfl, g1, g2⟩ := gx_hs1 hs
    obtain ⟨v, s2, rfl, g3, g4⟩ := gx_hs1 g2
    obtain ⟨b, rfl, rfl⟩ := gx_g_int g1
    have e3 : v = .ref A.2.1 := g3
    subst e3
    split at hA
    · rename_i t' q hS
      simp only [Bool.and_eq_true, decide_eq_true_eq] at hA
      obtain ⟨⟨rfl, ha⟩, hlen⟩ := hA
      obtain ⟨vs, h1, h2, h3, h4, -, -⟩ := fx_int hw.1 hS (fx_all_nth q b.toInt.toNat ha (by omega))
      refine ⟨hC1, lv, .int (fx_i w A.2.1 b.toInt.toNat) :: s2, w, ?_, hl, ⟨⟨fx_i w A.2.1 b.toInt.toNat, rfl, by rw [← hm]; rfl⟩, g4⟩, hw, hm⟩
      rw [hst, hn]
      unfold sx_aget
      dsimp only
      rw [h1]
      dsimp only
      rw [if_pos rfl, ax_ix hi1 (by omega)]
      dsimp only
      rw [h3]
    · cases hA
  · cases h
theorem gx_1_ok {E : sx_E} {A : gx_A} (h : gx_1 E A C L st m = some r) (hA : gx_okA nL E A = true) (hC : r.1) (hl : gx_hl lv L) (hs : gx_hs sv st) (hw : gx_in w0 w) (hm : gx_m w = m) : gx_res xs w0 nL E C sv w lv r := by
  obtain ⟨pc, I, len, a, k, q, z⟩ := E
  cases I
  case iconst n =>
    cases h
    exact ⟨hC, lv, _, w, rfl, hl, ⟨⟨_, rfl, of_decide_eq_true hA⟩, hs⟩, hw, hm⟩
  case bipush n =>
    cases h
    exact ⟨hC, lv, _, w, rfl, hl, ⟨⟨_, rfl, of_decide_eq_true hA⟩, hs⟩, hw, hm⟩
  case sipush n =>
    cases h
    exact ⟨hC, lv, _, w, rfl, hl, ⟨⟨_, rfl, of_decide_eq_true hA⟩, hs⟩, hw, hm⟩
  case ldc n =>
    cases h
    exact ⟨hC, lv, _, w, rfl, hl, ⟨⟨_, rfl, of_decide_eq_true hA⟩, hs⟩, hw, hm⟩
  case ldc_w n =>
    cases h
    exact ⟨hC, lv, _, w, rfl, hl, ⟨⟨_, rfl, of_decide_eq_true hA⟩, hs⟩, hw, hm⟩
  case iload_n i => exact gx_ild_ok (n := 1) rfl rfl h hC hl hs hw hm
  case iload i => exact gx_ild_ok (n := 2) rfl rfl h hC hl hs hw hm
  case aload_n i => exact gx_ald_ok (n := 1) rfl rfl h hC hl hs hw hm
  case istore_n i => exact gx_ist_ok (n := 1) rfl rfl (of_decide_eq_true hA) h hC hl hs hw hm
  case istore i => exact gx_ist_ok (n := 2) rfl rfl (of_decide_eq_true hA) h hC hl hs hw hm
  case iinc i n =>
    dsimp only [gx_1] at h
    dsimp only [gx_okA] at hA
    rw [Bool.and_eq_true, decide_eq_true_eq, decide_eq_true_eq] at hA
    split at h
    · rename_i x hx
      cases h
      obtain ⟨u, e1, e2⟩ := gx_hl_get hl hx
      obtain ⟨y, rfl, rfl⟩ := gx_g_int e2
      refine ⟨hC, sx_set lv i (.int (y + Int32.ofInt n)), sv, w, ?_, gx_hl_set hl ⟨_, rfl, ?_⟩, hs, hw, hm⟩
      · show sx_iinc pc nL lv sv w i n = _
        unfold sx_iinc
        rw [e1]
        dsimp only
        rw [if_pos hA.1]
        rfl
      · rw [Int32.toInt_add, hA.2]
        exact gx_bm _
    · cases h
  case iadd => exact gx_2 rfl rfl (fun x y => ⟨_, rfl, by rw [Int32.toInt_add]; exact gx_bm _⟩) h hC hl hs hw hm
  case isub => exact gx_2 rfl rfl (fun x y => ⟨_, rfl, by rw [Int32.toInt_sub]; exact gx_bm _⟩) h hC hl hs hw hm
  case imul => exact gx_2 rfl rfl (fun x y => ⟨_, rfl, by rw [Int32.toInt_mul]; exact gx_bm _⟩) h hC hl hs hw hm
  case iand => exact gx_2 rfl rfl (fun x y => ⟨_, rfl, by unfold gx_and; rw [Int32.ofInt_toInt, Int32.ofInt_toInt]⟩) h hC hl hs hw hm
  case ior => exact gx_2 rfl rfl (fun x y => ⟨_, rfl, by unfold gx_or; rw [Int32.ofInt_toInt, Int32.ofInt_toInt]⟩) h hC hl hs hw hm
  case ixor => exact gx_2 rfl rfl (fun x y => ⟨_, rfl, by unfold gx_xor; rw [Int32.ofInt_toInt, Int32.ofInt_toInt]⟩) h hC hl hs hw hm
  case ishl => exact gx_2 rfl rfl (fun x y => ⟨_, rfl, by unfold gx_shl; rw [Int32.ofInt_toInt, Int32.ofInt_toInt]⟩) h hC hl hs hw hm
  case ishr => exact gx_2 rfl rfl (fun x y => ⟨_, rfl, by unfold gx_shr; rw [Int32.ofInt_toInt, Int32.ofInt_toInt]⟩) h hC hl hs hw hm
  case idiv =>
    dsimp only [gx_1] at h
    split at h
    · rename_i y x r0
      cases h
      obtain ⟨u, s1, rfl, g1, g2⟩ := gx_hs1 hs
      obtain ⟨v, s2, rfl, g3, g4⟩ := gx_hs1 g2
      obtain ⟨b, rfl, rfl⟩ := gx_g_int g1
      obtain ⟨a0, rfl, rfl⟩ := gx_g_int g3
      have hb : b ≠ 0 := fun e => hC.2 (by rw [e]; rfl)
      refine ⟨hC.1, lv, .int (a0 / b) :: s2, w, ?_, hl, ⟨⟨_, rfl, by rw [Int32.toInt_div]; exact gx_bm _⟩, g4⟩, hw, hm⟩
      dsimp only [sx_step]
      unfold sx_b2
      dsimp only
      rw [if_neg hb]
      rfl
    · cases h
  case irem =>
    dsimp only [gx_1] at h
    split at h
    · rename_i y x r0
      cases h
      obtain ⟨u, s1, rfl, g1, g2⟩ := gx_hs1 hs
      obtain ⟨v, s2, rfl, g3, g4⟩ := gx_hs1 g2
      obtain ⟨b, rfl, rfl⟩ := gx_g_int g1
      obtain ⟨a0, rfl, rfl⟩ := gx_g_int g3
      have hb : b ≠ 0 := fun e => hC.2 (by rw [e]; rfl)
      refine ⟨hC.1, lv, .int (a0 - a0 / b * b) :: s2, w, ?_, hl, ⟨⟨_, rfl, bx_rem _ _⟩, g4⟩, hw, hm⟩
      dsimp only [sx_step]
      unfold sx_b2
      dsimp only
      rw [if_neg hb]
      rfl
    · cases h
  case dup =>
    dsimp only [gx_1] at h
    split at h
    · cases h
      obtain ⟨u, s1, rfl, g1, g2⟩ := gx_hs1 hs
      refine ⟨hC, lv, u :: u :: s1, w, ?_, hl, ⟨g1, g1, g2⟩, hw, hm⟩
      dsimp only [sx_step]
      unfold sx_d1
      dsimp only
      rw [if_pos (gx_g_cat g1)]
      rfl
    · cases h
  case pop =>
    dsimp only [gx_1] at h
    split at h
    · cases h
      obtain ⟨u, s1, rfl, g1, g2⟩ := gx_hs1 hs
      refine ⟨hC, lv, s1, w, ?_, hl, g2, hw, hm⟩
      dsimp only [sx_step]
      unfold sx_p1
      dsimp only
      rw [if_pos (gx_g_cat g1)]
      rfl
    · cases h
  case goto off =>
    cases h
    refine ⟨hC, lv, sv, w, ?_, hl, hs, hw, hm⟩
    show sx_jmp pc off lv sv w true = _
    unfold sx_jmp
    rw [if_pos (of_decide_eq_true hA)]
    rfl
  case getfield i =>
    dsimp only [gx_1] at h
    dsimp only [gx_okA] at hA
    split at h
    · rename_i c r0
      obtain ⟨rfl, h⟩ := gx_cond h
      obtain ⟨u, s1, rfl, g1, g2⟩ := gx_hs1 hs
      have e3 : u = .ref A.2.1 := g1
      subst e3
      split at hA
      · rename_i t q0 hS
        split at h
        · rename_i hz
          cases h
          rw [hz] at hA
          simp only [Bool.and_eq_true, decide_eq_true_eq] at hA
          obtain ⟨⟨rfl, ha⟩, hk⟩ := hA
          obtain ⟨vs, h1, h2, h3, h4, -, -⟩ := fx_int hw.1 hS hk
          refine ⟨hC, lv, .int (fx_i w A.2.1 k) :: s1, w, ?_, hl, ⟨⟨_, rfl, by rw [← hm]; rfl⟩, g2⟩, hw, hm⟩
          dsimp only [sx_step]
          unfold sx_getf
          dsimp only
          rw [h1]
          dsimp only
          rw [if_pos ⟨rfl, ha⟩, h3]
          rfl
        · rename_i hz
          cases h
          split at hA
          · rename_i hz0; exact absurd hz0 hz
          simp only [Bool.and_eq_true, decide_eq_true_eq] at hA
          obtain ⟨⟨rfl, ha⟩, hk⟩ := hA
          obtain ⟨vs, v, h1, h2, h3, h4, h5⟩ := fx_cell hw.1 hS hk
          have hv : v = .ref ((A.2.2 : Nat) : Int).toNat := h4
          rw [Int.toNat_natCast] at hv
          subst hv
          refine ⟨hC, lv, .ref A.2.2 :: s1, w, ?_, hl, ⟨rfl, g2⟩, hw, hm⟩
          dsimp only [sx_step]
          unfold sx_getf
          dsimp only
          rw [h1]
          dsimp only
          rw [if_pos ⟨rfl, ha⟩, h3]
          rfl
      · cases hA
    · cases h
  case putfield i =>
    dsimp only [gx_1] at h
    dsimp only [gx_okA] at hA
    split at h
    · rename_i v c r0
      obtain ⟨rfl, h⟩ := gx_cond h
      cases h
      obtain ⟨u, s1, rfl, g1, g2⟩ := gx_hs1 hs
      obtain ⟨u2, s2, rfl, g3, g4⟩ := gx_hs1 g2
      obtain ⟨b, rfl, rfl⟩ := gx_g_int g1
      have e3 : u2 = .ref A.2.1 := g3
      subst e3
      split at hA
      · rename_i t q0 hS
        simp only [Bool.and_eq_true, decide_eq_true_eq] at hA
        obtain ⟨⟨⟨rfl, ha⟩, hk⟩, hty⟩ := hA
        obtain ⟨vs, h1, h2, h3, h4, -, -⟩ := fx_int hw.1 hS hk
        obtain ⟨p1, p2⟩ := gx_put_ok (v := b) hw hS hk
        refine ⟨hC, lv, s2, fx_p w A.2.1 k b, ?_, hl, g4, p1, by rw [p2, hm]⟩
        dsimp only [sx_step]
        unfold sx_putf
        dsimp only
        rw [h1]
        dsimp only
        rw [hty, if_pos ⟨rfl, ha, h4, by simp [sx_fit, narrow, fits]⟩, fx_p_set h1]
        rfl
      · cases hA
    · cases h
  case iaload => exact gx_aget_ok (A := A) rfl rfl hA h hC hl hs hw hm
  case baload => exact gx_aget_ok (A := A) rfl rfl hA h hC hl hs hw hm
  case iastore =>
    dsimp only [gx_1] at h
    dsimp only [gx_okA] at hA
    split at h
    · rename_i v i c r0
      obtain ⟨rfl, h⟩ := gx_cond h
      cases h
      obtain ⟨hC1, hi1, hi2⟩ := hC
      obtain ⟨u, s1, rfl, g1, g2⟩ := gx_hs1 hs
      obtain ⟨u2, s2, rfl, g3, g4⟩ := gx_hs1 g2
      obtain ⟨u3, s3, rfl, g5, g6⟩ := gx_hs1 g4
      obtain ⟨x, rfl, rfl⟩ := gx_g_int g1
      obtain ⟨b, rfl, rfl⟩ := gx_g_int g3
      have e3 : u3 = .ref A.2.1 := g5
      subst e3
      split at hA
      · rename_i t q0 hS
        simp only [Bool.and_eq_true, decide_eq_true_eq] at hA
        obtain ⟨⟨rfl, ha⟩, hlen⟩ := hA
        have hk := fx_all_nth q0 b.toInt.toNat ha (by omega)
        obtain ⟨vs, h1, h2, h3, h4, -, -⟩ := fx_int hw.1 hS hk
        obtain ⟨p1, p2⟩ := gx_put_ok (v := x) hw hS hk
        refine ⟨hC1, lv, s3, fx_p w A.2.1 b.toInt.toNat x, ?_, hl, g6, p1, by rw [p2, hm]⟩
        dsimp only [sx_step]
        unfold sx_aput
        dsimp only
        rw [h1]
        dsimp only
        rw [if_pos rfl, ax_ix hi1 (by omega)]
        dsimp only
        rw [fx_p_set h1]
        rfl
      · cases hA
    · cases h
  all_goals (cases h; done)
end GXS
end
section
/-! instructions over numbers, quick for the kernel -/
noncomputable def gx_1Q (E : sx_E) (A : gx_A) (C : Prop) (L : gx_L) (st : List gx_V) (m : gx_M) : Option gx_R := Instr.rec (motive := fun _ => Nat → Int → gx_A → Prop → gx_L → List gx_V → gx_M → Option gx_R)
  (fun _ _ _ _ _ _ _ => none)
  (fun _ _ _ _ _ _ _ => none)
  (fun _ _ _ _ _ _ _ => none)
  (fun _ _ _ _ _ _ _ _ => none)
  (fun i _ _ _ C L st m => (gx_ald C L st m (i : Nat)))
  (fun _ _ _ _ _ _ _ _ => none)
  (fun _ _ _ _ _ _ _ => none)
  (fun _ _ _ _ _ _ _ => none)
  (fun _ _ _ _ _ _ _ _ => none)
  (fun _ _ _ _ _ _ _ _ => none)
  (fun _ _ _ _ _ _ _ => none)
  (fun _ _ A C L st m => ((match st with
      | .inl i :: .inr c :: r => cond (Nat.beq c A.2.1) (some (C ∧ (0 ≤ i ∧ i < (A.2.2 : Int)), L, .inl (m c i.toNat) :: r, m)) none
      | _ => none)))
  (fun _ _ _ _ _ _ _ => none)
  (fun n _ _ _ C L st m => (some (C, L, .inl n :: st, m)))
  (fun _ _ _ _ _ _ _ => none)
  (fun _ _ _ _ _ _ _ => none)
  (fun _ _ _ _ _ _ _ _ => none)
  (fun _ _ _ _ _ _ _ => none)
  (fun _ _ _ _ _ _ _ => none)
  (fun _ _ _ _ _ _ _ => none)
  (fun _ _ _ _ _ _ _ => none)
  (fun _ _ _ _ _ _ _ => none)
  (fun _ _ _ _ _ _ _ => none)
  (fun _ _ _ _ _ _ _ _ => none)
  (fun _ _ _ _ _ _ _ _ => none)
  (fun _ _ _ _ _ _ _ => none)
  (fun _ _ _ _ _ _ _ _ => none)
  (fun _ _ _ _ _ _ _ _ => none)
  (fun _ _ _ _ _ _ _ => none)
  (fun _ _ _ _ _ _ _ => none)
  (fun _ _ _ _ _ _ _ => none)
  (fun _ _ _ _ _ _ _ => none)
  (fun _ _ _ _ _ _ _ _ => none)
  (fun _ _ _ _ _ _ _ _ => none)
  (fun _ _ _ _ _ _ _ => none)
  (fun _ _ _ C L st m => ((match st with
      | v :: r => some (C, L, v :: v :: r, m)
      | _ => none)))
  (fun _ _ _ _ _ _ _ => none)
  (fun _ _ _ _ _ _ _ => none)
  (fun _ _ _ _ _ _ _ => none)
  (fun _ _ _ _ _ _ _ => none)
  (fun _ _ _ _ _ _ _ => none)
  (fun _ _ _ _ _ _ _ => none)
  (fun _ _ _ _ _ _ _ => none)
  (fun _ _ _ _ _ _ _ => none)
  (fun _ _ _ _ _ _ _ => none)
  (fun _ _ _ _ _ _ _ => none)
  (fun _ _ _ _ _ _ _ => none)
  (fun _ _ _ _ _ _ _ _ => none)
  (fun _ _ _ _ _ _ _ _ => none)
  (fun _ _ _ _ _ _ _ => none)
  (fun _ _ _ _ _ _ _ _ => none)
  (fun _ _ _ _ _ _ _ _ => none)
  (fun _ _ _ _ _ _ _ => none)
  (fun _ _ _ _ _ _ _ => none)
  (fun _ _ _ _ _ _ _ => none)
  (fun _ _ _ _ _ _ _ => none)
  (fun _ _ _ _ _ _ _ _ => none)
  (fun _ _ _ _ _ _ _ _ => none)
  (fun _ _ _ _ _ _ _ => none)
  (fun _ k _ A C L st m => ((match st with
      | .inr c :: r => cond (Nat.beq c A.2.1) (match A.1 with
        | 0 => some (C, L, .inl (m c k) :: r, m)
        | _ => some (C, L, .inr A.2.2 :: r, m)) none
      | _ => none)))
  (fun _ _ _ _ _ _ _ _ => none)
  (fun _ _ _ _ C L st m => (some (C, L, st, m)))
  (fun _ _ _ _ _ _ _ _ => none)
  (fun _ _ _ _ _ _ _ => none)
  (fun _ _ _ _ _ _ _ => none)
  (fun _ _ _ _ _ _ _ => none)
  (fun _ _ _ _ _ _ _ => none)
  (fun _ _ _ _ _ _ _ => none)
  (fun _ _ _ _ _ _ _ => none)
  (fun _ _ _ C L st m => (gx_b2 C L st m (fun x y => gx_w (x + y))))
  (fun _ _ A C L st m => ((match st with
      | .inl i :: .inr c :: r => cond (Nat.beq c A.2.1) (some (C ∧ (0 ≤ i ∧ i < (A.2.2 : Int)), L, .inl (m c i.toNat) :: r, m)) none
      | _ => none)))
  (fun _ _ _ C L st m => (gx_b2 C L st m gx_and))
  (fun _ _ A C L st m => ((match st with
      | .inl v :: .inl i :: .inr c :: r => cond (Nat.beq c A.2.1) (some (C ∧ (0 ≤ i ∧ i < (A.2.2 : Int)), L, r, gx_u m c i.toNat v)) none
      | _ => none)))
  (fun n _ _ _ C L st m => (some (C, L, .inl n :: st, m)))
  (fun _ _ _ C L st m => ((match st with
      | .inl y :: .inl x :: r => some (C ∧ y ≠ 0, L, .inl (gx_w (Int.tdiv x y)) :: r, m)
      | _ => none)))
  (fun _ _ _ _ _ _ _ _ _ => none)
  (fun _ _ _ _ _ _ _ _ _ => none)
  (fun _ _ _ _ _ _ _ _ _ => none)
  (fun _ _ _ _ _ _ _ _ => none)
  (fun _ _ _ _ _ _ _ _ => none)
  (fun i n _ _ _ C L st m => ((match gx_get L i with
      | some (.inl x) => some (C, gx_put L i (.inl (gx_w (x + n))), st, m)
      | _ => none)))
  (fun i _ _ _ C L st m => (gx_ild C L st m i))
  (fun i _ _ _ C L st m => (gx_ild C L st m (i : Nat)))
  (fun _ _ _ C L st m => (gx_b2 C L st m (fun x y => gx_w (x * y))))
  (fun _ _ _ _ _ _ _ => none)
  (fun _ _ _ _ _ _ _ _ => none)
  (fun _ _ _ _ _ _ _ _ => none)
  (fun _ _ _ _ _ _ _ _ _ => none)
  (fun _ _ _ _ _ _ _ _ => none)
  (fun _ _ _ _ _ _ _ _ => none)
  (fun _ _ _ _ _ _ _ _ => none)
  (fun _ _ _ C L st m => (gx_b2 C L st m gx_or))
  (fun _ _ _ C L st m => ((match st with
      | .inl y :: .inl x :: r => some (C ∧ y ≠ 0, L, .inl (Int.tmod x y) :: r, m)
      | _ => none)))
  (fun _ _ _ _ _ _ _ => none)
  (fun _ _ _ C L st m => (gx_b2 C L st m gx_shl))
  (fun _ _ _ C L st m => (gx_b2 C L st m gx_shr))
  (fun i _ _ _ C L st m => (gx_sto C L st m i))
  (fun i _ _ _ C L st m => (gx_sto C L st m (i : Nat)))
  (fun _ _ _ C L st m => (gx_b2 C L st m (fun x y => gx_w (x - y))))
  (fun _ _ _ _ _ _ _ => none)
  (fun _ _ _ C L st m => (gx_b2 C L st m gx_xor))
  (fun _ _ _ _ _ _ _ _ => none)
  (fun _ _ _ _ _ _ _ _ => none)
  (fun _ _ _ _ _ _ _ => none)
  (fun _ _ _ _ _ _ _ => none)
  (fun _ _ _ _ _ _ _ => none)
  (fun _ _ _ _ _ _ _ => none)
  (fun _ _ _ _ _ _ _ => none)
  (fun _ _ _ _ _ _ _ => none)
  (fun _ _ _ _ _ _ _ => none)
  (fun _ _ _ _ _ _ _ => none)
  (fun _ _ _ _ _ _ _ _ => none)
  (fun _ _ z _ C L st m => (some (C, L, .inl z :: st, m)))
  (fun _ _ z _ C L st m => (some (C, L, .inl z :: st, m)))
  (fun _ _ _ _ _ _ _ _ => none)
  (fun _ _ _ _ _ _ _ => none)
  (fun _ _ _ _ _ _ _ _ => none)
  (fun _ _ _ _ _ _ _ _ => none)
  (fun _ _ _ _ _ _ _ => none)
  (fun _ _ _ _ _ _ _ => none)
  (fun _ _ _ _ _ _ _ _ _ => none)
  (fun _ _ _ _ _ _ _ => none)
  (fun _ _ _ _ _ _ _ => none)
  (fun _ _ _ _ _ _ _ => none)
  (fun _ _ _ _ _ _ _ => none)
  (fun _ _ _ _ _ _ _ => none)
  (fun _ _ _ _ _ _ _ _ => none)
  (fun _ _ _ _ _ _ _ _ => none)
  (fun _ _ _ _ _ _ _ => none)
  (fun _ _ _ _ _ _ _ => none)
  (fun _ _ _ _ _ _ _ => none)
  (fun _ _ _ _ _ _ _ => none)
  (fun _ _ _ _ _ _ _ => none)
  (fun _ _ _ _ _ _ _ _ _ => none)
  (fun _ _ _ _ _ _ _ _ => none)
  (fun _ _ _ _ _ _ _ _ => none)
  (fun _ _ _ _ _ _ _ => none)
  (fun _ _ _ C L st m => ((match st with
      | _ :: r => some (C, L, r, m)
      | _ => none)))
  (fun _ _ _ _ _ _ _ => none)
  (fun _ k _ A C L st m => ((match st with
      | .inl v :: .inr c :: r => cond (Nat.beq c A.2.1) (some (C, L, r, gx_u m c k v)) none
      | _ => none)))
  (fun _ _ _ _ _ _ _ _ => none)
  (fun _ _ _ _ _ _ _ _ => none)
  (fun _ _ _ _ _ _ _ => none)
  (fun _ _ _ _ _ _ _ => none)
  (fun _ _ _ _ _ _ _ => none)
  (fun n _ _ _ C L st m => (some (C, L, .inl n :: st, m)))
  (fun _ _ _ _ _ _ _ => none)
  (fun _ _ _ _ _ _ _ _ _ _ _ => none)
  E.2.1 E.2.2.2.2.1 E.2.2.2.2.2.2 A C L st m
theorem gx_1Q_fn : gx_1Q = gx_1 := by
  funext E A C L st m
  obtain ⟨pc, I, len, a, k, q, z⟩ := E
  cases I <;> rfl
noncomputable def gx_okAQ (nL : Nat) (E : sx_E) (A : gx_A) : Bool := Instr.rec (motive := fun _ => Nat → Nat → Nat → Nat → Int → gx_A → Bool)
  (fun _ _ _ _ _ _ => true)
  (fun _ _ _ _ _ _ => true)
  (fun _ _ _ _ _ _ => true)
  (fun _ _ _ _ _ _ _ => true)
  (fun _ _ _ _ _ _ _ => true)
  (fun _ _ _ _ _ _ _ => true)
  (fun _ _ _ _ _ _ => true)
  (fun _ _ _ _ _ _ => true)
  (fun _ _ _ _ _ _ _ => true)
  (fun _ _ _ _ _ _ _ => true)
  (fun _ _ _ _ _ _ => true)
  (fun _ _ _ _ _ A => ((match sx_nth fx_S A.2.1 with
      | some (t, r) => decide (t = 101) && fx_all r && decide (ax_len r = A.2.2)
      | none => false)))
  (fun _ _ _ _ _ _ => true)
  (fun n _ _ _ _ _ _ => (decide ((Int8.ofInt n).toInt32.toInt = n)))
  (fun _ _ _ _ _ _ => true)
  (fun _ _ _ _ _ _ => true)
  (fun _ _ _ _ _ _ _ => true)
  (fun _ _ _ _ _ _ => true)
  (fun _ _ _ _ _ _ => true)
  (fun _ _ _ _ _ _ => true)
  (fun _ _ _ _ _ _ => true)
  (fun _ _ _ _ _ _ => true)
  (fun _ _ _ _ _ _ => true)
  (fun _ _ _ _ _ _ _ => true)
  (fun _ _ _ _ _ _ _ => true)
  (fun _ _ _ _ _ _ => true)
  (fun _ _ _ _ _ _ _ => true)
  (fun _ _ _ _ _ _ _ => true)
  (fun _ _ _ _ _ _ => true)
  (fun _ _ _ _ _ _ => true)
  (fun _ _ _ _ _ _ => true)
  (fun _ _ _ _ _ _ => true)
  (fun _ _ _ _ _ _ _ => true)
  (fun _ _ _ _ _ _ _ => true)
  (fun _ _ _ _ _ _ => true)
  (fun _ _ _ _ _ _ => true)
  (fun _ _ _ _ _ _ => true)
  (fun _ _ _ _ _ _ => true)
  (fun _ _ _ _ _ _ => true)
  (fun _ _ _ _ _ _ => true)
  (fun _ _ _ _ _ _ => true)
  (fun _ _ _ _ _ _ => true)
  (fun _ _ _ _ _ _ => true)
  (fun _ _ _ _ _ _ => true)
  (fun _ _ _ _ _ _ => true)
  (fun _ _ _ _ _ _ => true)
  (fun _ _ _ _ _ _ => true)
  (fun _ _ _ _ _ _ _ => true)
  (fun _ _ _ _ _ _ _ => true)
  (fun _ _ _ _ _ _ => true)
  (fun _ _ _ _ _ _ _ => true)
  (fun _ _ _ _ _ _ _ => true)
  (fun _ _ _ _ _ _ => true)
  (fun _ _ _ _ _ _ => true)
  (fun _ _ _ _ _ _ => true)
  (fun _ _ _ _ _ _ => true)
  (fun _ _ _ _ _ _ _ => true)
  (fun _ _ _ _ _ _ _ => true)
  (fun _ _ _ _ _ _ => true)
  (fun _ _ _ a k _ A => ((match sx_nth fx_S A.2.1 with
      | some (t, r) => decide (t = a) && decide (a < 100) && (match A.1 with
        | 0 => decide (ax_nth r k = some ax_top)
        | _ => decide (ax_nth r k = some (2, (A.2.2 : Int), 0)))
      | none => false)))
  (fun _ _ _ _ _ _ _ => true)
  (fun off _ pc _ _ _ _ => (decide (0 ≤ (pc : Int) + off)))
  (fun _ _ _ _ _ _ _ => true)
  (fun _ _ _ _ _ _ => true)
  (fun _ _ _ _ _ _ => true)
  (fun _ _ _ _ _ _ => true)
  (fun _ _ _ _ _ _ => true)
  (fun _ _ _ _ _ _ => true)
  (fun _ _ _ _ _ _ => true)
  (fun _ _ _ _ _ _ => true)
  (fun _ _ _ _ _ A => ((match sx_nth fx_S A.2.1 with
      | some (t, r) => decide (t = 100) && fx_all r && decide (ax_len r = A.2.2)
      | none => false)))
  (fun _ _ _ _ _ _ => true)
  (fun _ _ _ _ _ A => ((match sx_nth fx_S A.2.1 with
      | some (t, r) => decide (t = 100) && fx_all r && decide (ax_len r = A.2.2)
      | none => false)))
  (fun n _ _ _ _ _ _ => (decide ((Int32.ofInt n).toInt = n)))
  (fun _ _ _ _ _ _ => true)
  (fun _ _ _ _ _ _ _ _ => true)
  (fun _ _ _ _ _ _ _ _ => true)
  (fun _ _ _ _ _ _ _ _ => true)
  (fun _ _ _ _ _ _ _ => true)
  (fun _ _ _ _ _ _ _ => true)
  (fun i n nL _ _ _ _ _ => (decide (i < nL) && decide ((Int32.ofInt n).toInt = n)))
  (fun _ _ _ _ _ _ _ => true)
  (fun _ _ _ _ _ _ _ => true)
  (fun _ _ _ _ _ _ => true)
  (fun _ _ _ _ _ _ => true)
  (fun _ _ _ _ _ _ _ => true)
  (fun _ _ _ _ _ _ _ => true)
  (fun _ _ _ _ _ _ _ _ => true)
  (fun _ _ _ _ _ _ _ => true)
  (fun _ _ _ _ _ _ _ => true)
  (fun _ _ _ _ _ _ _ => true)
  (fun _ _ _ _ _ _ => true)
  (fun _ _ _ _ _ _ => true)
  (fun _ _ _ _ _ _ => true)
  (fun _ _ _ _ _ _ => true)
  (fun _ _ _ _ _ _ => true)
  (fun i nL _ _ _ _ _ => (decide (i < nL)))
  (fun i nL _ _ _ _ _ => (decide ((i : Nat) < nL)))
  (fun _ _ _ _ _ _ => true)
  (fun _ _ _ _ _ _ => true)
  (fun _ _ _ _ _ _ => true)
  (fun _ _ _ _ _ _ _ => true)
  (fun _ _ _ _ _ _ _ => true)
  (fun _ _ _ _ _ _ => true)
  (fun _ _ _ _ _ _ => true)
  (fun _ _ _ _ _ _ => true)
  (fun _ _ _ _ _ _ => true)
  (fun _ _ _ _ _ _ => true)
  (fun _ _ _ _ _ _ => true)
  (fun _ _ _ _ _ _ => true)
  (fun _ _ _ _ _ _ => true)
  (fun _ _ _ _ _ _ _ => true)
  (fun _ _ _ _ _ z _ => (decide ((Int32.ofInt z).toInt = z)))
  (fun _ _ _ _ _ z _ => (decide ((Int32.ofInt z).toInt = z)))
  (fun _ _ _ _ _ _ _ => true)
  (fun _ _ _ _ _ _ => true)
  (fun _ _ _ _ _ _ _ => true)
  (fun _ _ _ _ _ _ _ => true)
  (fun _ _ _ _ _ _ => true)
  (fun _ _ _ _ _ _ => true)
  (fun _ _ _ _ _ _ _ _ => true)
  (fun _ _ _ _ _ _ => true)
  (fun _ _ _ _ _ _ => true)
  (fun _ _ _ _ _ _ => true)
  (fun _ _ _ _ _ _ => true)
  (fun _ _ _ _ _ _ => true)
  (fun _ _ _ _ _ _ _ => true)
  (fun _ _ _ _ _ _ _ => true)
  (fun _ _ _ _ _ _ => true)
  (fun _ _ _ _ _ _ => true)
  (fun _ _ _ _ _ _ => true)
  (fun _ _ _ _ _ _ => true)
  (fun _ _ _ _ _ _ => true)
  (fun _ _ _ _ _ _ _ _ => true)
  (fun _ _ _ _ _ _ _ => true)
  (fun _ _ _ _ _ _ _ => true)
  (fun _ _ _ _ _ _ => true)
  (fun _ _ _ _ _ _ => true)
  (fun _ _ _ _ _ _ => true)
  (fun _ _ _ a k _ A => ((match sx_nth fx_S A.2.1 with
      | some (t, r) => decide (t = a) && decide (a < 100) && decide (ax_nth r k = some ax_top) && decide (yp_P.2.2.1 a k = .int)
      | none => false)))
  (fun _ _ _ _ _ _ _ => true)
  (fun _ _ _ _ _ _ _ => true)
  (fun _ _ _ _ _ _ => true)
  (fun _ _ _ _ _ _ => true)
  (fun _ _ _ _ _ _ => true)
  (fun n _ _ _ _ _ _ => (decide ((Int16.ofInt n).toInt32.toInt = n)))
  (fun _ _ _ _ _ _ => true)
  (fun _ _ _ _ _ _ _ _ _ _ => true)
  E.2.1 nL E.1 E.2.2.2.1 E.2.2.2.2.1 E.2.2.2.2.2.2 A
theorem gx_okAQ_fn : gx_okAQ = gx_okA := by
  funext nL E A
  obtain ⟨pc, I, len, a, k, q, z⟩ := E
  unfold gx_okA
  cases I <;> first | rfl | (dsimp only; rw [← sx_nth_eq]; rfl)
noncomputable def gx_nxQ (E : sx_E) : Nat := Instr.rec (motive := fun _ => Nat → Nat)
  (fun pc => pc + 1)
  (fun pc => pc + 1)
  (fun pc => pc + 1)
  (fun _ pc => pc + 1)
  (fun _ pc => pc + 1)
  (fun _ pc => pc + 1)
  (fun pc => pc + 1)
  (fun pc => pc + 1)
  (fun _ pc => pc + 1)
  (fun _ pc => pc + 1)
  (fun pc => pc + 1)
  (fun pc => pc + 1)
  (fun pc => pc + 1)
  (fun _ pc => (pc + 2))
  (fun pc => pc + 1)
  (fun pc => pc + 1)
  (fun _ pc => pc + 1)
  (fun pc => pc + 1)
  (fun pc => pc + 1)
  (fun pc => pc + 1)
  (fun pc => pc + 1)
  (fun pc => pc + 1)
  (fun pc => pc + 1)
  (fun _ pc => pc + 1)
  (fun _ pc => pc + 1)
  (fun pc => pc + 1)
  (fun _ pc => pc + 1)
  (fun _ pc => pc + 1)
  (fun pc => pc + 1)
  (fun pc => pc + 1)
  (fun pc => pc + 1)
  (fun pc => pc + 1)
  (fun _ pc => pc + 1)
  (fun _ pc => pc + 1)
  (fun pc => pc + 1)
  (fun pc => pc + 1)
  (fun pc => pc + 1)
  (fun pc => pc + 1)
  (fun pc => pc + 1)
  (fun pc => pc + 1)
  (fun pc => pc + 1)
  (fun pc => pc + 1)
  (fun pc => pc + 1)
  (fun pc => pc + 1)
  (fun pc => pc + 1)
  (fun pc => pc + 1)
  (fun pc => pc + 1)
  (fun _ pc => pc + 1)
  (fun _ pc => pc + 1)
  (fun pc => pc + 1)
  (fun _ pc => pc + 1)
  (fun _ pc => pc + 1)
  (fun pc => pc + 1)
  (fun pc => pc + 1)
  (fun pc => pc + 1)
  (fun pc => pc + 1)
  (fun _ pc => pc + 1)
  (fun _ pc => pc + 1)
  (fun pc => pc + 1)
  (fun _ pc => (pc + 3))
  (fun _ pc => pc + 1)
  (fun off pc => (((pc : Int) + off).toNat))
  (fun _ pc => pc + 1)
  (fun pc => pc + 1)
  (fun pc => pc + 1)
  (fun pc => pc + 1)
  (fun pc => pc + 1)
  (fun pc => pc + 1)
  (fun pc => pc + 1)
  (fun pc => pc + 1)
  (fun pc => pc + 1)
  (fun pc => pc + 1)
  (fun pc => pc + 1)
  (fun _ pc => pc + 1)
  (fun pc => pc + 1)
  (fun _ _ pc => pc + 1)
  (fun _ _ pc => pc + 1)
  (fun _ _ pc => pc + 1)
  (fun _ pc => pc + 1)
  (fun _ pc => pc + 1)
  (fun _ _ pc => (pc + 3))
  (fun _ pc => (pc + 2))
  (fun _ pc => pc + 1)
  (fun pc => pc + 1)
  (fun pc => pc + 1)
  (fun _ pc => pc + 1)
  (fun _ pc => pc + 1)
  (fun _ _ pc => pc + 1)
  (fun _ pc => pc + 1)
  (fun _ pc => pc + 1)
  (fun _ pc => pc + 1)
  (fun pc => pc + 1)
  (fun pc => pc + 1)
  (fun pc => pc + 1)
  (fun pc => pc + 1)
  (fun pc => pc + 1)
  (fun _ pc => (pc + 2))
  (fun _ pc => pc + 1)
  (fun pc => pc + 1)
  (fun pc => pc + 1)
  (fun pc => pc + 1)
  (fun _ pc => pc + 1)
  (fun _ pc => pc + 1)
  (fun pc => pc + 1)
  (fun pc => pc + 1)
  (fun pc => pc + 1)
  (fun pc => pc + 1)
  (fun pc => pc + 1)
  (fun pc => pc + 1)
  (fun pc => pc + 1)
  (fun pc => pc + 1)
  (fun _ pc => pc + 1)
  (fun _ pc => (pc + 2))
  (fun _ pc => (pc + 3))
  (fun _ pc => pc + 1)
  (fun pc => pc + 1)
  (fun _ pc => pc + 1)
  (fun _ pc => pc + 1)
  (fun pc => pc + 1)
  (fun pc => pc + 1)
  (fun _ _ pc => pc + 1)
  (fun pc => pc + 1)
  (fun pc => pc + 1)
  (fun pc => pc + 1)
  (fun pc => pc + 1)
  (fun pc => pc + 1)
  (fun _ pc => pc + 1)
  (fun _ pc => pc + 1)
  (fun pc => pc + 1)
  (fun pc => pc + 1)
  (fun pc => pc + 1)
  (fun pc => pc + 1)
  (fun pc => pc + 1)
  (fun _ _ pc => pc + 1)
  (fun _ pc => pc + 1)
  (fun _ pc => pc + 1)
  (fun pc => pc + 1)
  (fun pc => pc + 1)
  (fun pc => pc + 1)
  (fun _ pc => (pc + 3))
  (fun _ pc => pc + 1)
  (fun _ pc => pc + 1)
  (fun pc => pc + 1)
  (fun pc => pc + 1)
  (fun pc => pc + 1)
  (fun _ pc => (pc + 3))
  (fun pc => pc + 1)
  (fun _ _ _ _ pc => pc + 1)
  E.2.1 E.1
theorem gx_nxQ_fn : gx_nxQ = gx_nx := by
  funext E
  obtain ⟨pc, I, len, a, k, q, z⟩ := E
  cases I <;> rfl
end
section
/-! BY HAND, 4: blocks, branches, calls, ends -/
noncomputable def gx_run : List (sx_E × gx_A) → Prop → gx_L → List gx_V → gx_M → Option gx_R
  | [], C, L, st, m => some (C, L, st, m)
  | p :: r, C, L, st, m => match gx_1Q p.1 p.2 C L st m with
    | some q => gx_run r q.1 q.2.1 q.2.2.1 q.2.2.2
    | none => none
noncomputable def gx_rowB (M : sx_M) (E : sx_E) : Bool := match sx_row M E.1 with
  | some q => decide (q.1 = E.1) && (iEqQ q.2.1 E.2.1 && (decide (q.2.2.1 = E.2.2.1) && (decide (q.2.2.2.1 = E.2.2.2.1) && (decide (q.2.2.2.2.1 = E.2.2.2.2.1) && (decide (q.2.2.2.2.2.1 = E.2.2.2.2.2.1) && decide (q.2.2.2.2.2.2 = E.2.2.2.2.2.2))))))
  | none => false
theorem gx_rowB_ok {M : sx_M} {E : sx_E} (h : gx_rowB M E = true) : sx_row M E.1 = some E := by
  unfold gx_rowB at h
  split at h
  · rename_i q hq
    rw [hq]
    simp only [Bool.and_eq_true, decide_eq_true_eq] at h
    obtain ⟨h1, h2, h3, h4, h5, h6, h7⟩ := h
    exact congrArg some (Prod.ext h1 (Prod.ext (iEqQ_ok h2) (Prod.ext h3 (Prod.ext h4 (Prod.ext h5 (Prod.ext h6 h7))))))
  · cases h
noncomputable def gx_rows (M : sx_M) : Nat → List (sx_E × gx_A) → Nat → Bool
  | pc, [], n => decide (pc = n)
  | pc, p :: r, n => decide (p.1.1 = pc) && gx_rowB M p.1 && !(sx_isRetQ p.1.2.1) && !(sx_isCallQ p.1) && gx_okAQ M.2.2.1 p.1 p.2 && gx_rows M (gx_nxQ p.1) r n
theorem gx_1_C {E : sx_E} {A : gx_A} {C : Prop} {L : gx_L} {st : List gx_V} {m : gx_M} {r : gx_R} (h : gx_1 E A C L st m = some r) (hC : r.1) : C := by
  obtain ⟨pc, I, len, a, k, q, z⟩ := E
  unfold gx_1 at h
  dsimp only at h
  cases I <;> dsimp only [gx_b2, gx_ild, gx_ald, gx_sto] at h <;> (try repeat' split at h) <;> first
    | (cases h; done)
    | (cases h; exact hC)
    | (cases h; exact hC.1)
    | (obtain ⟨-, h⟩ := gx_cond h; cases h; exact hC)
    | (obtain ⟨-, h⟩ := gx_cond h; cases h; exact hC.1)
theorem gx_run_C : ∀ (R : List (sx_E × gx_A)) (C : Prop) (L : gx_L) (st : List gx_V) (m : gx_M) (r : gx_R), gx_run R C L st m = some r → r.1 → C
  | [], C, L, st, m, r, h, hC => by cases h; exact hC
  | p :: R, C, L, st, m, r, h, hC => by
    unfold gx_run at h
    rw [gx_1Q_fn] at h
    split at h
    · rename_i q hq
      exact gx_1_C hq (gx_run_C R _ _ _ _ _ h hC)
    · cases h
section GXC
variable {xs : List Int32} {w0 : sx_W} {d : Nat} {M : sx_M} {pc : Nat} {L : gx_L} {st : List gx_V} {m : gx_M} {Q : gx_Q}
theorem gx_run_ok : ∀ (R : List (sx_E × gx_A)) (C : Prop) (pc npc : Nat) (L : gx_L) (st : List gx_V) (m : gx_M) (r : gx_R), gx_rows M pc R npc = true → gx_run R C L st m = some r → r.1 → gx_to xs w0 d M npc r.2.1 r.2.2.1 r.2.2.2 Q → gx_to xs w0 d M pc L st m Q
  | [], C, pc, npc, L, st, m, r, hR, h, hC, hk => by
    have e : pc = npc := of_decide_eq_true hR
    subst e
    cases h
    exact hk
  | p :: R, C, pc, npc, L, st, m, r, hR, h, hC, hk => by
    unfold gx_rows at hR
    rw [sx_isRetQ_fn, sx_isCallQ_fn, gx_okAQ_fn, gx_nxQ_fn] at hR
    simp only [Bool.and_eq_true, decide_eq_true_eq, Bool.not_eq_true'] at hR
    obtain ⟨⟨⟨⟨⟨h1, h2⟩, h3⟩, h4⟩, h5⟩, h6⟩ := hR
    subst h1
    unfold gx_run at h
    rw [gx_1Q_fn] at h
    split at h
    · rename_i q hq
      have hCq := gx_run_C R _ _ _ _ _ h hC
      have hrest := gx_run_ok R q.1 _ npc q.2.1 q.2.2.1 q.2.2.2 r h6 h hC hk
      intro lv sv w hl hs hw hm
      obtain ⟨-, lv', sv', w', g1, g2, g3, g4, g5⟩ := gx_1_ok (xs := xs) hq h5 hCq hl hs hw hm
      obtain ⟨o, ro, k1, k2, k3, k4⟩ := hrest lv' sv' w' g2 g3 g4 g5
      exact ⟨o, ro, sx_rn_step (gx_rowB_ok h2) h3 h4 g1 ⟨rfl, rfl⟩ k1, k2, k3, k4⟩
    · cases h
theorem gx_blk {C : Prop} {npc : Nat} {L' : gx_L} {st' : List gx_V} {m' : gx_M} (R : List (sx_E × gx_A)) (hR : gx_rows M pc R npc = true) (h : gx_run R True L st m = some (C, L', st', m')) (hC : C) (hk : gx_to xs w0 d M npc L' st' m' Q) : gx_to xs w0 d M pc L st m Q :=
  gx_run_ok R True pc npc L st m _ hR h hC hk
def gx_c (c : ClassFile.Cond) (x y : Int) : Prop := match c with
  | .eq => x = y
  | .ne => x ≠ y
  | .lt => x < y
  | .ge => y ≤ x
  | .gt => y < x
  | .le => x ≤ y
theorem gx_c_ok (c : ClassFile.Cond) (x y : Int32) : sx_cond c x y = true ↔ gx_c c x.toInt y.toInt := by
  rw [bx_cI_ok]
  cases c <;> simp [bx_cI, gx_c]
noncomputable def gx_isIf (M : sx_M) (pc : Nat) (c : ClassFile.Cond) (t : Nat) : Bool := match sx_row M pc with
  | some (_, .ifCond c' off, _) => decide (c' = c) && decide ((pc : Int) + off = (t : Int))
  | _ => false
noncomputable def gx_isCmp (M : sx_M) (pc : Nat) (c : ClassFile.Cond) (t : Nat) : Bool := match sx_row M pc with
  | some (_, .if_icmp c' off, _) => decide (c' = c) && decide ((pc : Int) + off = (t : Int))
  | _ => false
theorem sx_row_pc {M : sx_M} {pc : Nat} {E : sx_E} (h : sx_row M pc = some E) : E.1 = pc := by
  unfold sx_row at h
  rw [sx_fnd_eq] at h
  simpa using List.find?_some h
theorem gx_if {x : Int} (c : ClassFile.Cond) (t : Nat) (hE : gx_isIf M pc c t = true) (h1 : gx_c c x 0 → gx_to xs w0 d M t L st m Q) (h2 : ¬ gx_c c x 0 → gx_to xs w0 d M (pc + 3) L st m Q) : gx_to xs w0 d M pc L (.inl x :: st) m Q := by
  unfold gx_isIf at hE
  split at hE
  · rename_i p c' off rest hrow
    rw [Bool.and_eq_true, decide_eq_true_eq, decide_eq_true_eq] at hE
    obtain ⟨rfl, ho⟩ := hE
    have hp : p = pc := sx_row_pc hrow
    subst hp
    intro lv sv w hl hs hw hm
    obtain ⟨u, s1, rfl, g1, g2⟩ := gx_hs1 hs
    obtain ⟨z, rfl, rfl⟩ := gx_g_int g1
    have hz : (0 : Int32).toInt = 0 := rfl
    by_cases hc : gx_c c' z.toInt 0
    · obtain ⟨o, ro, k1, k2, k3, k4⟩ := h1 hc lv s1 w hl g2 hw hm
      have hcb : sx_cond c' z 0 = true := (gx_c_ok c' z 0).mpr hc
      refine ⟨o, ro, fx_if hrow (by omega) ?_, k2, k3, k4⟩
      rw [if_pos hcb, ho, Int.toNat_natCast]
      exact k1
    · obtain ⟨o, ro, k1, k2, k3, k4⟩ := h2 hc lv s1 w hl g2 hw hm
      have hcb : ¬ sx_cond c' z 0 = true := fun h => hc ((gx_c_ok c' z 0).mp h)
      refine ⟨o, ro, fx_if hrow (by omega) ?_, k2, k3, k4⟩
      rw [if_neg hcb]
      exact k1
  · cases hE
theorem gx_cmp {x y : Int} (c : ClassFile.Cond) (t : Nat) (hE : gx_isCmp M pc c t = true) (h1 : gx_c c x y → gx_to xs w0 d M t L st m Q) (h2 : ¬ gx_c c x y → gx_to xs w0 d M (pc + 3) L st m Q) : gx_to xs w0 d M pc L (.inl y :: .inl x :: st) m Q := by
  unfold gx_isCmp at hE
  split at hE
  · rename_i p c' off rest hrow
    rw [Bool.and_eq_true, decide_eq_true_eq, decide_eq_true_eq] at hE
    obtain ⟨rfl, ho⟩ := hE
    have hp : p = pc := sx_row_pc hrow
    subst hp
    intro lv sv w hl hs hw hm
    obtain ⟨u, s1, rfl, g1, g2⟩ := gx_hs1 hs
    obtain ⟨v, s2, rfl, g3, g4⟩ := gx_hs1 g2
    obtain ⟨b, rfl, rfl⟩ := gx_g_int g1
    obtain ⟨z, rfl, rfl⟩ := gx_g_int g3
    by_cases hc : gx_c c' z.toInt b.toInt
    · obtain ⟨o, ro, k1, k2, k3, k4⟩ := h1 hc lv s2 w hl g4 hw hm
      refine ⟨o, ro, fx_cmp hrow (by omega) ?_, k2, k3, k4⟩
      rw [if_pos ((gx_c_ok c' z b).mpr hc), ho, Int.toNat_natCast]
      exact k1
    · obtain ⟨o, ro, k1, k2, k3, k4⟩ := h2 hc lv s2 w hl g4 hw hm
      refine ⟨o, ro, fx_cmp hrow (by omega) ?_, k2, k3, k4⟩
      rw [if_neg (fun h => hc ((gx_c_ok c' z b).mp h))]
      exact k1
  · cases hE
/-! ends -/
noncomputable def gx_isR (M : sx_M) (pc : Nat) (I : Instr) (ty : Option FieldType) : Bool := (match sx_row M pc with
  | some E => iEqQ E.2.1 I
  | none => false) && decide (M.2.2.2.1 = ty)
theorem gx_isR_ok {I : Instr} {ty : Option FieldType} (h : gx_isR M pc I ty = true) : ∃ E, sx_row M pc = some E ∧ E.2.1 = I ∧ M.2.2.2.1 = ty := by
  unfold gx_isR at h
  rw [Bool.and_eq_true, decide_eq_true_eq] at h
  obtain ⟨h1, h2⟩ := h
  split at h1
  · rename_i E hE
    exact ⟨E, hE, iEqQ_ok h1, h2⟩
  · cases h1
theorem gx_ret0 (hE : gx_isR M pc .return_ none = true) (h : Q none m) : gx_to xs w0 d M pc L [] m Q := by
  obtain ⟨E, h1, h2, h3⟩ := gx_isR_ok hE
  intro lv sv w hl hs hw hm
  have := gx_hs0 hs
  subst this
  refine ⟨(none, w), none, sx_rn_ret h1 (by rw [h2]; rfl) (by rw [h2, h3]; rfl), hw, trivial, ?_⟩
  rw [hm]; exact h
theorem gx_reti {x : Int} (hE : gx_isR M pc .ireturn (some .int) = true) (h : Q (some x) m) : gx_to xs w0 d M pc L [.inl x] m Q := by
  obtain ⟨E, h1, h2, h3⟩ := gx_isR_ok hE
  intro lv sv w hl hs hw hm
  obtain ⟨u, s1, rfl, g1, g2⟩ := gx_hs1 hs
  have := gx_hs0 g2
  subst this
  obtain ⟨z, rfl, rfl⟩ := gx_g_int g1
  refine ⟨(some (.int z), w), some z.toInt, sx_rn_ret h1 (by rw [h2]; rfl) (by rw [h2, h3]; dsimp only [sx_retOk]; exact if_pos rfl), hw, ⟨z, rfl, rfl⟩, ?_⟩
  rw [hm]; exact h
theorem gx_retb {x : Int} (hE : gx_isR M pc .ireturn (some .boolean) = true) (hx : x = 0 ∨ x = 1) (h : Q (some x) m) : gx_to xs w0 d M pc L [.inl x] m Q := by
  obtain ⟨E, h1, h2, h3⟩ := gx_isR_ok hE
  intro lv sv w hl hs hw hm
  obtain ⟨u, s1, rfl, g1, g2⟩ := gx_hs1 hs
  have := gx_hs0 g2
  subst this
  obtain ⟨z, rfl, rfl⟩ := gx_g_int g1
  have hz : z = 0 ∨ z = 1 := by
    rcases hx with hx | hx
    · exact .inl (Int32.toInt_inj.mp hx)
    · exact .inr (Int32.toInt_inj.mp hx)
  refine ⟨(some (.int z), w), some z.toInt, sx_rn_ret h1 (by rw [h2]; rfl) ?_, hw, ⟨z, rfl, rfl⟩, ?_⟩
  · rw [h2, h3]
    rcases hz with rfl | rfl <;> rfl
  · rw [hm]; exact h
/-! calls -/
noncomputable def gx_ck (M M' : sx_M) (pc n k : Nat) (c : Option Nat) : Bool := (match sx_row M pc with
  | some E => !(sx_isRet E.2.1) && sx_isCall E && (match yp_P.2.2.2.1[E.2.2.2.1]? with
    | some M1 => decide (M1.1 = M'.1) && decide (M1.2.1 = M'.2.1)
    | none => false)
  | none => false) && decide (M'.2.2.2.2.1 = n) && decide (k ≤ 8) && decide (n ≤ M'.2.2.1) && (match c with
    | none => M'.2.2.2.2.2.1
    | some c => (match fx_S[c]? with
      | some (ci, _) => decide (ci < 100) && (match yp_P.2.1[ci]? with
        | some (C, _, _) => decide (C = M'.1.cls)
        | none => false)
      | none => false))
theorem gx_call {M' : sx_M} {E : sx_E} {d : Nat} (vs R : List gx_V) (hE : sx_row M pc = some E) (hI : sx_isRet E.2.1 = false ∧ sx_isCall E = true) (hM' : yp_P.2.2.2.1[E.2.2.2.1]? = some M') (hn : M'.2.2.2.2.1 = vs.length) (hk : R.length ≤ 8) (hL : vs.length ≤ M'.2.2.1)
    (hr : ∀ (w : sx_W) (av : List Value), bx_in fx_S w → gx_hs av vs → sx_recv yp_P M' w av = true)
    (h : gx_to xs w0 d M' 0 (gx_args 0 vs) [] m (fun r m' => gx_to xs w0 (d + 1) M (pc + 3) L (gx_rs r ++ R) m' Q)) : gx_to xs w0 (d + 1) M pc L (vs.reverse ++ R) m Q := by
  intro lv sv w hl hs hw hm
  obtain ⟨h1, h2⟩ := gx_hs_app hs
  rw [List.length_reverse] at h1 h2
  have h3 : gx_hs (sv.take vs.length).reverse vs := by
    have := gx_hs_rev h1
    rwa [List.reverse_reverse] at this
  have hlen := gx_hs_len hs
  rw [List.length_append, List.length_reverse] at hlen
  obtain ⟨o, r, k1, k2, k3, k4⟩ := h _ [] w (gx_args_ok 0 h3) trivial hw hm
  obtain ⟨o2, r2, j1, j2, j3, j4⟩ := k4 lv (o.1.toList ++ sv.drop vs.length) o.2 hl (gx_hs_cat (gx_ro_hs k3) h2) k2 rfl
  refine ⟨o2, r2, sx_rn_call hE hI.1 hI.2 hM' ?_ (by rw [hn]; exact k1) (by rw [hn]; exact j1), j2, j3, j4⟩
  unfold sx_callOk
  rw [hn]
  simp only [Bool.and_eq_true, decide_eq_true_eq]
  refine ⟨⟨⟨by omega, ?_⟩, ?_⟩, hr w _ hw.1 h3⟩
  · rw [gx_hs_csum h2]; exact hk
  · rw [gx_hs_csum h1, List.length_reverse]; exact hL
theorem gx_calls {M' : sx_M} {E : sx_E} {d : Nat} (vs R : List gx_V) {st : List gx_V} (hst : st = vs.reverse ++ R) (hE : gx_rowB M E = true) (hp : E.1 = pc) (hI : sx_isRet E.2.1 = false ∧ sx_isCall E = true) (hM' : yp_P.2.2.2.1[E.2.2.2.1]? = some M') (hn : M'.2.2.2.2.1 = vs.length) (hk : R.length ≤ 8) (hL : vs.length ≤ M'.2.2.1) (hst' : M'.2.2.2.2.2.1 = true)
    (h : gx_to xs w0 d M' 0 (gx_args 0 vs) [] m (fun r m' => gx_to xs w0 (d + 1) M (pc + 3) L (gx_rs r ++ R) m' Q)) : gx_to xs w0 (d + 1) M pc L st m Q := by
  subst hst
  subst hp
  exact gx_call vs R (gx_rowB_ok hE) hI hM' hn hk hL (fun w av _ _ => by unfold sx_recv; rw [hst']; rfl) h
def gx_clsB (M' : sx_M) (c : Nat) : Bool := match fx_S[c]? with
  | some (ci, _) => decide (ci < 100) && (match yp_P.2.1[ci]? with
    | some (C, _, _) => decide (C = M'.1.cls)
    | none => false)
  | none => false
theorem gx_callv {M' : sx_M} {E : sx_E} {d c : Nat} (vs R : List gx_V) {st : List gx_V} (hst : st = (.inr c :: vs).reverse ++ R) (hE : gx_rowB M E = true) (hp : E.1 = pc) (hI : sx_isRet E.2.1 = false ∧ sx_isCall E = true) (hM' : yp_P.2.2.2.1[E.2.2.2.1]? = some M') (hn : M'.2.2.2.2.1 = vs.length + 1) (hk : R.length ≤ 8) (hL : vs.length + 1 ≤ M'.2.2.1) (hcl : gx_clsB M' c = true)
    (h : gx_to xs w0 d M' 0 (gx_args 0 (.inr c :: vs)) [] m (fun r m' => gx_to xs w0 (d + 1) M (pc + 3) L (gx_rs r ++ R) m' Q)) : gx_to xs w0 (d + 1) M pc L st m Q := by
  subst hst
  subst hp
  refine gx_call (.inr c :: vs) R (gx_rowB_ok hE) hI hM' hn hk hL (fun w av hw ha => ?_) h
  obtain ⟨u, r, rfl, g1, g2⟩ := gx_hs1 ha
  have e : u = .ref c := g1
  subst e
  unfold sx_recv
  rw [Bool.or_eq_true]
  right
  dsimp only
  rw [Bool.or_eq_true]
  right
  unfold gx_clsB at hcl
  split at hcl
  · rename_i ci q hS
    obtain ⟨vs', e1, -, -⟩ := hw.2 c ci q hS
    rw [e1]
    exact hcl
  · cases hcl
end GXC
end
section
/-! BY HAND, 5: the bounds of the world's numbers; contracts of the reader serve here, and what is shown here gives contracts -/
def gx_I (m : gx_M) : Prop := ∀ (c t : Nat) (r : ax_A) (k : Nat) (lo hi : Int), bw_INV[c]? = some (t, r) → ax_nth r k = some (0, lo, hi) → lo ≤ m c k ∧ m c k ≤ hi
theorem gx_nth_map (f : ax_V → ax_V) : ∀ (r : ax_A) (k : Nat), ax_nth (r.map (fun q => (q.1, f q.2))) k = (ax_nth r k).map f
  | [], k => rfl
  | (n, a) :: r, k => by
    rw [List.map_cons]
    unfold ax_nth
    dsimp only
    split
    · rfl
    · exact gx_nth_map f r (k - n)
theorem gx_len_map (f : ax_V → ax_V) : ∀ (r : ax_A), ax_len (r.map (fun q => (q.1, f q.2))) = ax_len r
  | [] => rfl
  | (n, a) :: r => by
    rw [List.map_cons]
    unfold ax_len
    dsimp only
    rw [gx_len_map f r]
theorem gx_S_at {c t : Nat} {r : ax_A} (h : bw_INV[c]? = some (t, r)) : fx_S[c]? = some (t, r.map (fun q => (q.1, fx_top q.2))) := by
  unfold fx_S
  rw [List.getElem?_map, h]
  rfl
theorem gx_S_of {c t : Nat} {r' : ax_A} (h : fx_S[c]? = some (t, r')) : ∃ r, bw_INV[c]? = some (t, r) ∧ r' = r.map (fun q => (q.1, fx_top q.2)) := by
  unfold fx_S at h
  rw [List.getElem?_map] at h
  cases hc : bw_INV[c]? with
  | none => rw [hc] at h; cases h
  | some x =>
    rw [hc] at h
    cases h
    exact ⟨x.2, rfl, rfl⟩
theorem gx_top_g {a : ax_V} {v : Value} (h : ax_g [] a v) : ax_g [] (fx_top a) v := by
  unfold fx_top
  by_cases h0 : a.1 = 0
  · rw [if_pos h0]
    obtain ⟨t, lo, hi⟩ := a
    dsimp only at h0
    subst h0
    obtain ⟨x, rfl, -, -⟩ := h
    exact ax_top_ok x
  · rw [if_neg h0]
    by_cases h1 : a.1 = 1
    · rw [if_pos h1]
      obtain ⟨t, lo, hi⟩ := a
      dsimp only at h1
      subst h1
      obtain ⟨x, rfl, -, -⟩ := h
      exact ax_topL_ok x
    · rw [if_neg h1]; exact h
def gx_lng : Bool := bw_INV.all (fun c => c.2.all (fun q => !decide (q.2.1 = 1) || decide (q.2 = ax_topL)))
theorem gx_lng_ok : gx_lng = true := by decide +kernel
theorem gx_nth_mem : ∀ {r : ax_A} {k : Nat} {a : ax_V}, ax_nth r k = some a → ∃ n, (n, a) ∈ r
  | [], k, a, h => by cases h
  | (n, b) :: r, k, a, h => by
    unfold ax_nth at h
    split at h
    · cases h; exact ⟨n, List.mem_cons_self⟩
    · obtain ⟨n', h'⟩ := gx_nth_mem h
      exact ⟨n', List.mem_cons_of_mem _ h'⟩
theorem gx_lng_at {c t : Nat} {r : ax_A} {k : Nat} {a : ax_V} (h : bw_INV[c]? = some (t, r)) (hk : ax_nth r k = some a) (h1 : a.1 = 1) : a = ax_topL := by
  obtain ⟨n, hn⟩ := gx_nth_mem hk
  have h2 := List.all_eq_true.mp gx_lng_ok _ (List.mem_of_getElem? h)
  have h3 := List.all_eq_true.mp h2 _ hn
  dsimp only at h3
  rw [h1] at h3
  simpa using h3
theorem gx_in_of {w : sx_W} (h : bx_in bw_INV w) : bx_in fx_S w ∧ gx_I (gx_m w) := by
  refine ⟨⟨by rw [h.1]; unfold fx_S; rw [List.length_map], fun c t r' hS => ?_⟩, fun c t r k lo hi hI hk => ?_⟩
  · obtain ⟨r, hI, rfl⟩ := gx_S_of hS
    obtain ⟨vs, h1, h2, h3⟩ := h.2 c t r hI
    refine ⟨vs, h1, by rw [gx_len_map]; exact h2, fun k a v ha hv => ?_⟩
    rw [gx_nth_map] at ha
    cases hn : ax_nth r k with
    | none => rw [hn] at ha; cases ha
    | some b =>
      rw [hn] at ha
      cases ha
      exact gx_top_g (h3 k b v hn hv)
  · obtain ⟨vs, h1, h2, h3⟩ := h.2 c t r hI
    have hl := fx_nth_lt r k _ hk
    have hv := List.getElem?_eq_getElem (l := vs) (i := k) (by omega)
    obtain ⟨x, e, g1, g2⟩ := h3 k _ _ hk hv
    dsimp only at g1 g2
    have : fx_i w c k = x := gx_rd_i (by unfold gx_rd; rw [h1]; show vs[k]? = _; rw [hv, e])
    unfold gx_m
    rw [this]
    exact ⟨g1, g2⟩
theorem gx_in_to {w : sx_W} (h : bx_in fx_S w) (hI : gx_I (gx_m w)) : bx_in bw_INV w := by
  refine ⟨by rw [h.1]; unfold fx_S; rw [List.length_map], fun c t r hc => ?_⟩
  obtain ⟨vs, h1, h2, h3⟩ := h.2 c t _ (gx_S_at hc)
  rw [gx_len_map] at h2
  refine ⟨vs, h1, h2, fun k a v ha hv => ?_⟩
  have hg := h3 k (fx_top a) v (by rw [gx_nth_map, ha]; rfl) hv
  by_cases h0 : a.1 = 0
  · obtain ⟨t', lo, hi⟩ := a
    dsimp only at h0
    subst h0
    unfold fx_top at hg
    rw [if_pos rfl] at hg
    obtain ⟨x, rfl, -, -⟩ := hg
    have hx : fx_i w c k = x := gx_rd_i (by unfold gx_rd; rw [h1]; exact hv)
    have := hI c t r k lo hi hc ha
    unfold gx_m at this
    rw [hx] at this
    exact ⟨x, rfl, this.1, this.2⟩
  · by_cases h1' : a.1 = 1
    · have e := gx_lng_at hc ha h1'
      subst e
      exact hg
    · unfold fx_top at hg
      rw [if_neg h0, if_neg h1'] at hg
      exact hg
theorem gx_m_bd (w : sx_W) (c k : Nat) : -2147483648 ≤ gx_m w c k ∧ gx_m w c k ≤ 2147483647 := ⟨ax_lo _, ax_hi _⟩
/-- what the bounds say of a stretch of a row -/
def gx_cov (c : Nat) (lo hi : Int) (a b : Int) : Bool := match bw_INV[c]? with
  | some (_, r) => decide (0 ≤ lo) && decide (hi < (ax_len r : Int)) && bx_cov (fun v => decide (v.1 = 0) && decide (a ≤ v.2.1) && decide (v.2.2 ≤ b)) lo hi r 0
  | none => false
theorem gx_I_at {m : gx_M} (hI : gx_I m) (c : Nat) {z : Int} (lo hi a b : Int) (h : gx_cov c lo hi a b = true) (h1 : lo ≤ z) (h2 : z ≤ hi) : a ≤ m c z.toNat ∧ m c z.toNat ≤ b := by
  unfold gx_cov at h
  split at h
  · rename_i t r hc
    simp only [Bool.and_eq_true, decide_eq_true_eq] at h
    obtain ⟨⟨g1, g2⟩, g3⟩ := h
    obtain ⟨v, hv⟩ := bx_nth_len r z.toNat (by omega)
    have h4 := bx_cov_ok r 0 z.toNat v g3 hv (by omega) (by omega)
    simp only [Bool.and_eq_true, decide_eq_true_eq] at h4
    obtain ⟨⟨e, g4⟩, g5⟩ := h4
    obtain ⟨t', lo', hi'⟩ := v
    dsimp only at e g4 g5
    subst e
    have := hI c t r z.toNat lo' hi' hc hv
    omega
  · cases h
theorem gx_I_n {m : gx_M} (hI : gx_I m) (c k : Nat) (a b : Int) (h : gx_cov c (k : Int) (k : Int) a b = true) : a ≤ m c k ∧ m c k ≤ b := by
  have := gx_I_at hI c (z := (k : Int)) (k : Int) (k : Int) a b h (Int.le_refl _) (Int.le_refl _)
  rwa [Int.toNat_natCast] at this
/-- a number laid within its bounds -/
theorem gx_I_u {m : gx_M} (hI : gx_I m) {c k : Nat} {v : Int} (h : ∀ (t : Nat) (r : ax_A) (lo hi : Int), bw_INV[c]? = some (t, r) → ax_nth r k = some (0, lo, hi) → lo ≤ v ∧ v ≤ hi) : gx_I (gx_u m c k v) := by
  intro c' t r k' lo hi h1 h2
  unfold gx_u
  by_cases hc : c' = c ∧ k' = k
  · rw [if_pos hc]
    obtain ⟨rfl, rfl⟩ := hc
    exact h t r lo hi h1 h2
  · rw [if_neg hc]
    exact hI c' t r k' lo hi h1 h2
def gx_cow (c : Nat) (lo hi : Int) (a b : Int) : Bool := match bw_INV[c]? with
  | some (_, r) => decide (0 ≤ lo) && bx_cov (fun v => decide (v.1 = 0) && decide (v.2.1 ≤ a) && decide (b ≤ v.2.2)) lo hi r 0
  | none => false
theorem gx_I_w {m : gx_M} (hI : gx_I m) (c : Nat) {z v : Int} (lo hi a b : Int) (h : gx_cow c lo hi a b = true) (h1 : lo ≤ z) (h2 : z ≤ hi) (h3 : a ≤ v) (h4 : v ≤ b) : gx_I (gx_u m c z.toNat v) := by
  refine gx_I_u hI (fun t r lo' hi' hc hv => ?_)
  unfold gx_cow at h
  rw [hc] at h
  simp only [Bool.and_eq_true, decide_eq_true_eq] at h
  obtain ⟨g1, g3⟩ := h
  have h5 := bx_cov_ok r 0 z.toNat _ g3 hv (by omega) (by omega)
  simp only [Bool.and_eq_true, decide_eq_true_eq] at h5
  omega
/-! a contract of the reader, used here -/
def gx_fits (a : ax_V) (v : gx_V) : Prop := match v with
  | .inl x => a.1 = 0 ∧ a.2.1 ≤ x ∧ x ≤ a.2.2
  | .inr c => a.1 = 2 ∧ a.2.1.toNat = c
def gx_pre : ax_L → gx_L → Prop
  | [], _ => True
  | (i, a) :: r, L => (match gx_get L i with
    | some v => gx_fits a v
    | none => False) ∧ gx_pre r L
theorem gx_fits_ok {a : ax_V} {v : gx_V} {u : Value} (h : gx_fits a v) (hg : gx_g v u) : bx_c a u := by
  obtain ⟨t, lo, hi⟩ := a
  cases v with
  | inl x =>
    obtain ⟨e, h1, h2⟩ := h
    dsimp only at e h1 h2
    subst e
    obtain ⟨z, rfl, rfl⟩ := hg
    exact ⟨(fun h => by cases h), z, rfl, h1, h2⟩
  | inr c =>
    obtain ⟨e, h1⟩ := h
    dsimp only at e h1
    subst e
    have e2 : u = .ref c := hg
    exact ⟨(fun h => by cases h), by rw [e2, ← h1]; rfl⟩
theorem gx_pre_ok : ∀ {pre : ax_L} {L : gx_L} {lv : sx_L}, gx_pre pre L → gx_hl lv L → bx_cl pre lv
  | [], L, lv, _, _ => fun q hq => by cases hq
  | (i, a) :: r, L, lv, h, hl => by
    obtain ⟨h1, h2⟩ := h
    intro q hq
    rcases List.mem_cons.mp hq with rfl | hq
    · split at h1
      · rename_i v hv
        obtain ⟨u, e1, e2⟩ := gx_hl_get hl hv
        exact ⟨u, e1, gx_fits_ok h1 e2⟩
      · exact h1.elim
    · exact gx_pre_ok h2 hl q hq
def gx_fw (mods : bx_M) (m m' : gx_M) : Prop := ∀ c k : Nat, (∀ q ∈ mods, ¬ (q.1 = c ∧ q.2.1 ≤ k ∧ k < q.2.2)) → m' c k = m c k
theorem gx_fw.rf {mods : bx_M} {m : gx_M} : gx_fw mods m m := fun _ _ _ => rfl
theorem gx_fw.tr {mods : bx_M} {m m1 m2 : gx_M} (h : gx_fw mods m m1) (h' : gx_fw mods m1 m2) : gx_fw mods m m2 := fun c k hq => (h' c k hq).trans (h c k hq)
theorem gx_fw.sub {mods mods' : bx_M} {m m' : gx_M} (h : gx_fw mods m m') (hs : ∀ q ∈ mods, ∃ q' ∈ mods', q'.1 = q.1 ∧ q'.2.1 ≤ q.2.1 ∧ q.2.2 ≤ q'.2.2) : gx_fw mods' m m' := fun c k hq => h c k (fun q hm hx => by
  obtain ⟨q', h1, h2, h3, h4⟩ := hs q hm
  exact hq q' h1 ⟨by rw [h2]; exact hx.1, by omega, by omega⟩)
theorem gx_fw.w {mods : bx_M} {m m1 : gx_M} {c k : Nat} {v : Int} (h : gx_fw mods m m1) (hq : ∃ q ∈ mods, q.1 = c ∧ q.2.1 ≤ k ∧ k < q.2.2) : gx_fw mods m (gx_u m1 c k v) := fun c' k' hn => by
  obtain ⟨q, hm, hx⟩ := hq
  have hne : ¬ (c' = c ∧ k' = k) := fun e => hn q hm ⟨hx.1.trans e.1.symm, by omega, by omega⟩
  rw [gx_u_ne hne]
  exact h c' k' hn
theorem gx_fw.nil {m m' : gx_M} (h : gx_fw [] m m') : m' = m := by
  funext c k
  exact h c k (fun q hq => by cases hq)
def gx_end (e : Option ax_V) (r : Option Int) : Prop := match e, r with
  | none, none => True
  | some a, some x => a.1 = 0 ∧ a.2.1 ≤ x ∧ x ≤ a.2.2
  | _, _ => False
def gx_mB (mods : bx_M) : Bool := !(bx_star mods) && mods.all (fun q => match bw_INV[q.1]? with
  | some (_, r) => decide (q.2.2 ≤ ax_len r) && bx_cov (fun v => decide (v.1 = 0)) (q.2.1 : Int) ((q.2.2 : Int) - 1) r 0
  | none => false)
theorem gx_mB_ok {mods : bx_M} (h : gx_mB mods = true) : bx_star mods = false ∧ ∀ q ∈ mods, ∀ k, q.2.1 ≤ k → k < q.2.2 → ∃ t r a, fx_S[q.1]? = some (t, r) ∧ ax_nth r k = some a ∧ a = ax_top := by
  unfold gx_mB at h
  rw [Bool.and_eq_true, Bool.not_eq_true'] at h
  refine ⟨h.1, fun q hq k h1 h2 => ?_⟩
  have h3 := List.all_eq_true.mp h.2 q hq
  split at h3
  · rename_i t r hc
    rw [Bool.and_eq_true, decide_eq_true_eq] at h3
    obtain ⟨a, ha⟩ := bx_nth_len r k (by omega)
    have h4 := of_decide_eq_true (bx_cov_ok r 0 k a h3.2 ha (by omega) (by omega))
    refine ⟨t, _, _, gx_S_at hc, by rw [gx_nth_map, ha]; rfl, ?_⟩
    unfold fx_top
    rw [if_pos h4]
  · cases h3
section GXK
variable {xs : List Int32} {gX : gx_M → Prop} {w0 : sx_W}
def gx_XW (gX : gx_M → Prop) (w : sx_W) : Prop := gX (gx_m w)
theorem gx_m_far {w : sx_W} (h : bx_in fx_S w) {c k : Nat} (hc : ¬ c < 100000) : gx_rd w c k = none ∧ gx_m w c k = 0 := by
  have e1 : w.length ≤ c := by rw [h.1]; exact Nat.le_trans (by decide +kernel) (by omega : 100000 ≤ c)
  unfold gx_rd gx_m fx_i
  rw [List.getElem?_eq_none e1]
  exact ⟨rfl, rfl⟩
theorem gx_fw_of {mods : bx_M} {w w' : sx_W} (i1 : bx_in fx_S w) (i2 : bx_in fx_S w') (hst : bx_star mods = false) (h : bx_fw xs mods w w') : gx_fw mods (gx_m w) (gx_m w') := by
  rcases h with h | h
  · rw [hst] at h; cases h
  intro c k hq
  by_cases hc : c < 100000
  case neg => rw [(gx_m_far i1 hc).2, (gx_m_far i2 hc).2]
  have := h c k hq
  rw [bx_rd_w hc, bx_rd_w hc] at this
  unfold gx_m fx_i
  rw [this]
theorem gx_same_of {w w' : sx_W} (h : bx_in fx_S w) (h' : bx_in fx_S w') (hlong : ∀ c k, (∃ x y : Int32, gx_rd w c k = some (.int x) ∧ gx_rd w' c k = some (.int y)) ∨ gx_rd w' c k = gx_rd w c k) : gx_same w w' := fun c k => (hlong c k).symm
/-- ends of a stretch that come back -/
theorem gx_K {mi pc dk d : Nat} {pre : ax_L} {e : Option ax_V} {npc : Nat} {el : ax_L} {eq : bx_Q} {mods : bx_M} {lm : List Nat} {ctr : Option (Nat × Bool)} {M : sx_M} {L : gx_L} {m : gx_M} {Q : gx_Q} (hK : bx_Kok yp_P xs bw_INV (gx_XW gX) (mi, pc, pre, [], [(some e, npc, el, eq)], mods, lm, dk, ctr)) (hM : yp_P.2.2.2.1[mi]? = some M) (hd : dk ≤ d) (hmods : gx_mB mods = true) (he : (match e with | none => true | some a => decide (a.1 = 0)) = true) (hpre : gx_pre pre L) (hI : gx_I m) (hX : gX m)
    (hq : ∀ r m', gx_end e r → gx_I m' → gX m' → gx_fw mods m m' → Q r m') : gx_to xs w0 d M pc L [] m Q := by
  intro lv sv w hl hs hw hm
  obtain ⟨hst, hnl⟩ := gx_mB_ok hmods
  have := gx_hs0 hs
  subst this
  subst hm
  obtain ⟨e1, he1, lv', w', h1, h2, h3, h4⟩ := hK M hM d hd lv w (gx_pre_ok hpre hl) ⟨gx_in_to hw.1 hI, hX⟩ (fun q hq => by cases hq)
  rw [List.mem_singleton] at he1
  subst he1
  obtain ⟨rv, h5, h6⟩ := h4
  obtain ⟨i1, i2⟩ := gx_in_of h1.1
  have hf := gx_fw_of hw.1 i1 hst h3
  have hsame : gx_same w w' := by
    intro c k
    by_cases hmod : ∃ q ∈ mods, q.1 = c ∧ q.2.1 ≤ k ∧ k < q.2.2
    · obtain ⟨q, hm, rfl, hk1, hk2⟩ := hmod
      obtain ⟨t, r, a, g1, g2, rfl⟩ := hnl q hm k hk1 hk2
      obtain ⟨vs, j1, j2, j3, -⟩ := fx_int hw.1 g1 g2
      obtain ⟨vs', j1', j2', j3', -⟩ := fx_int i1 g1 g2
      exact .inr ⟨_, _, by unfold gx_rd; rw [j1]; exact j3, by unfold gx_rd; rw [j1']; exact j3'⟩
    · left
      rcases h3 with h3 | h3
      · rw [hst] at h3; cases h3
      · have hc : c < 100000 ∨ ¬ c < 100000 := by omega
        rcases hc with hc | hc
        · have := h3 c k (fun q hm hx => hmod ⟨q, hm, hx⟩)
          rw [bx_rd_w hc, bx_rd_w hc] at this
          exact this
        · rw [(gx_m_far hw.1 hc).1, (gx_m_far i1 hc).1]
  have hgo : ∃ r : Option Int, gx_ro r rv ∧ gx_end e r := by
    unfold bx_co at h5
    split at h5
    · exact ⟨none, trivial, trivial⟩
    · rename_i a v
      obtain ⟨t, lo, hi⟩ := a
      obtain ⟨n4, hg⟩ := h5
      have h0 : t = 0 := of_decide_eq_true he
      subst h0
      obtain ⟨x, rfl, g1, g2⟩ := hg
      exact ⟨some x.toInt, ⟨x, rfl, rfl⟩, rfl, g1, g2⟩
    · exact h5.elim
  obtain ⟨r, r1, r2⟩ := hgo
  exact ⟨(rv, w'), r, h6, ⟨i1, hw.2.tr hsame⟩, r1, hq r _ r2 i2 h1.2 hf⟩
/-- a contract out of what is shown here -/
def gx_L0 : ax_L → List Int → gx_L
  | [], _ => []
  | (i, a) :: r, v => if a.1 = 2 then (i, .inr a.2.1.toNat) :: gx_L0 r v else match v with
    | x :: v' => (i, .inl x) :: gx_L0 r v'
    | [] => []
def gx_pre0 : ax_L → List Int → Prop
  | [], _ => True
  | (_, a) :: r, v => if a.1 = 2 then gx_pre0 r v else match v with
    | x :: v' => (a.1 = 0 ∧ a.2.1 ≤ x ∧ x ≤ a.2.2) ∧ gx_pre0 r v'
    | [] => False
def gx_kinds (pre : ax_L) : Bool := pre.all (fun q => decide (q.2.1 = 0) || decide (q.2.1 = 2))
theorem gx_pre0_ok : ∀ {pre : ax_L} {lv : sx_L}, gx_kinds pre = true → bx_cl pre lv → ∃ v : List Int, gx_pre0 pre v ∧ gx_hl lv (gx_L0 pre v)
  | [], lv, _, _ => ⟨[], trivial, fun q hq => by cases hq⟩
  | (i, a) :: r, lv, hk, h => by
    unfold gx_kinds at hk
    rw [List.all_cons, Bool.and_eq_true] at hk
    obtain ⟨v, h1, h2⟩ := gx_pre0_ok (pre := r) (lv := lv) hk.2 (fun q hq => h q (List.mem_cons_of_mem _ hq))
    obtain ⟨u, e1, -, e2⟩ := h (i, a) List.mem_cons_self
    obtain ⟨t, lo, hi⟩ := a
    have hk1 := hk.1
    dsimp only at hk1 e2
    rw [Bool.or_eq_true, decide_eq_true_eq, decide_eq_true_eq] at hk1
    rcases hk1 with rfl | rfl
    · obtain ⟨x, rfl, g1, g2⟩ := e2
      refine ⟨x.toInt :: v, ⟨⟨rfl, g1, g2⟩, h1⟩, fun q hq => ?_⟩
      rcases List.mem_cons.mp hq with rfl | hq
      · exact ⟨_, e1, x, rfl, rfl⟩
      · exact h2 q hq
    · have e3 : u = .ref lo.toNat := e2
      subst e3
      refine ⟨v, h1, fun q hq => ?_⟩
      rcases List.mem_cons.mp hq with rfl | hq
      · exact ⟨_, e1, rfl⟩
      · exact h2 q hq
def gx_rb (r : Option Int) : Prop := ∀ x, r = some x → -2147483648 ≤ x ∧ x ≤ 2147483647
theorem gx_ro_rb {r : Option Int} {v : Option Value} (h : gx_ro r v) : gx_rb r := by
  intro x hx
  subst hx
  cases v with
  | none => exact h.elim
  | some u => obtain ⟨z, -, rfl⟩ := h; exact ⟨ax_lo z, ax_hi z⟩
def gx_modsI (mods : bx_M) : Bool := mods.all (fun q => decide (q.1 < 100000))
theorem gx_K_of {mi pc dk : Nat} {pre : ax_L} {e : Option ax_V} {npc : Nat} {el : ax_L} {mods : bx_M} {lm : List Nat} {ctr : Option (Nat × Bool)} (hk : gx_kinds pre = true) (he : (match e with | none => true | some a => decide (a.1 = 0)) = true)
    (h : ∀ (M : sx_M) (w0 : sx_W) (v : List Int) (m : gx_M), yp_P.2.2.2.1[mi]? = some M → gx_pre0 pre v → gx_I m → gX m → (∀ c k, -2147483648 ≤ m c k ∧ m c k ≤ 2147483647) → gx_to xs w0 dk M pc (gx_L0 pre v) [] m (fun r m' => gx_rb r → gx_end e r ∧ gx_I m' ∧ gX m' ∧ gx_fw mods m m')) : bx_Kok yp_P xs bw_INV (gx_XW gX) (mi, pc, pre, [], [(some e, npc, el, [])], mods, lm, dk, ctr) := by
  intro M hM d0 hd lv w hcl hw hq
  obtain ⟨v, h1, h2⟩ := gx_pre0_ok hk hcl
  obtain ⟨i1, i2⟩ := gx_in_of hw.1
  obtain ⟨o, r, g1, g2, g3, g0⟩ := gx_to_up hd (h M w v (gx_m w) hM h1 i2 hw.2 (gx_m_bd w)) lv [] w h2 trivial ⟨i1, gx_same.rf⟩ rfl
  obtain ⟨g4, g5, g6, g7⟩ := g0 (gx_ro_rb g3)
  refine ⟨(some e, npc, el, []), List.mem_singleton.mpr rfl, lv, o.2, ⟨gx_in_to g2.1 g5, g6⟩, (fun q hq => by cases hq), Or.inr (fun c k hm => ?_), ?_⟩
  · have hc : c < 100000 ∨ ¬ c < 100000 := by omega
    rcases hc with hc | hc
    · rw [bx_rd_w hc, bx_rd_w hc]
      exact g2.2.eq (g7 c k hm)
    · unfold bx_rd
      split
      · rfl
      · split
        · rfl
        · have e1 : w.length ≤ c := by rw [i1.1]; exact Nat.le_trans (by decide +kernel) (by omega : 100000 ≤ c)
          have e2 : o.2.length ≤ c := by rw [g2.1.1]; exact Nat.le_trans (by decide +kernel) (by omega : 100000 ≤ c)
          rw [List.getElem?_eq_none e1, List.getElem?_eq_none e2]
  · refine ⟨o.1, ?_, g1⟩
    unfold gx_end at g4
    cases e with
    | none =>
      cases r with
      | none =>
        cases ho : o.1 with
        | none => trivial
        | some u => rw [ho] at g3; exact g3.elim
      | some x => exact g4.elim
    | some a =>
      cases r with
      | none => exact g4.elim
      | some x =>
        obtain ⟨t, lo, hi⟩ := a
        obtain ⟨e0, k1, k2⟩ := g4
        dsimp only at e0 k1 k2
        subst e0
        cases ho : o.1 with
        | none => rw [ho] at g3; exact g3.elim
        | some u =>
          rw [ho] at g3
          obtain ⟨z, rfl, rfl⟩ := g3
          exact ⟨(fun h => by cases h), z, rfl, k1, k2⟩
end GXK
end
section
/-! BY HAND, 6: switches by a table; what 32 bits say of a name -/
section GXD
variable {xs : List Int32} {w0 : sx_W} {d : Nat} {M : sx_M} {pc : Nat} {L : gx_L} {st : List gx_V} {m : gx_M} {Q : gx_Q}
noncomputable def gx_isTsw (M : sx_M) (pc dt : Nat) (lo hi : Int) (ts : List Nat) : Bool := match sx_row M pc with
  | some (_, .tableswitch d lo' hi' offs, _) => decide (lo' = lo) && decide (hi' = hi) && decide ((pc : Int) + d = (dt : Int)) && decide (offs.toList.map (fun o => (pc : Int) + o) = ts.map (fun (t : Nat) => (t : Int))) && decide (lo + ts.length = hi + 1)
  | _ => false
noncomputable def gx_sw (xs : List Int32) (w0 : sx_W) (d : Nat) (M : sx_M) (L : gx_L) (st : List gx_V) (m : gx_M) (Q : gx_Q) (x : Int) : List Nat → Int → Prop
  | [], _ => True
  | t :: ts, v => (x = v → gx_to xs w0 d M t L st m Q) ∧ gx_sw xs w0 d M L st m Q x ts (v + 1)
theorem gx_sw_n {x v : Int} : gx_sw xs w0 d M L st m Q x [] v := trivial
theorem gx_sw_c {x v : Int} {t : Nat} {ts : List Nat} (h : x = v → gx_to xs w0 d M t L st m Q) (h' : gx_sw xs w0 d M L st m Q x ts (v + 1)) : gx_sw xs w0 d M L st m Q x (t :: ts) v := ⟨h, h'⟩
theorem gx_sw_at {x : Int} : ∀ (ts : List Nat) (v : Int) (j t : Nat), gx_sw xs w0 d M L st m Q x ts v → ts[j]? = some t → x = v + j → gx_to xs w0 d M t L st m Q
  | [], v, j, t, _, h, _ => by cases h
  | t0 :: ts, v, 0, t, h, hj, hx => by
    cases hj
    exact h.1 (by omega)
  | t0 :: ts, v, j + 1, t, h, hj, hx => gx_sw_at ts (v + 1) j t h.2 hj (by omega)
theorem gx_tsw {x : Int} (dt : Nat) (lo hi : Int) (ts : List Nat) (hE : gx_isTsw M pc dt lo hi ts = true) (hd : x < lo ∨ hi < x → gx_to xs w0 d M dt L st m Q) (h : gx_sw xs w0 d M L st m Q x ts lo) : gx_to xs w0 d M pc L (.inl x :: st) m Q := by
  unfold gx_isTsw at hE
  split at hE
  · rename_i p dd lo' hi' offs rest hrow
    obtain ⟨len, a, k, q, z⟩ := rest
    simp only [Bool.and_eq_true, decide_eq_true_eq] at hE
    obtain ⟨⟨⟨⟨rfl, rfl⟩, hdt⟩, hts⟩, hlen⟩ := hE
    have hp : p = pc := sx_row_pc hrow
    subst hp
    intro lv sv w hl hs hw hm
    obtain ⟨u, s1, rfl, g1, g2⟩ := gx_hs1 hs
    obtain ⟨z', rfl, rfl⟩ := gx_g_int g1
    by_cases hc : z'.toInt < lo' ∨ hi' < z'.toInt
    · obtain ⟨o, ro, k1, k2, k3, k4⟩ := hd hc lv s1 w hl g2 hw hm
      refine ⟨o, ro, sx_rn_step hrow rfl rfl (r := (dt, lv, s1, w, 0, 0)) ?_ ⟨rfl, rfl⟩ k1, k2, k3, k4⟩
      dsimp only [sx_step]
      unfold sx_tsw
      dsimp only
      rw [if_pos hc]
      unfold sx_jmp
      rw [if_pos (by omega), hdt, Int.toNat_natCast]
      rfl
    · have hj : (z'.toInt - lo').toNat < ts.length := by omega
      have ht := List.getElem?_eq_getElem hj
      have hr := gx_sw_at ts lo' (z'.toInt - lo').toNat _ h ht (by omega)
      obtain ⟨o, ro, k1, k2, k3, k4⟩ := hr lv s1 w hl g2 hw hm
      have ho : (offs.toList.map (fun o => (p : Int) + o))[(z'.toInt - lo').toNat]? = some ((ts[(z'.toInt - lo').toNat] : Nat) : Int) := by
        rw [hts, List.getElem?_map, ht]
        rfl
      rw [List.getElem?_map] at ho
      cases hof : offs.toList[(z'.toInt - lo').toNat]? with
      | none => rw [hof] at ho; cases ho
      | some off =>
        rw [hof] at ho
        have ho' : (p : Int) + off = ((ts[(z'.toInt - lo').toNat] : Nat) : Int) := by simpa using ho
        rw [Array.getElem?_toList] at hof
        refine ⟨o, ro, sx_rn_step hrow rfl rfl (r := (ts[(z'.toInt - lo').toNat], lv, s1, w, 0, 0)) ?_ ⟨rfl, rfl⟩ k1, k2, k3, k4⟩
        dsimp only [sx_step]
        unfold sx_tsw
        dsimp only
        rw [if_neg hc, hof]
        dsimp only
        unfold sx_jmp
        rw [if_pos (by omega), ho', Int.toNat_natCast]
        rfl
  · cases hE
theorem gx_to_int {i : Nat} {x : Int} (hm : (i, .inl x) ∈ L) (h : -2147483648 ≤ x ∧ x ≤ 2147483647 → gx_to xs w0 d M pc L st m Q) : gx_to xs w0 d M pc L st m Q := by
  intro lv sv w hl hs hw hmm
  obtain ⟨u, -, z, -, rfl⟩ := hl _ hm
  exact h ⟨ax_lo z, ax_hi z⟩ lv sv w hl hs hw hmm
theorem gx_to_s {x : Int} (h : -2147483648 ≤ x ∧ x ≤ 2147483647 → gx_to xs w0 d M pc L (.inl x :: st) m Q) : gx_to xs w0 d M pc L (.inl x :: st) m Q := by
  intro lv sv w hl hs hw hmm
  obtain ⟨u, s1, rfl, g1, g2⟩ := gx_hs1 hs
  obtain ⟨z, rfl, rfl⟩ := gx_g_int g1
  exact h ⟨ax_lo z, ax_hi z⟩ lv _ w hl hs hw hmm
theorem gx_to_m (h : (∀ c k, -2147483648 ≤ m c k ∧ m c k ≤ 2147483647) → gx_to xs w0 d M pc L st m Q) : gx_to xs w0 d M pc L st m Q := by
  intro lv sv w hl hs hw hmm
  exact h (fun c k => hmm ▸ gx_m_bd w c k) lv sv w hl hs hw hmm
end GXD
/-! bits -/
theorem gx_oi {x : Int} (h1 : -2147483648 ≤ x) (h2 : x ≤ 2147483647) : (Int32.ofInt x).toInt = x := by
  rw [Int32.toInt_ofInt]
  exact ax_bm h1 h2
theorem gx_and_bd (x y : Int) (h : 0 ≤ y ∧ y ≤ 2147483647) : 0 ≤ gx_and x y ∧ gx_and x y ≤ y := by
  have := ax_and_bd (Int32.ofInt x) (Int32.ofInt y) (by rw [gx_oi (by omega) h.2]; exact h.1)
  rw [gx_oi (by omega) h.2] at this
  exact this
def gx_has (s k : Int) : Prop := gx_and (gx_shr s k) 1 = 1
end
section
/-! roads of methods read by hand, from cut points to the next ones (printed by wip/gen/gxall.py) -/
/-- in from 0 on -/
theorem gt162_0 {xs : List Int32} {w0 : sx_W} {d : Nat} {Q : gx_Q} {m : gx_M} {x0 x1 x2 : Int}
    (h1 : (x0 < x1) → Q (some 0) m)
    (h2 : (x1 ≤ x0) → (x2 < x0) → Q (some 0) m)
    (h3 : (x1 ≤ x0) → (x0 ≤ x2) → Q (some 1) m) : gx_to xs w0 d yp_m162 0 [(0, .inl x0), (1, .inl x1), (2, .inl x2)] [] m Q := by
  refine gx_blk (C := True) (npc := 2) (L' := [(0, .inl x0), (1, .inl x1), (2, .inl x2)]) (st' := [.inl x1, .inl x0]) (m' := m) [((0, .iload_n 0, 1, 0, 0, 0, 0), (0, 0, 0)), ((1, .iload_n 1, 1, 0, 0, 0, 0), (0, 0, 0))] (by decide +kernel) rfl trivial ?_
  refine gx_cmp .lt 14 (by decide +kernel) (fun c1 => ?_) (fun c1 => ?_)
  · have c1 : x0 < x1 := c1
    refine gx_blk (C := True) (npc := 15) (L' := [(0, .inl x0), (1, .inl x1), (2, .inl x2)]) (st' := [.inl 0]) (m' := m) [((14, .iconst 0, 1, 0, 0, 0, 0), (0, 0, 0))] (by decide +kernel) rfl trivial ?_
    exact gx_retb (by decide +kernel) (by omega) (h1 c1)
  · have c1 : x1 ≤ x0 := by have h : ¬ (x0 < x1) := c1; omega
    refine gx_blk (C := True) (npc := 7) (L' := [(0, .inl x0), (1, .inl x1), (2, .inl x2)]) (st' := [.inl x2, .inl x0]) (m' := m) [((5, .iload_n 0, 1, 0, 0, 0, 0), (0, 0, 0)), ((6, .iload_n 2, 1, 0, 0, 0, 0), (0, 0, 0))] (by decide +kernel) rfl trivial ?_
    refine gx_cmp .gt 14 (by decide +kernel) (fun c2 => ?_) (fun c2 => ?_)
    · have c2 : x2 < x0 := c2
      refine gx_blk (C := True) (npc := 15) (L' := [(0, .inl x0), (1, .inl x1), (2, .inl x2)]) (st' := [.inl 0]) (m' := m) [((14, .iconst 0, 1, 0, 0, 0, 0), (0, 0, 0))] (by decide +kernel) rfl trivial ?_
      exact gx_retb (by decide +kernel) (by omega) (h2 c1 c2)
    · have c2 : x0 ≤ x2 := by have h : ¬ (x2 < x0) := c2; omega
      refine gx_blk (C := True) (npc := 15) (L' := [(0, .inl x0), (1, .inl x1), (2, .inl x2)]) (st' := [.inl 1]) (m' := m) [((10, .iconst 1, 1, 0, 0, 0, 0), (0, 0, 0)), ((11, .goto 4, 3, 0, 0, 0, 0), (0, 0, 0))] (by decide +kernel) rfl trivial ?_
      exact gx_retb (by decide +kernel) (by omega) (h3 c1 c2)

/-- isPerson from 0 on -/
theorem gt164_0 {xs : List Int32} {w0 : sx_W} {d : Nat} {Q : gx_Q} {m : gx_M} {x1 : Int} (hI : gx_I m)
    (h1 : (x1 < 0) → Q (some 0) m)
    (h2 : (0 ≤ x1) → (8 ≤ x1) → Q (some 0) m)
    (h3 : (0 ≤ x1) → (x1 < 8) → gx_to xs w0 d yp_m165 0 [(0, .inl (m 87 1128)), (1, .inl x1)] [] m (fun r m' => gx_to xs w0 (d + 1) yp_m164 22 [] (gx_rs r ++ []) m' Q)) : gx_to xs w0 (d + 1) yp_m164 0 [(0, .inr 86), (1, .inl x1)] [] m Q := by
  refine gx_blk (C := True) (npc := 1) (L' := [(0, .inr 86), (1, .inl x1)]) (st' := [.inl x1]) (m' := m) [((0, .iload_n 1, 1, 0, 0, 0, 0), (0, 0, 0))] (by decide +kernel) rfl trivial ?_
  refine gx_if .lt 29 (by decide +kernel) (fun c1 => ?_) (fun c1 => ?_)
  · have c1 : x1 < 0 := c1
    refine gx_blk (C := True) (npc := 30) (L' := [(0, .inr 86), (1, .inl x1)]) (st' := [.inl 0]) (m' := m) [((29, .iconst 0, 1, 0, 0, 0, 0), (0, 0, 0))] (by decide +kernel) rfl trivial ?_
    exact gx_retb (by decide +kernel) (by omega) (h1 c1)
  · have c1 : 0 ≤ x1 := by have h : ¬ (x1 < 0) := c1; omega
    refine gx_blk (C := True) (npc := 7) (L' := [(0, .inr 86), (1, .inl x1)]) (st' := [.inl 8, .inl x1]) (m' := m) [((4, .iload_n 1, 1, 0, 0, 0, 0), (0, 0, 0)), ((5, .bipush 8, 2, 0, 0, 0, 0), (0, 0, 0))] (by decide +kernel) rfl trivial ?_
    refine gx_cmp .ge 29 (by decide +kernel) (fun c2 => ?_) (fun c2 => ?_)
    · have c2 : 8 ≤ x1 := c2
      refine gx_blk (C := True) (npc := 30) (L' := [(0, .inr 86), (1, .inl x1)]) (st' := [.inl 0]) (m' := m) [((29, .iconst 0, 1, 0, 0, 0, 0), (0, 0, 0))] (by decide +kernel) rfl trivial ?_
      exact gx_retb (by decide +kernel) (by omega) (h2 c1 c2)
    · have c2 : x1 < 8 := by have h : ¬ (8 ≤ x1) := c2; omega
      have f1 := gx_I_n hI 87 1128 0 255 (by decide +kernel)
      refine gx_blk (C := (True ∧ (0 ≤ 1128 ∧ 1128 < 1131))) (npc := 19) (L' := [(0, .inr 86), (1, .inl x1)]) (st' := [.inl x1, .inl (m 87 1128)]) (m' := m) [((10, .aload_n 0, 1, 0, 0, 0, 0), (0, 0, 0)), ((11, .getfield 7, 3, 10, 0, 5113, 0), (1, 86, 87)), ((14, .sipush 1128, 3, 0, 0, 0, 0), (0, 0, 0)), ((17, .iaload, 1, 0, 0, 0, 0), (0, 87, 1131)), ((18, .iload_n 1, 1, 0, 0, 0, 0), (0, 0, 0))] (by decide +kernel) rfl ⟨trivial, (by omega)⟩ ?_
      exact gx_calls (E := (19, .invokestatic 104, 3, 165, 0, 6035, 0)) (M' := yp_m165) [.inl (m 87 1128), .inl x1] [] rfl (by decide +kernel) rfl ⟨rfl, rfl⟩ rfl rfl (Nat.le_of_ble_eq_true rfl) (Nat.le_of_ble_eq_true rfl) rfl (gx_to_mono (h3 c1 c2) (fun r m' h' => gx_to_pick [] h'))

/-- isPerson from 22 on -/
theorem gt164_22 {xs : List Int32} {w0 : sx_W} {d : Nat} {Q : gx_Q} {m : gx_M} {s0 : Int}
    (h1 : (s0 = 0) → Q (some 0) m)
    (h2 : (s0 ≠ 0) → Q (some 1) m) : gx_to xs w0 d yp_m164 22 [] [.inl s0] m Q := by
  refine gx_if .eq 29 (by decide +kernel) (fun c1 => ?_) (fun c1 => ?_)
  · have c1 : s0 = 0 := c1
    refine gx_blk (C := True) (npc := 30) (L' := []) (st' := [.inl 0]) (m' := m) [((29, .iconst 0, 1, 0, 0, 0, 0), (0, 0, 0))] (by decide +kernel) rfl trivial ?_
    exact gx_retb (by decide +kernel) (by omega) (h1 c1)
  · have c1 : s0 ≠ 0 := c1
    refine gx_blk (C := True) (npc := 30) (L' := []) (st' := [.inl 1]) (m' := m) [((25, .iconst 1, 1, 0, 0, 0, 0), (0, 0, 0)), ((26, .goto 4, 3, 0, 0, 0, 0), (0, 0, 0))] (by decide +kernel) rfl trivial ?_
    exact gx_retb (by decide +kernel) (by omega) (h2 c1)

/-- has from 0 on -/
theorem gt165_0 {xs : List Int32} {w0 : sx_W} {d : Nat} {Q : gx_Q} {m : gx_M} {x0 x1 : Int}
    (h1 : ((gx_and (gx_shr x0 x1) 1) ≠ 1) → Q (some 0) m)
    (h2 : ((gx_and (gx_shr x0 x1) 1) = 1) → Q (some 1) m) : gx_to xs w0 d yp_m165 0 [(0, .inl x0), (1, .inl x1)] [] m Q := by
  have f1 := gx_and_bd (gx_shr x0 x1) 1 (by decide)
  refine gx_blk (C := True) (npc := 6) (L' := [(0, .inl x0), (1, .inl x1)]) (st' := [.inl 1, .inl (gx_and (gx_shr x0 x1) 1)]) (m' := m) [((0, .iload_n 0, 1, 0, 0, 0, 0), (0, 0, 0)), ((1, .iload_n 1, 1, 0, 0, 0, 0), (0, 0, 0)), ((2, .ishr, 1, 0, 0, 0, 0), (0, 0, 0)), ((3, .iconst 1, 1, 0, 0, 0, 0), (0, 0, 0)), ((4, .iand, 1, 0, 0, 0, 0), (0, 0, 0)), ((5, .iconst 1, 1, 0, 0, 0, 0), (0, 0, 0))] (by decide +kernel) rfl trivial ?_
  refine gx_cmp .ne 13 (by decide +kernel) (fun c1 => ?_) (fun c1 => ?_)
  · have c1 : (gx_and (gx_shr x0 x1) 1) ≠ 1 := c1
    refine gx_blk (C := True) (npc := 14) (L' := [(0, .inl x0), (1, .inl x1)]) (st' := [.inl 0]) (m' := m) [((13, .iconst 0, 1, 0, 0, 0, 0), (0, 0, 0))] (by decide +kernel) rfl trivial ?_
    exact gx_retb (by decide +kernel) (by omega) (h1 c1)
  · have c1 : (gx_and (gx_shr x0 x1) 1) = 1 := by have h : ¬ ((gx_and (gx_shr x0 x1) 1) ≠ 1) := c1; omega
    refine gx_blk (C := True) (npc := 14) (L' := [(0, .inl x0), (1, .inl x1)]) (st' := [.inl 1]) (m' := m) [((9, .iconst 1, 1, 0, 0, 0, 0), (0, 0, 0)), ((10, .goto 4, 3, 0, 0, 0, 0), (0, 0, 0))] (by decide +kernel) rfl trivial ?_
    exact gx_retb (by decide +kernel) (by omega) (h2 c1)

/-- bits from 0 on -/
theorem gt206_0 {xs : List Int32} {w0 : sx_W} {d : Nat} {Q : gx_Q} {m : gx_M} {x0 : Int}
    (h1 : gx_to xs w0 d yp_m206 4 [(0, .inl x0), (1, .inl 0), (2, .inl 0)] [] m Q) : gx_to xs w0 d yp_m206 0 [(0, .inl x0)] [] m Q := by
  refine gx_blk (C := True) (npc := 4) (L' := [(0, .inl x0), (1, .inl 0), (2, .inl 0)]) (st' := []) (m' := m) [((0, .iconst 0, 1, 0, 0, 0, 0), (0, 0, 0)), ((1, .istore_n 1, 1, 0, 0, 0, 0), (0, 0, 0)), ((2, .iconst 0, 1, 0, 0, 0, 0), (0, 0, 0)), ((3, .istore_n 2, 1, 0, 0, 0, 0), (0, 0, 0))] (by decide +kernel) rfl trivial ?_
  exact gx_to_pick [0, 1, 2] h1

/-- bits from 4 on -/
theorem gt206_4 {xs : List Int32} {w0 : sx_W} {d : Nat} {Q : gx_Q} {m : gx_M} {x0 x1 x2 : Int} (r_x2 : 0 ≤ x2 ∧ x2 ≤ 20)
    (h1 : (20 ≤ x2) → Q (some x1) m)
    (h2 : (x2 < 20) → gx_to xs w0 d yp_m206 4 [(0, .inl x0), (1, .inl (gx_w (x1 + (gx_and (gx_shr x0 x2) 1)))), (2, .inl (x2 + 1))] [] m Q) : gx_to xs w0 d yp_m206 4 [(0, .inl x0), (1, .inl x1), (2, .inl x2)] [] m Q := by
  refine gx_blk (C := True) (npc := 7) (L' := [(0, .inl x0), (1, .inl x1), (2, .inl x2)]) (st' := [.inl 20, .inl x2]) (m' := m) [((4, .iload_n 2, 1, 0, 0, 0, 0), (0, 0, 0)), ((5, .bipush 20, 2, 0, 0, 0, 0), (0, 0, 0))] (by decide +kernel) rfl trivial ?_
  refine gx_cmp .ge 24 (by decide +kernel) (fun c1 => ?_) (fun c1 => ?_)
  · have c1 : 20 ≤ x2 := c1
    refine gx_blk (C := True) (npc := 25) (L' := [(0, .inl x0), (1, .inl x1), (2, .inl x2)]) (st' := [.inl x1]) (m' := m) [((24, .iload_n 1, 1, 0, 0, 0, 0), (0, 0, 0))] (by decide +kernel) rfl trivial ?_
    exact gx_reti (by decide +kernel) (h1 c1)
  · have c1 : x2 < 20 := by have h : ¬ (20 ≤ x2) := c1; omega
    have f1 := gx_and_bd (gx_shr x0 x2) 1 (by decide)
    have e2 : gx_w (x2 + 1) = x2 + 1 := gx_w_id (by omega) (by omega)
    refine gx_blk (C := True) (npc := 4) (L' := [(0, .inl x0), (1, .inl (gx_w (x1 + (gx_and (gx_shr x0 x2) 1)))), (2, .inl (gx_w (x2 + 1)))]) (st' := []) (m' := m) [((10, .iload_n 1, 1, 0, 0, 0, 0), (0, 0, 0)), ((11, .iload_n 0, 1, 0, 0, 0, 0), (0, 0, 0)), ((12, .iload_n 2, 1, 0, 0, 0, 0), (0, 0, 0)), ((13, .ishr, 1, 0, 0, 0, 0), (0, 0, 0)), ((14, .iconst 1, 1, 0, 0, 0, 0), (0, 0, 0)), ((15, .iand, 1, 0, 0, 0, 0), (0, 0, 0)), ((16, .iadd, 1, 0, 0, 0, 0), (0, 0, 0)), ((17, .istore_n 1, 1, 0, 0, 0, 0), (0, 0, 0)), ((18, .iinc 2 1, 3, 0, 0, 0, 0), (0, 0, 0)), ((21, .goto (-17), 3, 0, 0, 0, 0), (0, 0, 0))] (by decide +kernel) rfl trivial ?_
    rw [e2]
    exact gx_to_pick [0, 1, 2] (h2 c1)

/-- reckon from 0 on -/
theorem gt209_0 {xs : List Int32} {w0 : sx_W} {d : Nat} {Q : gx_Q} {m : gx_M} {x0 x1 x2 : Int}
    (h1 : (x0 < 2 ∨ 8 < x0) → (x1 ≠ x2) → Q (some 0) m)
    (h2 : (x0 < 2 ∨ 8 < x0) → (x1 = x2) → Q (some 1) m)
    (h3 : (x0 = 2) → Q (some (gx_w (x1 + x2))) m)
    (h4 : (x0 = 3) → Q (some (gx_w (x1 - x2))) m)
    (h5 : (x0 = 4) → Q (some (gx_w (x1 * x2))) m)
    (k1 : (x0 = 5) → x2 ≠ 0)
    (h6 : (x0 = 5) → Q (some (gx_w (Int.tdiv x1 x2))) m)
    (k2 : (x0 = 6) → x2 ≠ 0)
    (h7 : (x0 = 6) → Q (some (Int.tmod x1 x2)) m)
    (h8 : (x0 = 7) → (x2 ≤ x1) → Q (some 0) m)
    (h9 : (x0 = 7) → (x1 < x2) → Q (some 1) m)
    (h10 : (x0 = 8) → (x1 ≤ x2) → Q (some 0) m)
    (h11 : (x0 = 8) → (x2 < x1) → Q (some 1) m) : gx_to xs w0 d yp_m209 0 [(0, .inl x0), (1, .inl x1), (2, .inl x2)] [] m Q := by
  refine gx_blk (C := True) (npc := 1) (L' := [(0, .inl x0), (1, .inl x1), (2, .inl x2)]) (st' := [.inl x0]) (m' := m) [((0, .iload_n 0, 1, 0, 0, 0, 0), (0, 0, 0))] (by decide +kernel) rfl trivial ?_
  refine gx_tsw 86 2 8 [44, 48, 52, 56, 60, 64, 75] (by decide +kernel) (fun c1 => ?_) (gx_sw_c (fun c1 => ?_) (gx_sw_c (fun c1 => ?_) (gx_sw_c (fun c1 => ?_) (gx_sw_c (fun c1 => ?_) (gx_sw_c (fun c1 => ?_) (gx_sw_c (fun c1 => ?_) (gx_sw_c (fun c1 => ?_) gx_sw_n)))))))
  · have c1 : x0 < 2 ∨ 8 < x0 := c1
    refine gx_blk (C := True) (npc := 88) (L' := [(0, .inl x0), (1, .inl x1), (2, .inl x2)]) (st' := [.inl x2, .inl x1]) (m' := m) [((86, .iload_n 1, 1, 0, 0, 0, 0), (0, 0, 0)), ((87, .iload_n 2, 1, 0, 0, 0, 0), (0, 0, 0))] (by decide +kernel) rfl trivial ?_
    refine gx_cmp .ne 95 (by decide +kernel) (fun c2 => ?_) (fun c2 => ?_)
    · have c2 : x1 ≠ x2 := c2
      refine gx_blk (C := True) (npc := 96) (L' := [(0, .inl x0), (1, .inl x1), (2, .inl x2)]) (st' := [.inl 0]) (m' := m) [((95, .iconst 0, 1, 0, 0, 0, 0), (0, 0, 0))] (by decide +kernel) rfl trivial ?_
      exact gx_reti (by decide +kernel) (h1 c1 c2)
    · have c2 : x1 = x2 := by have h : ¬ (x1 ≠ x2) := c2; omega
      refine gx_blk (C := True) (npc := 96) (L' := [(0, .inl x0), (1, .inl x1), (2, .inl x2)]) (st' := [.inl 1]) (m' := m) [((91, .iconst 1, 1, 0, 0, 0, 0), (0, 0, 0)), ((92, .goto 4, 3, 0, 0, 0, 0), (0, 0, 0))] (by decide +kernel) rfl trivial ?_
      exact gx_reti (by decide +kernel) (h2 c1 c2)
  · have c1 : x0 = 2 := c1
    refine gx_blk (C := True) (npc := 47) (L' := [(0, .inl x0), (1, .inl x1), (2, .inl x2)]) (st' := [.inl (gx_w (x1 + x2))]) (m' := m) [((44, .iload_n 1, 1, 0, 0, 0, 0), (0, 0, 0)), ((45, .iload_n 2, 1, 0, 0, 0, 0), (0, 0, 0)), ((46, .iadd, 1, 0, 0, 0, 0), (0, 0, 0))] (by decide +kernel) rfl trivial ?_
    exact gx_reti (by decide +kernel) (h3 c1)
  · have c1 : x0 = 3 := c1
    refine gx_blk (C := True) (npc := 51) (L' := [(0, .inl x0), (1, .inl x1), (2, .inl x2)]) (st' := [.inl (gx_w (x1 - x2))]) (m' := m) [((48, .iload_n 1, 1, 0, 0, 0, 0), (0, 0, 0)), ((49, .iload_n 2, 1, 0, 0, 0, 0), (0, 0, 0)), ((50, .isub, 1, 0, 0, 0, 0), (0, 0, 0))] (by decide +kernel) rfl trivial ?_
    exact gx_reti (by decide +kernel) (h4 c1)
  · have c1 : x0 = 4 := c1
    refine gx_blk (C := True) (npc := 55) (L' := [(0, .inl x0), (1, .inl x1), (2, .inl x2)]) (st' := [.inl (gx_w (x1 * x2))]) (m' := m) [((52, .iload_n 1, 1, 0, 0, 0, 0), (0, 0, 0)), ((53, .iload_n 2, 1, 0, 0, 0, 0), (0, 0, 0)), ((54, .imul, 1, 0, 0, 0, 0), (0, 0, 0))] (by decide +kernel) rfl trivial ?_
    exact gx_reti (by decide +kernel) (h5 c1)
  · have c1 : x0 = 5 := c1
    refine gx_blk (C := (True ∧ (x2 ≠ 0))) (npc := 59) (L' := [(0, .inl x0), (1, .inl x1), (2, .inl x2)]) (st' := [.inl (gx_w (Int.tdiv x1 x2))]) (m' := m) [((56, .iload_n 1, 1, 0, 0, 0, 0), (0, 0, 0)), ((57, .iload_n 2, 1, 0, 0, 0, 0), (0, 0, 0)), ((58, .idiv, 1, 0, 0, 0, 0), (0, 0, 0))] (by decide +kernel) rfl ⟨trivial, (k1 c1)⟩ ?_
    exact gx_reti (by decide +kernel) (h6 c1)
  · have c1 : x0 = 6 := c1
    refine gx_blk (C := (True ∧ (x2 ≠ 0))) (npc := 63) (L' := [(0, .inl x0), (1, .inl x1), (2, .inl x2)]) (st' := [.inl (Int.tmod x1 x2)]) (m' := m) [((60, .iload_n 1, 1, 0, 0, 0, 0), (0, 0, 0)), ((61, .iload_n 2, 1, 0, 0, 0, 0), (0, 0, 0)), ((62, .irem, 1, 0, 0, 0, 0), (0, 0, 0))] (by decide +kernel) rfl ⟨trivial, (k2 c1)⟩ ?_
    exact gx_reti (by decide +kernel) (h7 c1)
  · have c1 : x0 = 7 := c1
    refine gx_blk (C := True) (npc := 66) (L' := [(0, .inl x0), (1, .inl x1), (2, .inl x2)]) (st' := [.inl x2, .inl x1]) (m' := m) [((64, .iload_n 1, 1, 0, 0, 0, 0), (0, 0, 0)), ((65, .iload_n 2, 1, 0, 0, 0, 0), (0, 0, 0))] (by decide +kernel) rfl trivial ?_
    refine gx_cmp .ge 73 (by decide +kernel) (fun c2 => ?_) (fun c2 => ?_)
    · have c2 : x2 ≤ x1 := c2
      refine gx_blk (C := True) (npc := 74) (L' := [(0, .inl x0), (1, .inl x1), (2, .inl x2)]) (st' := [.inl 0]) (m' := m) [((73, .iconst 0, 1, 0, 0, 0, 0), (0, 0, 0))] (by decide +kernel) rfl trivial ?_
      exact gx_reti (by decide +kernel) (h8 c1 c2)
    · have c2 : x1 < x2 := by have h : ¬ (x2 ≤ x1) := c2; omega
      refine gx_blk (C := True) (npc := 74) (L' := [(0, .inl x0), (1, .inl x1), (2, .inl x2)]) (st' := [.inl 1]) (m' := m) [((69, .iconst 1, 1, 0, 0, 0, 0), (0, 0, 0)), ((70, .goto 4, 3, 0, 0, 0, 0), (0, 0, 0))] (by decide +kernel) rfl trivial ?_
      exact gx_reti (by decide +kernel) (h9 c1 c2)
  · have c1 : x0 = 8 := c1
    refine gx_blk (C := True) (npc := 77) (L' := [(0, .inl x0), (1, .inl x1), (2, .inl x2)]) (st' := [.inl x2, .inl x1]) (m' := m) [((75, .iload_n 1, 1, 0, 0, 0, 0), (0, 0, 0)), ((76, .iload_n 2, 1, 0, 0, 0, 0), (0, 0, 0))] (by decide +kernel) rfl trivial ?_
    refine gx_cmp .le 84 (by decide +kernel) (fun c2 => ?_) (fun c2 => ?_)
    · have c2 : x1 ≤ x2 := c2
      refine gx_blk (C := True) (npc := 85) (L' := [(0, .inl x0), (1, .inl x1), (2, .inl x2)]) (st' := [.inl 0]) (m' := m) [((84, .iconst 0, 1, 0, 0, 0, 0), (0, 0, 0))] (by decide +kernel) rfl trivial ?_
      exact gx_reti (by decide +kernel) (h10 c1 c2)
    · have c2 : x2 < x1 := by have h : ¬ (x1 ≤ x2) := c2; omega
      refine gx_blk (C := True) (npc := 85) (L' := [(0, .inl x0), (1, .inl x1), (2, .inl x2)]) (st' := [.inl 1]) (m' := m) [((80, .iconst 1, 1, 0, 0, 0, 0), (0, 0, 0)), ((81, .goto 4, 3, 0, 0, 0, 0), (0, 0, 0))] (by decide +kernel) rfl trivial ?_
      exact gx_reti (by decide +kernel) (h11 c1 c2)

/-- orders from 0 on -/
theorem gt239_0 {xs : List Int32} {w0 : sx_W} {d : Nat} {Q : gx_Q} {m : gx_M} {x0 : Int}
    (h1 : gx_to xs w0 d yp_m239 4 [(0, .inl x0), (1, .inl 1), (2, .inl 2)] [] m Q) : gx_to xs w0 d yp_m239 0 [(0, .inl x0)] [] m Q := by
  refine gx_blk (C := True) (npc := 4) (L' := [(0, .inl x0), (1, .inl 1), (2, .inl 2)]) (st' := []) (m' := m) [((0, .iconst 1, 1, 0, 0, 0, 0), (0, 0, 0)), ((1, .istore_n 1, 1, 0, 0, 0, 0), (0, 0, 0)), ((2, .iconst 2, 1, 0, 0, 0, 0), (0, 0, 0)), ((3, .istore_n 2, 1, 0, 0, 0, 0), (0, 0, 0))] (by decide +kernel) rfl trivial ?_
  exact gx_to_pick [0, 1, 2] h1

/-- orders from 4 on -/
theorem gt239_4 {xs : List Int32} {w0 : sx_W} {d : Nat} {Q : gx_Q} {m : gx_M} {x0 x1 x2 : Int} (r_x2 : 2 ≤ x2 ∧ x2 ≤ 2000)
    (h1 : (x0 < x2) → Q (some x1) m)
    (h2 : (x2 ≤ x0) → gx_to xs w0 d yp_m239 4 [(0, .inl x0), (1, .inl (gx_w (x1 * x2))), (2, .inl (x2 + 1))] [] m Q) : gx_to xs w0 d yp_m239 4 [(0, .inl x0), (1, .inl x1), (2, .inl x2)] [] m Q := by
  refine gx_blk (C := True) (npc := 6) (L' := [(0, .inl x0), (1, .inl x1), (2, .inl x2)]) (st' := [.inl x0, .inl x2]) (m' := m) [((4, .iload_n 2, 1, 0, 0, 0, 0), (0, 0, 0)), ((5, .iload_n 0, 1, 0, 0, 0, 0), (0, 0, 0))] (by decide +kernel) rfl trivial ?_
  refine gx_cmp .gt 19 (by decide +kernel) (fun c1 => ?_) (fun c1 => ?_)
  · have c1 : x0 < x2 := c1
    refine gx_blk (C := True) (npc := 20) (L' := [(0, .inl x0), (1, .inl x1), (2, .inl x2)]) (st' := [.inl x1]) (m' := m) [((19, .iload_n 1, 1, 0, 0, 0, 0), (0, 0, 0))] (by decide +kernel) rfl trivial ?_
    exact gx_reti (by decide +kernel) (h1 c1)
  · have c1 : x2 ≤ x0 := by have h : ¬ (x0 < x2) := c1; omega
    have e1 : gx_w (x2 + 1) = x2 + 1 := gx_w_id (by omega) (by omega)
    refine gx_blk (C := True) (npc := 4) (L' := [(0, .inl x0), (1, .inl (gx_w (x1 * x2))), (2, .inl (gx_w (x2 + 1)))]) (st' := []) (m' := m) [((9, .iload_n 1, 1, 0, 0, 0, 0), (0, 0, 0)), ((10, .iload_n 2, 1, 0, 0, 0, 0), (0, 0, 0)), ((11, .imul, 1, 0, 0, 0, 0), (0, 0, 0)), ((12, .istore_n 1, 1, 0, 0, 0, 0), (0, 0, 0)), ((13, .iinc 2 1, 3, 0, 0, 0, 0), (0, 0, 0)), ((16, .goto (-12), 3, 0, 0, 0, 0), (0, 0, 0))] (by decide +kernel) rfl trivial ?_
    rw [e1]
    exact gx_to_pick [0, 1, 2] (h2 c1)

/-- gcd from 0 on -/
theorem gt241_0 {xs : List Int32} {w0 : sx_W} {d : Nat} {Q : gx_Q} {m : gx_M} {x0 x1 : Int}
    (h1 : gx_to xs w0 d yp_m241 4 [(2, .inl x0), (3, .inl x1)] [] m Q) : gx_to xs w0 d yp_m241 0 [(0, .inl x0), (1, .inl x1)] [] m Q := by
  refine gx_blk (C := True) (npc := 4) (L' := [(0, .inl x0), (1, .inl x1), (2, .inl x0), (3, .inl x1)]) (st' := []) (m' := m) [((0, .iload_n 0, 1, 0, 0, 0, 0), (0, 0, 0)), ((1, .istore_n 2, 1, 0, 0, 0, 0), (0, 0, 0)), ((2, .iload_n 1, 1, 0, 0, 0, 0), (0, 0, 0)), ((3, .istore_n 3, 1, 0, 0, 0, 0), (0, 0, 0))] (by decide +kernel) rfl trivial ?_
  exact gx_to_pick [2, 3] h1

/-- gcd from 4 on -/
theorem gt241_4 {xs : List Int32} {w0 : sx_W} {d : Nat} {Q : gx_Q} {m : gx_M} {x2 x3 : Int}
    (h1 : (x3 = 0) → Q (some x2) m)
    (k1 : (x3 ≠ 0) → x3 ≠ 0)
    (h2 : (x3 ≠ 0) → gx_to xs w0 d yp_m241 4 [(2, .inl x3), (3, .inl (Int.tmod x2 x3))] [] m Q) : gx_to xs w0 d yp_m241 4 [(2, .inl x2), (3, .inl x3)] [] m Q := by
  refine gx_blk (C := True) (npc := 5) (L' := [(2, .inl x2), (3, .inl x3)]) (st' := [.inl x3]) (m' := m) [((4, .iload_n 3, 1, 0, 0, 0, 0), (0, 0, 0))] (by decide +kernel) rfl trivial ?_
  refine gx_if .eq 21 (by decide +kernel) (fun c1 => ?_) (fun c1 => ?_)
  · have c1 : x3 = 0 := c1
    refine gx_blk (C := True) (npc := 22) (L' := [(2, .inl x2), (3, .inl x3)]) (st' := [.inl x2]) (m' := m) [((21, .iload_n 2, 1, 0, 0, 0, 0), (0, 0, 0))] (by decide +kernel) rfl trivial ?_
    exact gx_reti (by decide +kernel) (h1 c1)
  · have c1 : x3 ≠ 0 := c1
    refine gx_blk (C := (True ∧ (x3 ≠ 0))) (npc := 4) (L' := [(2, .inl x3), (3, .inl (Int.tmod x2 x3)), (4, .inl (Int.tmod x2 x3))]) (st' := []) (m' := m) [((8, .iload_n 2, 1, 0, 0, 0, 0), (0, 0, 0)), ((9, .iload_n 3, 1, 0, 0, 0, 0), (0, 0, 0)), ((10, .irem, 1, 0, 0, 0, 0), (0, 0, 0)), ((11, .istore 4, 2, 0, 0, 0, 0), (0, 0, 0)), ((13, .iload_n 3, 1, 0, 0, 0, 0), (0, 0, 0)), ((14, .istore_n 2, 1, 0, 0, 0, 0), (0, 0, 0)), ((15, .iload 4, 2, 0, 0, 0, 0), (0, 0, 0)), ((17, .istore_n 3, 1, 0, 0, 0, 0), (0, 0, 0)), ((18, .goto (-14), 3, 0, 0, 0, 0), (0, 0, 0))] (by decide +kernel) rfl ⟨trivial, (k1 c1)⟩ ?_
    exact gx_to_pick [2, 3] (h2 c1)
end
section
/-! methods read by hand: leaves -/
section GLF
variable {xs : List Int32} {w0 : sx_W} {d : Nat} {Q : gx_Q} {m : gx_M}
theorem gc_has {s k : Int} (h1 : gx_has s k → Q (some 1) m) (h0 : ¬ gx_has s k → Q (some 0) m) : gx_to xs w0 d yp_m165 0 [(0, .inl s), (1, .inl k)] [] m Q :=
  gt165_0 (fun c => h0 c) (fun c => h1 c)
theorem gc_in {v a b : Int} (h1 : a ≤ v → v ≤ b → Q (some 1) m) (h0 : ¬ (a ≤ v ∧ v ≤ b) → Q (some 0) m) : gx_to xs w0 d yp_m162 0 [(0, .inl v), (1, .inl a), (2, .inl b)] [] m Q :=
  gt162_0 (fun c => h0 (by omega)) (fun c c' => h0 (by omega)) (fun c c' => h1 c c')
def gx_P (m : gx_M) (p : Int) : Prop := 0 ≤ p ∧ p < 8 ∧ gx_has (m 87 1128) p
theorem gc_isPerson {p : Int} (hI : gx_I m) (h1 : gx_P m p → Q (some 1) m) (h0 : ¬ gx_P m p → Q (some 0) m) : gx_to xs w0 (d + 1) yp_m164 0 [(0, .inr 86), (1, .inl p)] [] m Q :=
  gt164_0 hI (fun c => h0 (fun h => by have := h.1; omega)) (fun c c' => h0 (fun h => by have := h.2.1; omega)) (fun c c' => gc_has
    (fun hh => gt164_22 (fun e => by omega) (fun _ => h1 ⟨c, c', hh⟩))
    (fun hh => gt164_22 (fun _ => h0 (fun h => hh h.2.2)) (fun e => by omega)))
def gx_bits : Nat → Int → Int
  | 0, _ => 0
  | k + 1, s => gx_w (gx_bits k s + gx_and (gx_shr s (k : Int)) 1)
theorem gx_bits_bd (s : Int) : ∀ k : Nat, k ≤ 1000 → 0 ≤ gx_bits k s ∧ gx_bits k s ≤ k
  | 0, _ => ⟨Int.le_refl _, Int.le_refl _⟩
  | k + 1, hk => by
    have h := gx_bits_bd s k (by omega)
    have := gx_and_bd (gx_shr s (k : Int)) 1 (by decide)
    unfold gx_bits
    rw [gx_w_id (by omega) (by omega)]
    omega
theorem gl_bits {s : Int} (hQ : Q (some (gx_bits 20 s)) m) : ∀ (j k : Nat), k + j = 20 → gx_to xs w0 d yp_m206 4 [(0, .inl s), (1, .inl (gx_bits k s)), (2, .inl (k : Int))] [] m Q
  | 0, k, h => gt206_4 (by omega) (fun _ => by
    have e : k = 20 := by omega
    subst e
    exact hQ) (fun c => by omega)
  | j + 1, k, h => gt206_4 (by omega) (fun c => by omega) (fun c => by
    have := gl_bits hQ j (k + 1) (by omega)
    rw [show ((k + 1 : Nat) : Int) = (k : Int) + 1 by omega] at this
    exact this)
theorem gc_bits {s : Int} (hQ : Q (some (gx_bits 20 s)) m) : gx_to xs w0 d yp_m206 0 [(0, .inl s)] [] m Q := gt206_0 (gl_bits hQ 20 0 (by omega))
/-- the factorial of a small number comes back as some number -/
theorem gl_ord {n : Int} (hn : n ≤ 1000) (hQ : ∀ v, Q (some v) m) : ∀ (j : Nat) (v k : Int), 2 ≤ k → k ≤ 1001 → 1001 - k = j → gx_to xs w0 d yp_m239 4 [(0, .inl n), (1, .inl v), (2, .inl k)] [] m Q
  | 0, v, k, h1, h2, h3 => gt239_4 (by omega) (fun _ => hQ v) (fun c => by omega)
  | j + 1, v, k, h1, h2, h3 => gt239_4 (by omega) (fun _ => hQ v) (fun c => gl_ord hn hQ j _ (k + 1) (by omega) (by omega) (by omega))
theorem gc_ord {n : Int} (hn : n ≤ 1000) (hQ : ∀ v, Q (some v) m) : gx_to xs w0 d yp_m239 0 [(0, .inl n)] [] m Q := gt239_0 (gl_ord hn hQ 999 1 2 (by omega) (by omega) (by omega))
theorem gl_ord5 {n : Int} (hn : 1 ≤ n ∧ n ≤ 5) (hQ : ∀ v, v ≠ 0 → Q (some v) m) : ∀ (j : Nat) (v k : Int), (k = 2 ∧ v = 1) ∨ (k = 3 ∧ v = 2) ∨ (k = 4 ∧ v = 6) ∨ (k = 5 ∧ v = 24) ∨ (k = 6 ∧ v = 120) → 6 - k = j → gx_to xs w0 d yp_m239 4 [(0, .inl n), (1, .inl v), (2, .inl k)] [] m Q
  | 0, v, k, h1, h3 => gt239_4 (by omega) (fun _ => hQ v (by omega)) (fun c => by omega)
  | j + 1, v, k, h1, h3 => gt239_4 (by omega) (fun _ => hQ v (by omega)) (fun c => gl_ord5 hn hQ j _ (k + 1) (by
      rcases h1 with ⟨rfl, rfl⟩ | ⟨rfl, rfl⟩ | ⟨rfl, rfl⟩ | ⟨rfl, rfl⟩ | ⟨rfl, rfl⟩
      · exact .inr (.inl ⟨rfl, rfl⟩)
      · exact .inr (.inr (.inl ⟨rfl, rfl⟩))
      · exact .inr (.inr (.inr (.inl ⟨rfl, rfl⟩)))
      · exact .inr (.inr (.inr (.inr ⟨rfl, rfl⟩)))
      · omega) (by omega))
theorem gc_ord5 {n : Int} (hn : 1 ≤ n ∧ n ≤ 5) (hQ : ∀ v, v ≠ 0 → Q (some v) m) : gx_to xs w0 d yp_m239 0 [(0, .inl n)] [] m Q := gt239_0 (gl_ord5 hn hQ 4 1 2 (.inl ⟨rfl, rfl⟩) (by omega))
theorem gl_gcd (hQ : ∀ v, v ≠ 0 → Q (some v) m) : ∀ (n : Nat) (x y : Int), y.natAbs ≤ n → (y = 0 → x ≠ 0) → gx_to xs w0 d yp_m241 4 [(2, .inl x), (3, .inl y)] [] m Q
  | 0, x, y, h1, h2 => gt241_4 (fun e => hQ x (h2 e)) (fun c => c) (fun c => by omega)
  | n + 1, x, y, h1, h2 => gt241_4 (fun e => hQ x (h2 e)) (fun c => c) (fun c => gl_gcd hQ n y _ (by
      have : (Int.tmod x y).natAbs < y.natAbs := by
        rw [Int.natAbs_tmod]
        exact Nat.mod_lt _ (by omega)
      omega) (fun _ => c))
theorem gc_gcd {x y : Int} (hy : y ≠ 0) (hQ : ∀ v, v ≠ 0 → Q (some v) m) : gx_to xs w0 d yp_m241 0 [(0, .inl x), (1, .inl y)] [] m Q := gt241_0 (gl_gcd hQ y.natAbs x y (Nat.le_refl _) (fun e => absurd e hy))
/-- what a sum, a product, a quotient comes to: any number -/
theorem gc_reckon {o x y : Int} (hy : o = 5 ∨ o = 6 → y ≠ 0) (hQ : ∀ v, Q (some v) m) : gx_to xs w0 d yp_m209 0 [(0, .inl o), (1, .inl x), (2, .inl y)] [] m Q :=
  gt209_0 (fun _ _ => hQ _) (fun _ _ => hQ _) (fun _ => hQ _) (fun _ => hQ _) (fun _ => hQ _) (fun e => hy (.inl e)) (fun _ => hQ _) (fun e => hy (.inr e)) (fun _ => hQ _) (fun _ _ => hQ _) (fun _ _ => hQ _) (fun _ _ => hQ _) (fun _ _ => hQ _)
end GLF
end
section
/-! roads of methods read by hand, from cut points to the next ones (printed by wip/gen/gxall.py) -/
/-- worthOfAll from 0 on -/
theorem gt240_0 {xs : List Int32} {w0 : sx_W} {d : Nat} {Q : gx_Q} {m : gx_M} {x1 : Int}
    (h1 : gx_to xs w0 d yp_m240 4 [(0, .inr 86), (1, .inl x1), (2, .inl 0), (3, .inl 0)] [] m Q) : gx_to xs w0 d yp_m240 0 [(0, .inr 86), (1, .inl x1)] [] m Q := by
  refine gx_blk (C := True) (npc := 4) (L' := [(0, .inr 86), (1, .inl x1), (2, .inl 0), (3, .inl 0)]) (st' := []) (m' := m) [((0, .iconst 0, 1, 0, 0, 0, 0), (0, 0, 0)), ((1, .istore_n 2, 1, 0, 0, 0, 0), (0, 0, 0)), ((2, .iconst 0, 1, 0, 0, 0, 0), (0, 0, 0)), ((3, .istore_n 3, 1, 0, 0, 0, 0), (0, 0, 0))] (by decide +kernel) rfl trivial ?_
  exact gx_to_pick [0, 1, 2, 3] h1

/-- worthOfAll from 4 on -/
theorem gt240_4 {xs : List Int32} {w0 : sx_W} {d : Nat} {Q : gx_Q} {m : gx_M} {x1 x2 x3 : Int} (r_x3 : 0 ≤ x3 ∧ x3 ≤ 8)
    (h1 : (8 ≤ x3) → gx_to xs w0 d yp_m206 0 [(0, .inl x2)] [] m (fun r m' => gx_to xs w0 (d + 1) yp_m240 39 [] (gx_rs r ++ [.inl 100]) m' Q))
    (h2 : (x3 < 8) → gx_to xs w0 d yp_m165 0 [(0, .inl x1), (1, .inl x3)] [] m (fun r m' => gx_to xs w0 (d + 1) yp_m240 15 [(0, .inr 86), (1, .inl x1), (2, .inl x2), (3, .inl x3)] (gx_rs r ++ []) m' Q)) : gx_to xs w0 (d + 1) yp_m240 4 [(0, .inr 86), (1, .inl x1), (2, .inl x2), (3, .inl x3)] [] m Q := by
  refine gx_blk (C := True) (npc := 7) (L' := [(0, .inr 86), (1, .inl x1), (2, .inl x2), (3, .inl x3)]) (st' := [.inl 8, .inl x3]) (m' := m) [((4, .iload_n 3, 1, 0, 0, 0, 0), (0, 0, 0)), ((5, .bipush 8, 2, 0, 0, 0, 0), (0, 0, 0))] (by decide +kernel) rfl trivial ?_
  refine gx_cmp .ge 33 (by decide +kernel) (fun c1 => ?_) (fun c1 => ?_)
  · have c1 : 8 ≤ x3 := c1
    refine gx_blk (C := True) (npc := 36) (L' := [(0, .inr 86), (1, .inl x1), (2, .inl x2), (3, .inl x3)]) (st' := [.inl x2, .inl 100]) (m' := m) [((33, .bipush 100, 2, 0, 0, 0, 0), (0, 0, 0)), ((35, .iload_n 2, 1, 0, 0, 0, 0), (0, 0, 0))] (by decide +kernel) rfl trivial ?_
    exact gx_calls (E := (36, .invokestatic 241, 3, 206, 0, 6195, 0)) (M' := yp_m206) [.inl x2] [.inl 100] rfl (by decide +kernel) rfl ⟨rfl, rfl⟩ rfl rfl (Nat.le_of_ble_eq_true rfl) (Nat.le_of_ble_eq_true rfl) rfl (gx_to_mono (h1 c1) (fun r m' h' => gx_to_pick [] h'))
  · have c1 : x3 < 8 := by have h : ¬ (8 ≤ x3) := c1; omega
    refine gx_blk (C := True) (npc := 12) (L' := [(0, .inr 86), (1, .inl x1), (2, .inl x2), (3, .inl x3)]) (st' := [.inl x3, .inl x1]) (m' := m) [((10, .iload_n 1, 1, 0, 0, 0, 0), (0, 0, 0)), ((11, .iload_n 3, 1, 0, 0, 0, 0), (0, 0, 0))] (by decide +kernel) rfl trivial ?_
    exact gx_calls (E := (12, .invokestatic 104, 3, 165, 0, 6035, 0)) (M' := yp_m165) [.inl x1, .inl x3] [] rfl (by decide +kernel) rfl ⟨rfl, rfl⟩ rfl rfl (Nat.le_of_ble_eq_true rfl) (Nat.le_of_ble_eq_true rfl) rfl (gx_to_mono (h2 c1) (fun r m' h' => gx_to_pick [0, 1, 2, 3] h'))

/-- worthOfAll from 15 on -/
theorem gt240_15 {xs : List Int32} {w0 : sx_W} {d : Nat} {Q : gx_Q} {m : gx_M} {x1 x2 x3 s0 : Int} (r_x3 : 0 ≤ x3 ∧ x3 ≤ 7)
    (h1 : (s0 = 0) → gx_to xs w0 (d + 1) yp_m240 4 [(0, .inr 86), (1, .inl x1), (2, .inl x2), (3, .inl (x3 + 1))] [] m Q)
    (h2 : (s0 ≠ 0) → gx_to xs w0 d yp_m207 0 [(0, .inr 86), (1, .inl x3), (2, .inl (-1))] [] m (fun r m' => gx_to xs w0 (d + 1) yp_m240 25 [(0, .inr 86), (1, .inl x1), (3, .inl x3)] (gx_rs r ++ [.inl x2]) m' Q)) : gx_to xs w0 (d + 1) yp_m240 15 [(0, .inr 86), (1, .inl x1), (2, .inl x2), (3, .inl x3)] [.inl s0] m Q := by
  refine gx_if .eq 27 (by decide +kernel) (fun c1 => ?_) (fun c1 => ?_)
  · have c1 : s0 = 0 := c1
    have e1 : gx_w (x3 + 1) = x3 + 1 := gx_w_id (by omega) (by omega)
    refine gx_blk (C := True) (npc := 4) (L' := [(0, .inr 86), (1, .inl x1), (2, .inl x2), (3, .inl (gx_w (x3 + 1)))]) (st' := []) (m' := m) [((27, .iinc 3 1, 3, 0, 0, 0, 0), (0, 0, 0)), ((30, .goto (-26), 3, 0, 0, 0, 0), (0, 0, 0))] (by decide +kernel) rfl trivial ?_
    rw [e1]
    exact gx_to_pick [0, 1, 2, 3] (h1 c1)
  · have c1 : s0 ≠ 0 := c1
    refine gx_blk (C := True) (npc := 22) (L' := [(0, .inr 86), (1, .inl x1), (2, .inl x2), (3, .inl x3)]) (st' := [.inl (-1), .inl x3, .inr 86, .inl x2]) (m' := m) [((18, .iload_n 2, 1, 0, 0, 0, 0), (0, 0, 0)), ((19, .aload_n 0, 1, 0, 0, 0, 0), (0, 0, 0)), ((20, .iload_n 3, 1, 0, 0, 0, 0), (0, 0, 0)), ((21, .iconst (-1), 1, 0, 0, 0, 0), (0, 0, 0))] (by decide +kernel) rfl trivial ?_
    exact gx_callv (E := (22, .invokevirtual 244, 3, 207, 0, 6198, 0)) (M' := yp_m207) (c := 86) [.inl x3, .inl (-1)] [.inl x2] rfl (by decide +kernel) rfl ⟨rfl, rfl⟩ rfl rfl (Nat.le_of_ble_eq_true rfl) (Nat.le_of_ble_eq_true rfl) (by decide +kernel) (gx_to_mono (h2 c1) (fun r m' h' => gx_to_pick [0, 1, 3] h'))

/-- worthOfAll from 25 on -/
theorem gt240_25 {xs : List Int32} {w0 : sx_W} {d : Nat} {Q : gx_Q} {m : gx_M} {x1 x3 s0 s1 : Int} (r_x3 : 0 ≤ x3 ∧ x3 ≤ 7)
    (h1 : gx_to xs w0 d yp_m240 4 [(0, .inr 86), (1, .inl x1), (2, .inl (gx_or s0 s1)), (3, .inl (x3 + 1))] [] m Q) : gx_to xs w0 d yp_m240 25 [(0, .inr 86), (1, .inl x1), (3, .inl x3)] [.inl s1, .inl s0] m Q := by
  have e1 : gx_w (x3 + 1) = x3 + 1 := gx_w_id (by omega) (by omega)
  refine gx_blk (C := True) (npc := 4) (L' := [(0, .inr 86), (1, .inl x1), (3, .inl (gx_w (x3 + 1))), (2, .inl (gx_or s0 s1))]) (st' := []) (m' := m) [((25, .ior, 1, 0, 0, 0, 0), (0, 0, 0)), ((26, .istore_n 2, 1, 0, 0, 0, 0), (0, 0, 0)), ((27, .iinc 3 1, 3, 0, 0, 0, 0), (0, 0, 0)), ((30, .goto (-26), 3, 0, 0, 0, 0), (0, 0, 0))] (by decide +kernel) rfl trivial ?_
  rw [e1]
  exact gx_to_pick [0, 1, 2, 3] h1

/-- worthOfAll from 39 on -/
theorem gt240_39 {xs : List Int32} {w0 : sx_W} {d : Nat} {Q : gx_Q} {m : gx_M} {s0 s1 : Int}
    (h1 : Q (some (gx_w (s0 * s1))) m) : gx_to xs w0 d yp_m240 39 [] [.inl s1, .inl s0] m Q := by
  refine gx_blk (C := True) (npc := 40) (L' := []) (st' := [.inl (gx_w (s0 * s1))]) (m' := m) [((39, .imul, 1, 0, 0, 0, 0), (0, 0, 0))] (by decide +kernel) rfl trivial ?_
  exact gx_reti (by decide +kernel) h1

/-- worthOf from 0 on -/
theorem gt224_0 {xs : List Int32} {w0 : sx_W} {d : Nat} {Q : gx_Q} {m : gx_M} {x1 x2 : Int}
    (h1 : gx_to xs w0 d yp_m202 0 [(0, .inr 86), (1, .inl x1), (2, .inl x2), (3, .inl 0)] [] m (fun r m' => gx_to xs w0 (d + 1) yp_m224 7 [(0, .inr 86)] (gx_rs r ++ []) m' Q)) : gx_to xs w0 (d + 1) yp_m224 0 [(0, .inr 86), (1, .inl x1), (2, .inl x2)] [] m Q := by
  refine gx_blk (C := True) (npc := 4) (L' := [(0, .inr 86), (1, .inl x1), (2, .inl x2)]) (st' := [.inl 0, .inl x2, .inl x1, .inr 86]) (m' := m) [((0, .aload_n 0, 1, 0, 0, 0, 0), (0, 0, 0)), ((1, .iload_n 1, 1, 0, 0, 0, 0), (0, 0, 0)), ((2, .iload_n 2, 1, 0, 0, 0, 0), (0, 0, 0)), ((3, .iconst 0, 1, 0, 0, 0, 0), (0, 0, 0))] (by decide +kernel) rfl trivial ?_
  exact gx_callv (E := (4, .invokevirtual 247, 3, 202, 0, 6179, 0)) (M' := yp_m202) (c := 86) [.inl x1, .inl x2, .inl 0] [] rfl (by decide +kernel) rfl ⟨rfl, rfl⟩ rfl rfl (Nat.le_of_ble_eq_true rfl) (Nat.le_of_ble_eq_true rfl) (by decide +kernel) (gx_to_mono h1 (fun r m' h' => gx_to_pick [0] h'))

/-- worthOf from 7 on -/
theorem gt224_7 {xs : List Int32} {w0 : sx_W} {d : Nat} {Q : gx_Q} {m : gx_M}
    (h1 : gx_to xs w0 d yp_m225 0 [(0, .inr 86), (1, .inl 118), (2, .inl 999)] [] m (fun r m' => gx_to xs w0 (d + 1) yp_m224 16 [] (gx_rs r ++ []) m' Q)) : gx_to xs w0 (d + 1) yp_m224 7 [(0, .inr 86)] [] m Q := by
  refine gx_blk (C := True) (npc := 13) (L' := [(0, .inr 86)]) (st' := [.inl 999, .inl 118, .inr 86]) (m' := m) [((7, .aload_n 0, 1, 0, 0, 0, 0), (0, 0, 0)), ((8, .bipush 118, 2, 0, 0, 0, 0), (0, 0, 0)), ((10, .sipush 999, 3, 0, 0, 0, 0), (0, 0, 0))] (by decide +kernel) rfl trivial ?_
  exact gx_callv (E := (13, .invokevirtual 251, 3, 225, 0, 7028, 0)) (M' := yp_m225) (c := 86) [.inl 118, .inl 999] [] rfl (by decide +kernel) rfl ⟨rfl, rfl⟩ rfl rfl (Nat.le_of_ble_eq_true rfl) (Nat.le_of_ble_eq_true rfl) (by decide +kernel) (gx_to_mono h1 (fun r m' h' => gx_to_pick [] h'))

/-- worthOf from 16 on -/
theorem gt224_16 {xs : List Int32} {w0 : sx_W} {d : Nat} {Q : gx_Q} {m : gx_M} {s0 : Int}
    (h1 : Q (some s0) m) : gx_to xs w0 d yp_m224 16 [] [.inl s0] m Q := by
  exact gx_reti (by decide +kernel) h1

/-- share from 0 on -/
theorem gt238_0 {xs : List Int32} {w0 : sx_W} {d : Nat} {Q : gx_Q} {m : gx_M} {x1 x2 x3 : Int} (hI : gx_I m)
    (h1 : ((gx_and x1 (gx_xor (m 87 1128) (-1))) ≠ 0) → Q (some (-1)) m)
    (h2 : ((gx_and x1 (gx_xor (m 87 1128) (-1))) = 0) → gx_to xs w0 d yp_m206 0 [(0, .inl x1)] [] m (fun r m' => gx_to xs w0 (d + 1) yp_m238 19 [(0, .inr 86), (1, .inl x1), (2, .inl x2), (3, .inl x3)] (gx_rs r ++ []) m' Q)) : gx_to xs w0 (d + 1) yp_m238 0 [(0, .inr 86), (1, .inl x1), (2, .inl x2), (3, .inl x3)] [] m Q := by
  have f1 := gx_I_n hI 87 1128 0 255 (by decide +kernel)
  refine gx_blk (C := (True ∧ (0 ≤ 1128 ∧ 1128 < 1131))) (npc := 12) (L' := [(0, .inr 86), (1, .inl x1), (2, .inl x2), (3, .inl x3)]) (st' := [.inl (gx_and x1 (gx_xor (m 87 1128) (-1)))]) (m' := m) [((0, .iload_n 1, 1, 0, 0, 0, 0), (0, 0, 0)), ((1, .aload_n 0, 1, 0, 0, 0, 0), (0, 0, 0)), ((2, .getfield 7, 3, 10, 0, 5113, 0), (1, 86, 87)), ((5, .sipush 1128, 3, 0, 0, 0, 0), (0, 0, 0)), ((8, .iaload, 1, 0, 0, 0, 0), (0, 87, 1131)), ((9, .iconst (-1), 1, 0, 0, 0, 0), (0, 0, 0)), ((10, .ixor, 1, 0, 0, 0, 0), (0, 0, 0)), ((11, .iand, 1, 0, 0, 0, 0), (0, 0, 0))] (by decide +kernel) rfl ⟨trivial, (by omega)⟩ ?_
  refine gx_if .ne 54 (by decide +kernel) (fun c1 => ?_) (fun c1 => ?_)
  · have c1 : (gx_and x1 (gx_xor (m 87 1128) (-1))) ≠ 0 := c1
    refine gx_blk (C := True) (npc := 55) (L' := [(0, .inr 86), (1, .inl x1), (2, .inl x2), (3, .inl x3)]) (st' := [.inl (-1)]) (m' := m) [((54, .iconst (-1), 1, 0, 0, 0, 0), (0, 0, 0))] (by decide +kernel) rfl trivial ?_
    exact gx_reti (by decide +kernel) (h1 c1)
  · have c1 : (gx_and x1 (gx_xor (m 87 1128) (-1))) = 0 := by have h : ¬ ((gx_and x1 (gx_xor (m 87 1128) (-1))) ≠ 0) := c1; omega
    refine gx_blk (C := True) (npc := 16) (L' := [(0, .inr 86), (1, .inl x1), (2, .inl x2), (3, .inl x3)]) (st' := [.inl x1]) (m' := m) [((15, .iload_n 1, 1, 0, 0, 0, 0), (0, 0, 0))] (by decide +kernel) rfl trivial ?_
    exact gx_calls (E := (16, .invokestatic 241, 3, 206, 0, 6195, 0)) (M' := yp_m206) [.inl x1] [] rfl (by decide +kernel) rfl ⟨rfl, rfl⟩ rfl rfl (Nat.le_of_ble_eq_true rfl) (Nat.le_of_ble_eq_true rfl) rfl (gx_to_mono (h2 c1) (fun r m' h' => gx_to_pick [0, 1, 2, 3] h'))

/-- share from 19 on -/
theorem gt238_19 {xs : List Int32} {w0 : sx_W} {d : Nat} {Q : gx_Q} {m : gx_M} {x1 x2 x3 s0 : Int}
    (h1 : gx_to xs w0 d yp_m162 0 [(0, .inl s0), (1, .inl 1), (2, .inl 5)] [] m (fun r m' => gx_to xs w0 (d + 1) yp_m238 24 [(0, .inr 86), (1, .inl x1), (2, .inl x2), (3, .inl x3)] (gx_rs r ++ []) m' Q)) : gx_to xs w0 (d + 1) yp_m238 19 [(0, .inr 86), (1, .inl x1), (2, .inl x2), (3, .inl x3)] [.inl s0] m Q := by
  refine gx_blk (C := True) (npc := 21) (L' := [(0, .inr 86), (1, .inl x1), (2, .inl x2), (3, .inl x3)]) (st' := [.inl 5, .inl 1, .inl s0]) (m' := m) [((19, .iconst 1, 1, 0, 0, 0, 0), (0, 0, 0)), ((20, .iconst 5, 1, 0, 0, 0, 0), (0, 0, 0))] (by decide +kernel) rfl trivial ?_
  exact gx_calls (E := (21, .invokestatic 108, 3, 162, 0, 6023, 0)) (M' := yp_m162) [.inl s0, .inl 1, .inl 5] [] rfl (by decide +kernel) rfl ⟨rfl, rfl⟩ rfl rfl (Nat.le_of_ble_eq_true rfl) (Nat.le_of_ble_eq_true rfl) rfl (gx_to_mono h1 (fun r m' h' => gx_to_pick [0, 1, 2, 3] h'))

/-- share from 24 on -/
theorem gt238_24 {xs : List Int32} {w0 : sx_W} {d : Nat} {Q : gx_Q} {m : gx_M} {x1 x2 x3 s0 : Int}
    (h1 : (s0 = 0) → Q (some (-1)) m)
    (h2 : (s0 ≠ 0) → gx_to xs w0 d yp_m162 0 [(0, .inl x2), (1, .inl 0), (2, .inl 7)] [] m (fun r m' => gx_to xs w0 (d + 1) yp_m238 34 [(0, .inr 86), (1, .inl x1), (2, .inl x2), (3, .inl x3)] (gx_rs r ++ []) m' Q)) : gx_to xs w0 (d + 1) yp_m238 24 [(0, .inr 86), (1, .inl x1), (2, .inl x2), (3, .inl x3)] [.inl s0] m Q := by
  refine gx_if .eq 54 (by decide +kernel) (fun c1 => ?_) (fun c1 => ?_)
  · have c1 : s0 = 0 := c1
    refine gx_blk (C := True) (npc := 55) (L' := [(0, .inr 86), (1, .inl x1), (2, .inl x2), (3, .inl x3)]) (st' := [.inl (-1)]) (m' := m) [((54, .iconst (-1), 1, 0, 0, 0, 0), (0, 0, 0))] (by decide +kernel) rfl trivial ?_
    exact gx_reti (by decide +kernel) (h1 c1)
  · have c1 : s0 ≠ 0 := c1
    refine gx_blk (C := True) (npc := 31) (L' := [(0, .inr 86), (1, .inl x1), (2, .inl x2), (3, .inl x3)]) (st' := [.inl 7, .inl 0, .inl x2]) (m' := m) [((27, .iload_n 2, 1, 0, 0, 0, 0), (0, 0, 0)), ((28, .iconst 0, 1, 0, 0, 0, 0), (0, 0, 0)), ((29, .bipush 7, 2, 0, 0, 0, 0), (0, 0, 0))] (by decide +kernel) rfl trivial ?_
    exact gx_calls (E := (31, .invokestatic 108, 3, 162, 0, 6023, 0)) (M' := yp_m162) [.inl x2, .inl 0, .inl 7] [] rfl (by decide +kernel) rfl ⟨rfl, rfl⟩ rfl rfl (Nat.le_of_ble_eq_true rfl) (Nat.le_of_ble_eq_true rfl) rfl (gx_to_mono (h2 c1) (fun r m' h' => gx_to_pick [0, 1, 2, 3] h'))

/-- share from 34 on -/
theorem gt238_34 {xs : List Int32} {w0 : sx_W} {d : Nat} {Q : gx_Q} {m : gx_M} {x1 x2 x3 s0 : Int}
    (h1 : (s0 = 0) → Q (some (-1)) m)
    (h2 : (s0 ≠ 0) → gx_to xs w0 d yp_m165 0 [(0, .inl x1), (1, .inl x2)] [] m (fun r m' => gx_to xs w0 (d + 1) yp_m238 42 [(0, .inr 86), (1, .inl x1), (2, .inl x2), (3, .inl x3)] (gx_rs r ++ []) m' Q)) : gx_to xs w0 (d + 1) yp_m238 34 [(0, .inr 86), (1, .inl x1), (2, .inl x2), (3, .inl x3)] [.inl s0] m Q := by
  refine gx_if .eq 54 (by decide +kernel) (fun c1 => ?_) (fun c1 => ?_)
  · have c1 : s0 = 0 := c1
    refine gx_blk (C := True) (npc := 55) (L' := [(0, .inr 86), (1, .inl x1), (2, .inl x2), (3, .inl x3)]) (st' := [.inl (-1)]) (m' := m) [((54, .iconst (-1), 1, 0, 0, 0, 0), (0, 0, 0))] (by decide +kernel) rfl trivial ?_
    exact gx_reti (by decide +kernel) (h1 c1)
  · have c1 : s0 ≠ 0 := c1
    refine gx_blk (C := True) (npc := 39) (L' := [(0, .inr 86), (1, .inl x1), (2, .inl x2), (3, .inl x3)]) (st' := [.inl x2, .inl x1]) (m' := m) [((37, .iload_n 1, 1, 0, 0, 0, 0), (0, 0, 0)), ((38, .iload_n 2, 1, 0, 0, 0, 0), (0, 0, 0))] (by decide +kernel) rfl trivial ?_
    exact gx_calls (E := (39, .invokestatic 104, 3, 165, 0, 6035, 0)) (M' := yp_m165) [.inl x1, .inl x2] [] rfl (by decide +kernel) rfl ⟨rfl, rfl⟩ rfl rfl (Nat.le_of_ble_eq_true rfl) (Nat.le_of_ble_eq_true rfl) rfl (gx_to_mono (h2 c1) (fun r m' h' => gx_to_pick [0, 1, 2, 3] h'))

/-- share from 42 on -/
theorem gt238_42 {xs : List Int32} {w0 : sx_W} {d : Nat} {Q : gx_Q} {m : gx_M} {x1 x2 x3 s0 : Int}
    (h1 : (s0 = 0) → Q (some (-1)) m)
    (h2 : (s0 ≠ 0) → gx_to xs w0 d yp_m162 0 [(0, .inl x3), (1, .inl 0), (2, .inl 1)] [] m (fun r m' => gx_to xs w0 (d + 1) yp_m238 51 [(0, .inr 86), (1, .inl x1), (2, .inl x2), (3, .inl x3)] (gx_rs r ++ []) m' Q)) : gx_to xs w0 (d + 1) yp_m238 42 [(0, .inr 86), (1, .inl x1), (2, .inl x2), (3, .inl x3)] [.inl s0] m Q := by
  refine gx_if .eq 54 (by decide +kernel) (fun c1 => ?_) (fun c1 => ?_)
  · have c1 : s0 = 0 := c1
    refine gx_blk (C := True) (npc := 55) (L' := [(0, .inr 86), (1, .inl x1), (2, .inl x2), (3, .inl x3)]) (st' := [.inl (-1)]) (m' := m) [((54, .iconst (-1), 1, 0, 0, 0, 0), (0, 0, 0))] (by decide +kernel) rfl trivial ?_
    exact gx_reti (by decide +kernel) (h1 c1)
  · have c1 : s0 ≠ 0 := c1
    refine gx_blk (C := True) (npc := 48) (L' := [(0, .inr 86), (1, .inl x1), (2, .inl x2), (3, .inl x3)]) (st' := [.inl 1, .inl 0, .inl x3]) (m' := m) [((45, .iload_n 3, 1, 0, 0, 0, 0), (0, 0, 0)), ((46, .iconst 0, 1, 0, 0, 0, 0), (0, 0, 0)), ((47, .iconst 1, 1, 0, 0, 0, 0), (0, 0, 0))] (by decide +kernel) rfl trivial ?_
    exact gx_calls (E := (48, .invokestatic 108, 3, 162, 0, 6023, 0)) (M' := yp_m162) [.inl x3, .inl 0, .inl 1] [] rfl (by decide +kernel) rfl ⟨rfl, rfl⟩ rfl rfl (Nat.le_of_ble_eq_true rfl) (Nat.le_of_ble_eq_true rfl) rfl (gx_to_mono (h2 c1) (fun r m' h' => gx_to_pick [0, 1, 2, 3] h'))

/-- share from 51 on -/
theorem gt238_51 {xs : List Int32} {w0 : sx_W} {d : Nat} {Q : gx_Q} {m : gx_M} {x1 x2 x3 s0 : Int}
    (h1 : (s0 ≠ 0) → gx_to xs w0 d yp_m206 0 [(0, .inl x1)] [] m (fun r m' => gx_to xs w0 (d + 1) yp_m238 60 [(0, .inr 86), (1, .inl x1), (2, .inl x2), (3, .inl x3)] (gx_rs r ++ []) m' Q))
    (h2 : (s0 = 0) → Q (some (-1)) m) : gx_to xs w0 (d + 1) yp_m238 51 [(0, .inr 86), (1, .inl x1), (2, .inl x2), (3, .inl x3)] [.inl s0] m Q := by
  refine gx_if .ne 56 (by decide +kernel) (fun c1 => ?_) (fun c1 => ?_)
  · have c1 : s0 ≠ 0 := c1
    refine gx_blk (C := True) (npc := 57) (L' := [(0, .inr 86), (1, .inl x1), (2, .inl x2), (3, .inl x3)]) (st' := [.inl x1]) (m' := m) [((56, .iload_n 1, 1, 0, 0, 0, 0), (0, 0, 0))] (by decide +kernel) rfl trivial ?_
    exact gx_calls (E := (57, .invokestatic 241, 3, 206, 0, 6195, 0)) (M' := yp_m206) [.inl x1] [] rfl (by decide +kernel) rfl ⟨rfl, rfl⟩ rfl rfl (Nat.le_of_ble_eq_true rfl) (Nat.le_of_ble_eq_true rfl) rfl (gx_to_mono (h1 c1) (fun r m' h' => gx_to_pick [0, 1, 2, 3] h'))
  · have c1 : s0 = 0 := by have h : ¬ (s0 ≠ 0) := c1; omega
    refine gx_blk (C := True) (npc := 55) (L' := [(0, .inr 86), (1, .inl x1), (2, .inl x2), (3, .inl x3)]) (st' := [.inl (-1)]) (m' := m) [((54, .iconst (-1), 1, 0, 0, 0, 0), (0, 0, 0))] (by decide +kernel) rfl trivial ?_
    exact gx_reti (by decide +kernel) (h2 c1)

/-- share from 60 on -/
theorem gt238_60 {xs : List Int32} {w0 : sx_W} {d : Nat} {Q : gx_Q} {m : gx_M} {x1 x2 x3 s0 : Int}
    (h1 : gx_to xs w0 d yp_m238 68 [(0, .inr 86), (1, .inl x1), (2, .inl x2), (3, .inl x3), (4, .inl s0), (5, .inl 0), (6, .inl 0)] [] m Q) : gx_to xs w0 d yp_m238 60 [(0, .inr 86), (1, .inl x1), (2, .inl x2), (3, .inl x3)] [.inl s0] m Q := by
  refine gx_blk (C := True) (npc := 68) (L' := [(0, .inr 86), (1, .inl x1), (2, .inl x2), (3, .inl x3), (4, .inl s0), (5, .inl 0), (6, .inl 0)]) (st' := []) (m' := m) [((60, .istore 4, 2, 0, 0, 0, 0), (0, 0, 0)), ((62, .iconst 0, 1, 0, 0, 0, 0), (0, 0, 0)), ((63, .istore 5, 2, 0, 0, 0, 0), (0, 0, 0)), ((65, .iconst 0, 1, 0, 0, 0, 0), (0, 0, 0)), ((66, .istore 6, 2, 0, 0, 0, 0), (0, 0, 0))] (by decide +kernel) rfl trivial ?_
  exact gx_to_pick [0, 1, 2, 3, 4, 5, 6] h1

/-- share from 68 on -/
theorem gt238_68 {xs : List Int32} {w0 : sx_W} {d : Nat} {Q : gx_Q} {m : gx_M} {x1 x2 x3 x4 x5 x6 : Int} (r_x4 : 1 ≤ x4 ∧ x4 ≤ 5) (r_x6 : 0 ≤ x6 ∧ x6 ≤ 256)
    (h1 : (256 ≤ x6) → gx_to xs w0 d yp_m239 0 [(0, .inl x4)] [] m (fun r m' => gx_to xs w0 (d + 1) yp_m238 155 [(3, .inl x3), (4, .inl x4), (5, .inl x5)] (gx_rs r ++ [.inl x5]) m' Q))
    (h2 : (x6 < 256) → ((gx_and x6 (gx_xor x1 (-1))) ≠ 0) → gx_to xs w0 (d + 1) yp_m238 68 [(0, .inr 86), (1, .inl x1), (2, .inl x2), (3, .inl x3), (4, .inl x4), (5, .inl x5), (6, .inl (x6 + 1))] [] m Q)
    (h3 : (x6 < 256) → ((gx_and x6 (gx_xor x1 (-1))) = 0) → gx_to xs w0 d yp_m165 0 [(0, .inl x6), (1, .inl x2)] [] m (fun r m' => gx_to xs w0 (d + 1) yp_m238 91 [(0, .inr 86), (1, .inl x1), (2, .inl x2), (3, .inl x3), (4, .inl x4), (5, .inl x5), (6, .inl x6)] (gx_rs r ++ []) m' Q)) : gx_to xs w0 (d + 1) yp_m238 68 [(0, .inr 86), (1, .inl x1), (2, .inl x2), (3, .inl x3), (4, .inl x4), (5, .inl x5), (6, .inl x6)] [] m Q := by
  refine gx_blk (C := True) (npc := 73) (L' := [(0, .inr 86), (1, .inl x1), (2, .inl x2), (3, .inl x3), (4, .inl x4), (5, .inl x5), (6, .inl x6)]) (st' := [.inl 256, .inl x6]) (m' := m) [((68, .iload 6, 2, 0, 0, 0, 0), (0, 0, 0)), ((70, .sipush 256, 3, 0, 0, 0, 0), (0, 0, 0))] (by decide +kernel) rfl trivial ?_
  refine gx_cmp .ge 148 (by decide +kernel) (fun c1 => ?_) (fun c1 => ?_)
  · have c1 : 256 ≤ x6 := c1
    refine gx_blk (C := True) (npc := 152) (L' := [(0, .inr 86), (1, .inl x1), (2, .inl x2), (3, .inl x3), (4, .inl x4), (5, .inl x5), (6, .inl x6)]) (st' := [.inl x4, .inl x5]) (m' := m) [((148, .iload 5, 2, 0, 0, 0, 0), (0, 0, 0)), ((150, .iload 4, 2, 0, 0, 0, 0), (0, 0, 0))] (by decide +kernel) rfl trivial ?_
    exact gx_calls (E := (152, .invokestatic 337, 3, 239, 0, 7085, 0)) (M' := yp_m239) [.inl x4] [.inl x5] rfl (by decide +kernel) rfl ⟨rfl, rfl⟩ rfl rfl (Nat.le_of_ble_eq_true rfl) (Nat.le_of_ble_eq_true rfl) rfl (gx_to_mono (h1 c1) (fun r m' h' => gx_to_pick [3, 4, 5] h'))
  · have c1 : x6 < 256 := by have h : ¬ (256 ≤ x6) := c1; omega
    refine gx_blk (C := True) (npc := 82) (L' := [(0, .inr 86), (1, .inl x1), (2, .inl x2), (3, .inl x3), (4, .inl x4), (5, .inl x5), (6, .inl x6)]) (st' := [.inl (gx_and x6 (gx_xor x1 (-1)))]) (m' := m) [((76, .iload 6, 2, 0, 0, 0, 0), (0, 0, 0)), ((78, .iload_n 1, 1, 0, 0, 0, 0), (0, 0, 0)), ((79, .iconst (-1), 1, 0, 0, 0, 0), (0, 0, 0)), ((80, .ixor, 1, 0, 0, 0, 0), (0, 0, 0)), ((81, .iand, 1, 0, 0, 0, 0), (0, 0, 0))] (by decide +kernel) rfl trivial ?_
    refine gx_if .ne 142 (by decide +kernel) (fun c2 => ?_) (fun c2 => ?_)
    · have c2 : (gx_and x6 (gx_xor x1 (-1))) ≠ 0 := c2
      have e1 : gx_w (x6 + 1) = x6 + 1 := gx_w_id (by omega) (by omega)
      refine gx_blk (C := True) (npc := 68) (L' := [(0, .inr 86), (1, .inl x1), (2, .inl x2), (3, .inl x3), (4, .inl x4), (5, .inl x5), (6, .inl (gx_w (x6 + 1)))]) (st' := []) (m' := m) [((142, .iinc 6 1, 3, 0, 0, 0, 0), (0, 0, 0)), ((145, .goto (-77), 3, 0, 0, 0, 0), (0, 0, 0))] (by decide +kernel) rfl trivial ?_
      rw [e1]
      exact gx_to_pick [0, 1, 2, 3, 4, 5, 6] (h2 c1 c2)
    · have c2 : (gx_and x6 (gx_xor x1 (-1))) = 0 := by have h : ¬ ((gx_and x6 (gx_xor x1 (-1))) ≠ 0) := c2; omega
      refine gx_blk (C := True) (npc := 88) (L' := [(0, .inr 86), (1, .inl x1), (2, .inl x2), (3, .inl x3), (4, .inl x4), (5, .inl x5), (6, .inl x6)]) (st' := [.inl x2, .inl x6]) (m' := m) [((85, .iload 6, 2, 0, 0, 0, 0), (0, 0, 0)), ((87, .iload_n 2, 1, 0, 0, 0, 0), (0, 0, 0))] (by decide +kernel) rfl trivial ?_
      exact gx_calls (E := (88, .invokestatic 104, 3, 165, 0, 6035, 0)) (M' := yp_m165) [.inl x6, .inl x2] [] rfl (by decide +kernel) rfl ⟨rfl, rfl⟩ rfl rfl (Nat.le_of_ble_eq_true rfl) (Nat.le_of_ble_eq_true rfl) rfl (gx_to_mono (h3 c1 c2) (fun r m' h' => gx_to_pick [0, 1, 2, 3, 4, 5, 6] h'))

/-- share from 91 on -/
theorem gt238_91 {xs : List Int32} {w0 : sx_W} {d : Nat} {Q : gx_Q} {m : gx_M} {x1 x2 x3 x4 x5 x6 s0 : Int} (r_x4 : 1 ≤ x4 ∧ x4 ≤ 5) (r_x6 : 0 ≤ x6 ∧ x6 ≤ 255)
    (h1 : (s0 = 0) → gx_to xs w0 d yp_m206 0 [(0, .inl x6)] [] m (fun r m' => gx_to xs w0 (d + 1) yp_m238 104 [(0, .inr 86), (1, .inl x1), (2, .inl x2), (3, .inl x3), (4, .inl x4), (6, .inl x6)] (gx_rs r ++ [.inl x5]) m' Q))
    (h2 : (s0 ≠ 0) → gx_to xs w0 (d + 1) yp_m238 68 [(0, .inr 86), (1, .inl x1), (2, .inl x2), (3, .inl x3), (4, .inl x4), (5, .inl x5), (6, .inl (x6 + 1))] [] m Q) : gx_to xs w0 (d + 1) yp_m238 91 [(0, .inr 86), (1, .inl x1), (2, .inl x2), (3, .inl x3), (4, .inl x4), (5, .inl x5), (6, .inl x6)] [.inl s0] m Q := by
  refine gx_if .eq 97 (by decide +kernel) (fun c1 => ?_) (fun c1 => ?_)
  · have c1 : s0 = 0 := c1
    refine gx_blk (C := True) (npc := 101) (L' := [(0, .inr 86), (1, .inl x1), (2, .inl x2), (3, .inl x3), (4, .inl x4), (5, .inl x5), (6, .inl x6)]) (st' := [.inl x6, .inl x5]) (m' := m) [((97, .iload 5, 2, 0, 0, 0, 0), (0, 0, 0)), ((99, .iload 6, 2, 0, 0, 0, 0), (0, 0, 0))] (by decide +kernel) rfl trivial ?_
    exact gx_calls (E := (101, .invokestatic 241, 3, 206, 0, 6195, 0)) (M' := yp_m206) [.inl x6] [.inl x5] rfl (by decide +kernel) rfl ⟨rfl, rfl⟩ rfl rfl (Nat.le_of_ble_eq_true rfl) (Nat.le_of_ble_eq_true rfl) rfl (gx_to_mono (h1 c1) (fun r m' h' => gx_to_pick [0, 1, 2, 3, 4, 6] h'))
  · have c1 : s0 ≠ 0 := c1
    have e1 : gx_w (x6 + 1) = x6 + 1 := gx_w_id (by omega) (by omega)
    refine gx_blk (C := True) (npc := 68) (L' := [(0, .inr 86), (1, .inl x1), (2, .inl x2), (3, .inl x3), (4, .inl x4), (5, .inl x5), (6, .inl (gx_w (x6 + 1)))]) (st' := []) (m' := m) [((94, .goto 48, 3, 0, 0, 0, 0), (0, 0, 0)), ((142, .iinc 6 1, 3, 0, 0, 0, 0), (0, 0, 0)), ((145, .goto (-77), 3, 0, 0, 0, 0), (0, 0, 0))] (by decide +kernel) rfl trivial ?_
    rw [e1]
    exact gx_to_pick [0, 1, 2, 3, 4, 5, 6] (h2 c1)

/-- share from 104 on -/
theorem gt238_104 {xs : List Int32} {w0 : sx_W} {d : Nat} {Q : gx_Q} {m : gx_M} {x1 x2 x3 x4 x6 s0 s1 : Int} (r_x4 : 1 ≤ x4 ∧ x4 ≤ 5) (r_x6 : 0 ≤ x6 ∧ x6 ≤ 255)
    (h1 : gx_to xs w0 d yp_m239 0 [(0, .inl s1)] [] m (fun r m' => gx_to xs w0 (d + 1) yp_m238 107 [(0, .inr 86), (1, .inl x1), (2, .inl x2), (3, .inl x3), (4, .inl x4), (6, .inl x6)] (gx_rs r ++ [.inl s0]) m' Q)) : gx_to xs w0 (d + 1) yp_m238 104 [(0, .inr 86), (1, .inl x1), (2, .inl x2), (3, .inl x3), (4, .inl x4), (6, .inl x6)] [.inl s1, .inl s0] m Q := by
  exact gx_calls (E := (104, .invokestatic 337, 3, 239, 0, 7085, 0)) (M' := yp_m239) [.inl s1] [.inl s0] rfl (by decide +kernel) rfl ⟨rfl, rfl⟩ rfl rfl (Nat.le_of_ble_eq_true rfl) (Nat.le_of_ble_eq_true rfl) rfl (gx_to_mono h1 (fun r m' h' => gx_to_pick [0, 1, 2, 3, 4, 6] h'))

/-- share from 107 on -/
theorem gt238_107 {xs : List Int32} {w0 : sx_W} {d : Nat} {Q : gx_Q} {m : gx_M} {x1 x2 x3 x4 x6 s0 s1 : Int} (r_x4 : 1 ≤ x4 ∧ x4 ≤ 5) (r_x6 : 0 ≤ x6 ∧ x6 ≤ 255)
    (h1 : gx_to xs w0 d yp_m206 0 [(0, .inl x6)] [] m (fun r m' => gx_to xs w0 (d + 1) yp_m238 116 [(0, .inr 86), (1, .inl x1), (2, .inl x2), (3, .inl x3), (4, .inl x4), (6, .inl x6)] (gx_rs r ++ [.inl (x4 - 1), .inl s1, .inl s0]) m' Q)) : gx_to xs w0 (d + 1) yp_m238 107 [(0, .inr 86), (1, .inl x1), (2, .inl x2), (3, .inl x3), (4, .inl x4), (6, .inl x6)] [.inl s1, .inl s0] m Q := by
  have e1 : gx_w (x4 - 1) = x4 - 1 := gx_w_id (by omega) (by omega)
  refine gx_blk (C := True) (npc := 113) (L' := [(0, .inr 86), (1, .inl x1), (2, .inl x2), (3, .inl x3), (4, .inl x4), (6, .inl x6)]) (st' := [.inl x6, .inl (gx_w (x4 - 1)), .inl s1, .inl s0]) (m' := m) [((107, .iload 4, 2, 0, 0, 0, 0), (0, 0, 0)), ((109, .iconst 1, 1, 0, 0, 0, 0), (0, 0, 0)), ((110, .isub, 1, 0, 0, 0, 0), (0, 0, 0)), ((111, .iload 6, 2, 0, 0, 0, 0), (0, 0, 0))] (by decide +kernel) rfl trivial ?_
  rw [e1]
  exact gx_calls (E := (113, .invokestatic 241, 3, 206, 0, 6195, 0)) (M' := yp_m206) [.inl x6] [.inl (x4 - 1), .inl s1, .inl s0] rfl (by decide +kernel) rfl ⟨rfl, rfl⟩ rfl rfl (Nat.le_of_ble_eq_true rfl) (Nat.le_of_ble_eq_true rfl) rfl (gx_to_mono h1 (fun r m' h' => gx_to_pick [0, 1, 2, 3, 4, 6] h'))

/-- share from 116 on -/
theorem gt238_116 {xs : List Int32} {w0 : sx_W} {d : Nat} {Q : gx_Q} {m : gx_M} {x1 x2 x3 x4 x6 s0 s1 s2 s3 : Int} (r_x4 : 1 ≤ x4 ∧ x4 ≤ 5) (r_x6 : 0 ≤ x6 ∧ x6 ≤ 255) (r_s2 : 0 ≤ s2 ∧ s2 ≤ 4) (r_s3 : 0 ≤ s3 ∧ s3 ≤ 20)
    (h1 : gx_to xs w0 d yp_m239 0 [(0, .inl (s2 - s3))] [] m (fun r m' => gx_to xs w0 (d + 1) yp_m238 120 [(0, .inr 86), (1, .inl x1), (2, .inl x2), (3, .inl x3), (4, .inl x4), (6, .inl x6)] (gx_rs r ++ [.inl s1, .inl s0]) m' Q)) : gx_to xs w0 (d + 1) yp_m238 116 [(0, .inr 86), (1, .inl x1), (2, .inl x2), (3, .inl x3), (4, .inl x4), (6, .inl x6)] [.inl s3, .inl s2, .inl s1, .inl s0] m Q := by
  have e1 : gx_w (s2 - s3) = s2 - s3 := gx_w_id (by omega) (by omega)
  refine gx_blk (C := True) (npc := 117) (L' := [(0, .inr 86), (1, .inl x1), (2, .inl x2), (3, .inl x3), (4, .inl x4), (6, .inl x6)]) (st' := [.inl (gx_w (s2 - s3)), .inl s1, .inl s0]) (m' := m) [((116, .isub, 1, 0, 0, 0, 0), (0, 0, 0))] (by decide +kernel) rfl trivial ?_
  rw [e1]
  exact gx_calls (E := (117, .invokestatic 337, 3, 239, 0, 7085, 0)) (M' := yp_m239) [.inl (s2 - s3)] [.inl s1, .inl s0] rfl (by decide +kernel) rfl ⟨rfl, rfl⟩ rfl rfl (Nat.le_of_ble_eq_true rfl) (Nat.le_of_ble_eq_true rfl) rfl (gx_to_mono h1 (fun r m' h' => gx_to_pick [0, 1, 2, 3, 4, 6] h'))

/-- share from 120 on -/
theorem gt238_120 {xs : List Int32} {w0 : sx_W} {d : Nat} {Q : gx_Q} {m : gx_M} {x1 x2 x3 x4 x6 s0 s1 s2 : Int} (r_x4 : 1 ≤ x4 ∧ x4 ≤ 5) (r_x6 : 0 ≤ x6 ∧ x6 ≤ 255)
    (h1 : gx_to xs w0 d yp_m240 0 [(0, .inr 86), (1, .inl (gx_or x6 (gx_shl 1 x2)))] [] m (fun r m' => gx_to xs w0 (d + 1) yp_m238 131 [(0, .inr 86), (1, .inl x1), (2, .inl x2), (3, .inl x3), (4, .inl x4), (6, .inl x6)] (gx_rs r ++ [.inl (gx_w (s1 * s2)), .inl s0]) m' Q)) : gx_to xs w0 (d + 1) yp_m238 120 [(0, .inr 86), (1, .inl x1), (2, .inl x2), (3, .inl x3), (4, .inl x4), (6, .inl x6)] [.inl s2, .inl s1, .inl s0] m Q := by
  refine gx_blk (C := True) (npc := 128) (L' := [(0, .inr 86), (1, .inl x1), (2, .inl x2), (3, .inl x3), (4, .inl x4), (6, .inl x6)]) (st' := [.inl (gx_or x6 (gx_shl 1 x2)), .inr 86, .inl (gx_w (s1 * s2)), .inl s0]) (m' := m) [((120, .imul, 1, 0, 0, 0, 0), (0, 0, 0)), ((121, .aload_n 0, 1, 0, 0, 0, 0), (0, 0, 0)), ((122, .iload 6, 2, 0, 0, 0, 0), (0, 0, 0)), ((124, .iconst 1, 1, 0, 0, 0, 0), (0, 0, 0)), ((125, .iload_n 2, 1, 0, 0, 0, 0), (0, 0, 0)), ((126, .ishl, 1, 0, 0, 0, 0), (0, 0, 0)), ((127, .ior, 1, 0, 0, 0, 0), (0, 0, 0))] (by decide +kernel) rfl trivial ?_
  exact gx_callv (E := (128, .invokevirtual 340, 3, 240, 0, 7088, 0)) (M' := yp_m240) (c := 86) [.inl (gx_or x6 (gx_shl 1 x2))] [.inl (gx_w (s1 * s2)), .inl s0] rfl (by decide +kernel) rfl ⟨rfl, rfl⟩ rfl rfl (Nat.le_of_ble_eq_true rfl) (Nat.le_of_ble_eq_true rfl) (by decide +kernel) (gx_to_mono h1 (fun r m' h' => gx_to_pick [0, 1, 2, 3, 4, 6] h'))

/-- share from 131 on -/
theorem gt238_131 {xs : List Int32} {w0 : sx_W} {d : Nat} {Q : gx_Q} {m : gx_M} {x1 x2 x3 x4 x6 s0 s1 s2 : Int} (r_x4 : 1 ≤ x4 ∧ x4 ≤ 5) (r_x6 : 0 ≤ x6 ∧ x6 ≤ 255)
    (h1 : gx_to xs w0 d yp_m240 0 [(0, .inr 86), (1, .inl x6)] [] m (fun r m' => gx_to xs w0 (d + 1) yp_m238 137 [(0, .inr 86), (1, .inl x1), (2, .inl x2), (3, .inl x3), (4, .inl x4), (6, .inl x6)] (gx_rs r ++ [.inl s2, .inl s1, .inl s0]) m' Q)) : gx_to xs w0 (d + 1) yp_m238 131 [(0, .inr 86), (1, .inl x1), (2, .inl x2), (3, .inl x3), (4, .inl x4), (6, .inl x6)] [.inl s2, .inl s1, .inl s0] m Q := by
  refine gx_blk (C := True) (npc := 134) (L' := [(0, .inr 86), (1, .inl x1), (2, .inl x2), (3, .inl x3), (4, .inl x4), (6, .inl x6)]) (st' := [.inl x6, .inr 86, .inl s2, .inl s1, .inl s0]) (m' := m) [((131, .aload_n 0, 1, 0, 0, 0, 0), (0, 0, 0)), ((132, .iload 6, 2, 0, 0, 0, 0), (0, 0, 0))] (by decide +kernel) rfl trivial ?_
  exact gx_callv (E := (134, .invokevirtual 340, 3, 240, 0, 7088, 0)) (M' := yp_m240) (c := 86) [.inl x6] [.inl s2, .inl s1, .inl s0] rfl (by decide +kernel) rfl ⟨rfl, rfl⟩ rfl rfl (Nat.le_of_ble_eq_true rfl) (Nat.le_of_ble_eq_true rfl) (by decide +kernel) (gx_to_mono h1 (fun r m' h' => gx_to_pick [0, 1, 2, 3, 4, 6] h'))

/-- share from 137 on -/
theorem gt238_137 {xs : List Int32} {w0 : sx_W} {d : Nat} {Q : gx_Q} {m : gx_M} {x1 x2 x3 x4 x6 s0 s1 s2 s3 : Int} (r_x4 : 1 ≤ x4 ∧ x4 ≤ 5) (r_x6 : 0 ≤ x6 ∧ x6 ≤ 255)
    (h1 : gx_to xs w0 d yp_m238 68 [(0, .inr 86), (1, .inl x1), (2, .inl x2), (3, .inl x3), (4, .inl x4), (5, .inl (gx_w (s0 + (gx_w (s1 * (gx_w (s2 - s3))))))), (6, .inl (x6 + 1))] [] m Q) : gx_to xs w0 d yp_m238 137 [(0, .inr 86), (1, .inl x1), (2, .inl x2), (3, .inl x3), (4, .inl x4), (6, .inl x6)] [.inl s3, .inl s2, .inl s1, .inl s0] m Q := by
  have e1 : gx_w (x6 + 1) = x6 + 1 := gx_w_id (by omega) (by omega)
  refine gx_blk (C := True) (npc := 68) (L' := [(0, .inr 86), (1, .inl x1), (2, .inl x2), (3, .inl x3), (4, .inl x4), (6, .inl (gx_w (x6 + 1))), (5, .inl (gx_w (s0 + (gx_w (s1 * (gx_w (s2 - s3)))))))]) (st' := []) (m' := m) [((137, .isub, 1, 0, 0, 0, 0), (0, 0, 0)), ((138, .imul, 1, 0, 0, 0, 0), (0, 0, 0)), ((139, .iadd, 1, 0, 0, 0, 0), (0, 0, 0)), ((140, .istore 5, 2, 0, 0, 0, 0), (0, 0, 0)), ((142, .iinc 6 1, 3, 0, 0, 0, 0), (0, 0, 0)), ((145, .goto (-77), 3, 0, 0, 0, 0), (0, 0, 0))] (by decide +kernel) rfl trivial ?_
  rw [e1]
  exact gx_to_pick [0, 1, 2, 3, 4, 5, 6] h1

/-- share from 155 on -/
theorem gt238_155 {xs : List Int32} {w0 : sx_W} {d : Nat} {Q : gx_Q} {m : gx_M} {x3 x4 x5 s0 s1 : Int}
    (h1 : gx_to xs w0 d yp_m241 0 [(0, .inl s0), (1, .inl s1)] [] m (fun r m' => gx_to xs w0 (d + 1) yp_m238 158 [(3, .inl x3), (4, .inl x4), (5, .inl x5)] (gx_rs r ++ []) m' Q)) : gx_to xs w0 (d + 1) yp_m238 155 [(3, .inl x3), (4, .inl x4), (5, .inl x5)] [.inl s1, .inl s0] m Q := by
  exact gx_calls (E := (155, .invokestatic 343, 3, 241, 0, 7092, 0)) (M' := yp_m241) [.inl s0, .inl s1] [] rfl (by decide +kernel) rfl ⟨rfl, rfl⟩ rfl rfl (Nat.le_of_ble_eq_true rfl) (Nat.le_of_ble_eq_true rfl) rfl (gx_to_mono h1 (fun r m' h' => gx_to_pick [3, 4, 5] h'))

/-- share from 158 on -/
theorem gt238_158 {xs : List Int32} {w0 : sx_W} {d : Nat} {Q : gx_Q} {m : gx_M} {x3 x4 x5 s0 : Int}
    (h1 : (x3 ≠ 0) → gx_to xs w0 d yp_m239 0 [(0, .inl x4)] [] m (fun r m' => gx_to xs w0 (d + 1) yp_m238 177 [(6, .inl s0)] (gx_rs r ++ []) m' Q))
    (k1 : (x3 = 0) → s0 ≠ 0)
    (h2 : (x3 = 0) → Q (some (gx_w (Int.tdiv x5 s0))) m) : gx_to xs w0 (d + 1) yp_m238 158 [(3, .inl x3), (4, .inl x4), (5, .inl x5)] [.inl s0] m Q := by
  refine gx_blk (C := True) (npc := 161) (L' := [(3, .inl x3), (4, .inl x4), (5, .inl x5), (6, .inl s0)]) (st' := [.inl x3]) (m' := m) [((158, .istore 6, 2, 0, 0, 0, 0), (0, 0, 0)), ((160, .iload_n 3, 1, 0, 0, 0, 0), (0, 0, 0))] (by decide +kernel) rfl trivial ?_
  refine gx_if .ne 172 (by decide +kernel) (fun c1 => ?_) (fun c1 => ?_)
  · have c1 : x3 ≠ 0 := c1
    refine gx_blk (C := True) (npc := 174) (L' := [(3, .inl x3), (4, .inl x4), (5, .inl x5), (6, .inl s0)]) (st' := [.inl x4]) (m' := m) [((172, .iload 4, 2, 0, 0, 0, 0), (0, 0, 0))] (by decide +kernel) rfl trivial ?_
    exact gx_calls (E := (174, .invokestatic 337, 3, 239, 0, 7085, 0)) (M' := yp_m239) [.inl x4] [] rfl (by decide +kernel) rfl ⟨rfl, rfl⟩ rfl rfl (Nat.le_of_ble_eq_true rfl) (Nat.le_of_ble_eq_true rfl) rfl (gx_to_mono (h1 c1) (fun r m' h' => gx_to_pick [6] h'))
  · have c1 : x3 = 0 := by have h : ¬ (x3 ≠ 0) := c1; omega
    refine gx_blk (C := (True ∧ (s0 ≠ 0))) (npc := 180) (L' := [(3, .inl x3), (4, .inl x4), (5, .inl x5), (6, .inl s0)]) (st' := [.inl (gx_w (Int.tdiv x5 s0))]) (m' := m) [((164, .iload 5, 2, 0, 0, 0, 0), (0, 0, 0)), ((166, .iload 6, 2, 0, 0, 0, 0), (0, 0, 0)), ((168, .idiv, 1, 0, 0, 0, 0), (0, 0, 0)), ((169, .goto 11, 3, 0, 0, 0, 0), (0, 0, 0))] (by decide +kernel) rfl ⟨trivial, (k1 c1)⟩ ?_
    exact gx_reti (by decide +kernel) (h2 c1)

/-- share from 177 on -/
theorem gt238_177 {xs : List Int32} {w0 : sx_W} {d : Nat} {Q : gx_Q} {m : gx_M} {x6 s0 : Int}
    (k1 : x6 ≠ 0)
    (h1 : Q (some (gx_w (Int.tdiv s0 x6))) m) : gx_to xs w0 d yp_m238 177 [(6, .inl x6)] [.inl s0] m Q := by
  refine gx_blk (C := (True ∧ (x6 ≠ 0))) (npc := 180) (L' := [(6, .inl x6)]) (st' := [.inl (gx_w (Int.tdiv s0 x6))]) (m' := m) [((177, .iload 6, 2, 0, 0, 0, 0), (0, 0, 0)), ((179, .idiv, 1, 0, 0, 0, 0), (0, 0, 0))] (by decide +kernel) rfl ⟨trivial, k1⟩ ?_
  exact gx_reti (by decide +kernel) h1
end
section
/-! contracts of the reader that need none of those by hand, and those that need one: printed out of 24a-c (wip/gen/gxall.py) -/
section BWP
variable {xs : List Int32} {X : sx_W → Prop}
def bw_H1 (xs : List Int32) (X : sx_W → Prop) : Prop := xs.length ≤ 4096 ∧ bx_keeps xs bw_PC X
theorem bp_154 (h : bw_H1 xs X) : bx_Kok yp_P xs bw_INV X bk_154 := bx_chk_K h.1 h.2 bx_Tnil (M := yp_m205) rfl bc_154
theorem bp_155 (h : bw_H1 xs X) : bx_Kok yp_P xs bw_INV X bk_155 := bx_chk_K h.1 h.2 (List.forall_mem_cons.mpr ⟨bp_154 h, bx_Tnil⟩) (M := yp_m207) rfl bc_155
theorem bp_132 (h : bw_H1 xs X) : bx_Kok yp_P xs bw_INV X bk_132 := bx_chk_K h.1 h.2 (List.forall_mem_cons.mpr ⟨bp_155 h, bx_Tnil⟩) (M := yp_m207) rfl bc_132
theorem bp_162 (h : bw_H1 xs X) : bx_Kok yp_P xs bw_INV X bk_162 := bx_chk_K h.1 h.2 (List.forall_mem_cons.mpr ⟨bp_154 h, bx_Tnil⟩) (M := yp_m204) rfl bc_162
theorem bp_140 (h : bw_H1 xs X) : bx_Kok yp_P xs bw_INV X bk_140 := bx_chk_K h.1 h.2 (List.forall_mem_cons.mpr ⟨bp_162 h, bx_Tnil⟩) (M := yp_m204) rfl bc_140
theorem bp_185 (h : bw_H1 xs X) : bx_Kok yp_P xs bw_INV X bk_185 := bx_chk_K h.1 h.2 bx_Tnil (M := yp_m203) rfl bc_185
theorem bp_172 (h : bw_H1 xs X) : bx_Kok yp_P xs bw_INV X bk_172 := bx_chk_K h.1 h.2 (List.forall_mem_cons.mpr ⟨bp_140 h, (List.forall_mem_cons.mpr ⟨bp_185 h, bx_Tnil⟩)⟩) (M := yp_m203) rfl bc_172
theorem bp_359 (h : bw_H1 xs X) : bx_Kok yp_P xs bw_INV X bk_359 := bx_chk_K h.1 h.2 bx_Tnil (M := yp_m206) rfl bc_359
theorem bp_153 (h : bw_H1 xs X) : bx_Kok yp_P xs bw_INV X bk_153 := bx_chk_K h.1 h.2 (List.forall_mem_cons.mpr ⟨bp_132 h, (List.forall_mem_cons.mpr ⟨bp_172 h, (List.forall_mem_cons.mpr ⟨bp_359 h, bx_Tnil⟩)⟩)⟩) (M := yp_m202) rfl bc_153
theorem bp_177 (h : bw_H1 xs X) : bx_Kok yp_P xs bw_INV X bk_177 := bx_chk_K h.1 h.2 bx_Tnil (M := yp_m243) rfl bc_177
theorem bp_163 (h : bw_H1 xs X) : bx_Kok yp_P xs bw_INV X bk_163 := bx_chk_K h.1 h.2 (List.forall_mem_cons.mpr ⟨bp_177 h, bx_Tnil⟩) (M := yp_m243) rfl bc_163
theorem bp_141 (h : bw_H1 xs X) : bx_Kok yp_P xs bw_INV X bk_141 := bx_chk_K h.1 h.2 (List.forall_mem_cons.mpr ⟨bp_163 h, bx_Tnil⟩) (M := yp_m243) rfl bc_141
theorem bp_178 (h : bw_H1 xs X) : bx_Kok yp_P xs bw_INV X bk_178 := bx_chk_K h.1 h.2 bx_Tnil (M := yp_m193) rfl bc_178
theorem bp_189 (h : bw_H1 xs X) : bx_Kok yp_P xs bw_INV X bk_189 := bx_chk_K h.1 h.2 bx_Tnil (M := yp_m193) rfl bc_189
theorem bp_164 (h : bw_H1 xs X) : bx_Kok yp_P xs bw_INV X bk_164 := bx_chk_K h.1 h.2 (List.forall_mem_cons.mpr ⟨bp_178 h, (List.forall_mem_cons.mpr ⟨bp_189 h, bx_Tnil⟩)⟩) (M := yp_m192) rfl bc_164
theorem bp_193 (h : bw_H1 xs X) : bx_Kok yp_P xs bw_INV X bk_193 := bx_chk_K h.1 h.2 (List.forall_mem_cons.mpr ⟨bp_178 h, (List.forall_mem_cons.mpr ⟨bp_189 h, bx_Tnil⟩)⟩) (M := yp_m192) rfl bc_193
theorem bp_208 (h : bw_H1 xs X) : bx_Kok yp_P xs bw_INV X bk_208 := bx_chk_K h.1 h.2 (List.forall_mem_cons.mpr ⟨bp_178 h, (List.forall_mem_cons.mpr ⟨bp_189 h, bx_Tnil⟩)⟩) (M := yp_m192) rfl bc_208
theorem bp_224 (h : bw_H1 xs X) : bx_Kok yp_P xs bw_INV X bk_224 := bx_chk_K h.1 h.2 (List.forall_mem_cons.mpr ⟨bp_178 h, (List.forall_mem_cons.mpr ⟨bp_189 h, bx_Tnil⟩)⟩) (M := yp_m192) rfl bc_224
theorem bp_248 (h : bw_H1 xs X) : bx_Kok yp_P xs bw_INV X bk_248 := bx_chk_K h.1 h.2 (List.forall_mem_cons.mpr ⟨bp_178 h, (List.forall_mem_cons.mpr ⟨bp_189 h, bx_Tnil⟩)⟩) (M := yp_m192) rfl bc_248
theorem bp_273 (h : bw_H1 xs X) : bx_Kok yp_P xs bw_INV X bk_273 := bx_chk_K h.1 h.2 (List.forall_mem_cons.mpr ⟨bp_178 h, (List.forall_mem_cons.mpr ⟨bp_189 h, bx_Tnil⟩)⟩) (M := yp_m192) rfl bc_273
theorem bp_290 (h : bw_H1 xs X) : bx_Kok yp_P xs bw_INV X bk_290 := bx_chk_K h.1 h.2 (List.forall_mem_cons.mpr ⟨bp_178 h, (List.forall_mem_cons.mpr ⟨bp_189 h, bx_Tnil⟩)⟩) (M := yp_m192) rfl bc_290
theorem bp_302 (h : bw_H1 xs X) : bx_Kok yp_P xs bw_INV X bk_302 := bx_chk_K h.1 h.2 (List.forall_mem_cons.mpr ⟨bp_178 h, (List.forall_mem_cons.mpr ⟨bp_189 h, bx_Tnil⟩)⟩) (M := yp_m192) rfl bc_302
theorem bp_313 (h : bw_H1 xs X) : bx_Kok yp_P xs bw_INV X bk_313 := bx_chk_K h.1 h.2 (List.forall_mem_cons.mpr ⟨bp_178 h, (List.forall_mem_cons.mpr ⟨bp_189 h, bx_Tnil⟩)⟩) (M := yp_m192) rfl bc_313
theorem bp_326 (h : bw_H1 xs X) : bx_Kok yp_P xs bw_INV X bk_326 := bx_chk_K h.1 h.2 (List.forall_mem_cons.mpr ⟨bp_178 h, (List.forall_mem_cons.mpr ⟨bp_189 h, bx_Tnil⟩)⟩) (M := yp_m192) rfl bc_326
theorem bp_342 (h : bw_H1 xs X) : bx_Kok yp_P xs bw_INV X bk_342 := bx_chk_K h.1 h.2 (List.forall_mem_cons.mpr ⟨bp_178 h, (List.forall_mem_cons.mpr ⟨bp_189 h, bx_Tnil⟩)⟩) (M := yp_m192) rfl bc_342
theorem bp_355 (h : bw_H1 xs X) : bx_Kok yp_P xs bw_INV X bk_355 := bx_chk_K h.1 h.2 (List.forall_mem_cons.mpr ⟨bp_178 h, (List.forall_mem_cons.mpr ⟨bp_189 h, bx_Tnil⟩)⟩) (M := yp_m192) rfl bc_355
theorem bp_371 (h : bw_H1 xs X) : bx_Kok yp_P xs bw_INV X bk_371 := bx_chk_K h.1 h.2 (List.forall_mem_cons.mpr ⟨bp_178 h, (List.forall_mem_cons.mpr ⟨bp_189 h, bx_Tnil⟩)⟩) (M := yp_m192) rfl bc_371
theorem bp_376 (h : bw_H1 xs X) : bx_Kok yp_P xs bw_INV X bk_376 := bx_chk_K h.1 h.2 (List.forall_mem_cons.mpr ⟨bp_178 h, (List.forall_mem_cons.mpr ⟨bp_189 h, bx_Tnil⟩)⟩) (M := yp_m192) rfl bc_376
theorem bp_379 (h : bw_H1 xs X) : bx_Kok yp_P xs bw_INV X bk_379 := bx_chk_K h.1 h.2 (List.forall_mem_cons.mpr ⟨bp_178 h, (List.forall_mem_cons.mpr ⟨bp_189 h, bx_Tnil⟩)⟩) (M := yp_m192) rfl bc_379
theorem bp_384 (h : bw_H1 xs X) : bx_Kok yp_P xs bw_INV X bk_384 := bx_chk_K h.1 h.2 (List.forall_mem_cons.mpr ⟨bp_178 h, (List.forall_mem_cons.mpr ⟨bp_189 h, bx_Tnil⟩)⟩) (M := yp_m192) rfl bc_384
theorem bp_390 (h : bw_H1 xs X) : bx_Kok yp_P xs bw_INV X bk_390 := bx_chk_K h.1 h.2 bx_Tnil (M := yp_m192) rfl bc_390
theorem bp_142 (h : bw_H1 xs X) : bx_Kok yp_P xs bw_INV X bk_142 := bx_chk_K h.1 h.2 (List.forall_mem_cons.mpr ⟨bp_164 h, (List.forall_mem_cons.mpr ⟨bp_193 h, (List.forall_mem_cons.mpr ⟨bp_208 h, (List.forall_mem_cons.mpr ⟨bp_224 h, (List.forall_mem_cons.mpr ⟨bp_248 h, (List.forall_mem_cons.mpr ⟨bp_273 h, (List.forall_mem_cons.mpr ⟨bp_290 h, (List.forall_mem_cons.mpr ⟨bp_302 h, (List.forall_mem_cons.mpr ⟨bp_313 h, (List.forall_mem_cons.mpr ⟨bp_326 h, (List.forall_mem_cons.mpr ⟨bp_342 h, (List.forall_mem_cons.mpr ⟨bp_355 h, (List.forall_mem_cons.mpr ⟨bp_371 h, (List.forall_mem_cons.mpr ⟨bp_376 h, (List.forall_mem_cons.mpr ⟨bp_379 h, (List.forall_mem_cons.mpr ⟨bp_384 h, (List.forall_mem_cons.mpr ⟨bp_390 h, bx_Tnil⟩)⟩)⟩)⟩)⟩)⟩)⟩)⟩)⟩)⟩)⟩)⟩)⟩)⟩)⟩)⟩)⟩) (M := yp_m191) rfl bc_142
theorem bp_98 (h : bw_H1 xs X) : bx_Kok yp_P xs bw_INV X bk_98 := bx_chk_K h.1 h.2 bx_Tnil (M := yp_m212) rfl bc_98
theorem bp_53 (h : bw_H1 xs X) : bx_Kok yp_P xs bw_INV X bk_53 := bx_chk_K h.1 h.2 (List.forall_mem_cons.mpr ⟨bp_98 h, bx_Tnil⟩) (M := yp_m212) rfl bc_53
theorem bp_124 (h : bw_H1 xs X) : bx_Kok yp_P xs bw_INV X bk_124 := bx_chk_K h.1 h.2 bx_Tnil (M := yp_m212) rfl bc_124
theorem bp_97 (h : bw_H1 xs X) : bx_Kok yp_P xs bw_INV X bk_97 := bx_chk_K h.1 h.2 (List.forall_mem_cons.mpr ⟨bp_124 h, bx_Tnil⟩) (M := yp_m212) rfl bc_97
theorem bp_125 (h : bw_H1 xs X) : bx_Kok yp_P xs bw_INV X bk_125 := bx_chk_K h.1 h.2 bx_Tnil (M := yp_m212) rfl bc_125
theorem bp_100 (h : bw_H1 xs X) : bx_Kok yp_P xs bw_INV X bk_100 := bx_chk_K h.1 h.2 (List.forall_mem_cons.mpr ⟨bp_125 h, bx_Tnil⟩) (M := yp_m212) rfl bc_100
theorem bp_412 (h : bw_H1 xs X) : bx_Kok yp_P xs bw_INV X bk_412 := bx_chk_K h.1 h.2 bx_Tnil (M := yp_m212) rfl bc_412
theorem bp_411 (h : bw_H1 xs X) : bx_Kok yp_P xs bw_INV X bk_411 := bx_chk_K h.1 h.2 (List.forall_mem_cons.mpr ⟨bp_412 h, bx_Tnil⟩) (M := yp_m212) rfl bc_411
theorem bq_99 (h : bw_H1 xs X) (hB : bx_Kok yp_P xs bw_INV X bk_152) : bx_Kok yp_P xs bw_INV X bk_99 := bx_chk_K h.1 h.2 bx_Tnil (M := yp_m165) rfl bc_99
theorem bq_199 (h : bw_H1 xs X) (hB : bx_Kok yp_P xs bw_INV X bk_152) : bx_Kok yp_P xs bw_INV X bk_199 := bx_chk_K h.1 h.2 bx_Tnil (M := yp_m199) rfl bc_199
theorem bq_219 (h : bw_H1 xs X) (hB : bx_Kok yp_P xs bw_INV X bk_152) : bx_Kok yp_P xs bw_INV X bk_219 := bx_chk_K h.1 h.2 (List.forall_mem_cons.mpr ⟨bq_199 h hB, bx_Tnil⟩) (M := yp_m197) rfl bc_219
theorem bq_220 (h : bw_H1 xs X) (hB : bx_Kok yp_P xs bw_INV X bk_152) : bx_Kok yp_P xs bw_INV X bk_220 := bx_chk_K h.1 h.2 bx_Tnil (M := yp_m210) rfl bc_220
theorem bq_211 (h : bw_H1 xs X) (hB : bx_Kok yp_P xs bw_INV X bk_152) : bx_Kok yp_P xs bw_INV X bk_211 := bx_chk_K h.1 h.2 (List.forall_mem_cons.mpr ⟨bq_99 h hB, (List.forall_mem_cons.mpr ⟨hB, (List.forall_mem_cons.mpr ⟨bq_199 h hB, (List.forall_mem_cons.mpr ⟨bq_219 h hB, (List.forall_mem_cons.mpr ⟨bq_220 h hB, bx_Tnil⟩)⟩)⟩)⟩)⟩) (M := yp_m195) rfl bc_211
end BWP
end
section
/-! share -/
theorem gx_end_i {a : ax_V} {r : Option Int} (h : gx_end (some a) r) : ∃ x, r = some x ∧ a.2.1 ≤ x ∧ x ≤ a.2.2 := by
  cases r with
  | none => exact h.elim
  | some x => exact ⟨x, rfl, h.2.1, h.2.2⟩
theorem gx_end_0 {r : Option Int} (h : gx_end none r) : r = none := by
  cases r with
  | none => rfl
  | some x => exact h.elim
section GSH
variable {xs : List Int32} {gX : gx_M → Prop} {w0 : sx_W} {d : Nat} {Q : gx_Q} {m : gx_M}
theorem gc_knownBut (h : bw_H1 xs (gx_XW gX)) (hI : gx_I m) (hX : gX m) {p y : Int} (hp : -2 ≤ p ∧ p ≤ 7) (hy : -1 ≤ y ∧ y ≤ 39) (hQ : ∀ v, Q (some v) m) : gx_to xs w0 (d + 1) yp_m207 0 [(0, .inr 86), (1, .inl p), (2, .inl y)] [] m Q :=
  gx_K (bp_132 h) rfl (by omega) (by decide +kernel) rfl ⟨⟨rfl, rfl⟩, ⟨rfl, hp⟩, ⟨rfl, hy⟩, trivial⟩ hI hX (fun r m' he _ _ hf => by
    obtain ⟨x, rfl, -, -⟩ := gx_end_i he
    rw [hf.nil]
    exact hQ x)
theorem gl_wa (h : bw_H1 xs (gx_XW gX)) (hI : gx_I m) (hX : gX m) {g : Int} (hQ : ∀ v, Q (some v) m) : ∀ (j : Nat) (s p : Int), 0 ≤ p → 8 - p = j → gx_to xs w0 (d + 2) yp_m240 4 [(0, .inr 86), (1, .inl g), (2, .inl s), (3, .inl p)] [] m Q
  | 0, s, p, h1, h2 => gt240_4 (by omega) (fun _ => gc_bits (gt240_39 (hQ _))) (fun c => by omega)
  | j + 1, s, p, h1, h2 => gt240_4 (by omega) (fun _ => gc_bits (gt240_39 (hQ _))) (fun c => gc_has
      (fun _ => gt240_15 (by omega) (fun e => by omega) (fun _ => gc_knownBut h hI hX (by omega) (by omega) (fun v => gt240_25 (by omega) (gl_wa h hI hX hQ j _ (p + 1) (by omega) (by omega)))))
      (fun _ => gt240_15 (by omega) (fun _ => gl_wa h hI hX hQ j _ (p + 1) (by omega) (by omega)) (fun e => by omega)))
theorem gc_wa (h : bw_H1 xs (gx_XW gX)) (hI : gx_I m) (hX : gX m) {g : Int} (hQ : ∀ v, Q (some v) m) : gx_to xs w0 (d + 2) yp_m240 0 [(0, .inr 86), (1, .inl g)] [] m Q := gt240_0 (gl_wa h hI hX hQ 8 0 0 (by omega) (by omega))
theorem gl_share (h : bw_H1 xs (gx_XW gX)) (hI : gx_I m) (hX : gX m) {x1 x2 x3 n : Int} (hn : 1 ≤ n ∧ n ≤ 5) (hQ : ∀ v, Q (some v) m) : ∀ (j : Nat) (s g : Int), 0 ≤ g → 256 - g = j → gx_to xs w0 (d + 3) yp_m238 68 [(0, .inr 86), (1, .inl x1), (2, .inl x2), (3, .inl x3), (4, .inl n), (5, .inl s), (6, .inl g)] [] m Q := by
  have he : ∀ (s : Int), gx_to xs w0 (d + 2) yp_m239 0 [(0, .inl n)] [] m (fun r m' => gx_to xs w0 (d + 3) yp_m238 155 [(3, .inl x3), (4, .inl n), (5, .inl s)] (gx_rs r ++ [.inl s]) m' Q) := fun s =>
    gc_ord5 hn (fun v hv => gt238_155 (gc_gcd hv (fun w hw => gt238_158 (fun _ => gc_ord (by omega) (fun v => gt238_177 hw (hQ _))) (fun _ => hw) (fun _ => hQ _))))
  have hb : ∀ s : Int, 0 ≤ gx_bits 20 s ∧ gx_bits 20 s ≤ 20 := fun s => gx_bits_bd s 20 (by omega)
  intro j
  induction j with
  | zero => exact fun s g h1 h2 => gt238_68 hn (by omega) (fun _ => he s) (fun c => by omega) (fun c => by omega)
  | succ j ih =>
    intro s g h1 h2
    have hs : ∀ s', gx_to xs w0 (d + 3) yp_m238 68 [(0, .inr 86), (1, .inl x1), (2, .inl x2), (3, .inl x3), (4, .inl n), (5, .inl s'), (6, .inl (g + 1))] [] m Q := fun s' => ih s' (g + 1) (by omega) (by omega)
    refine gt238_68 hn (by omega) (fun _ => he s) (fun _ _ => hs s) (fun c _ => gc_has (fun _ => gt238_91 hn (by omega) (fun e => by omega) (fun _ => hs s)) (fun _ => gt238_91 hn (by omega) (fun _ => ?_) (fun e => by omega)))
    have h20 := hb g
    exact gc_bits (gt238_104 hn (by omega) (gc_ord (by omega) (fun v => gt238_107 hn (by omega) (gc_bits (gt238_116 hn (by omega) (by omega) (by omega) (gc_ord (by omega) (fun v' => gt238_120 hn (by omega) (gc_wa h hI hX (fun u => gt238_131 hn (by omega) (gc_wa h hI hX (fun u' => gt238_137 hn (by omega) (hs _))))))))))))
theorem gc_share (h : bw_H1 xs (gx_XW gX)) (hI : gx_I m) (hX : gX m) {x1 x2 x3 : Int} (hQ : ∀ v, Q (some v) m) : gx_to xs w0 (d + 3) yp_m238 0 [(0, .inr 86), (1, .inl x1), (2, .inl x2), (3, .inl x3)] [] m Q :=
  gt238_0 hI (fun _ => hQ _) (fun _ => gc_bits (gt238_19 (gc_in
    (fun b1 b2 => gt238_24 (fun e => by omega) (fun _ => gc_in
      (fun _ _ => gt238_34 (fun e => by omega) (fun _ => gc_has
        (fun _ => gt238_42 (fun e => by omega) (fun _ => gc_in
          (fun _ _ => gt238_51 (fun _ => gc_bits (gt238_60 (gl_share h hI hX ⟨b1, b2⟩ hQ 256 0 0 (by omega) (by omega)))) (fun e => by omega))
          (fun _ => gt238_51 (fun e => absurd rfl e) (fun _ => hQ _))))
        (fun _ => gt238_42 (fun _ => hQ _) (fun e => absurd rfl e))))
      (fun _ => gt238_34 (fun _ => hQ _) (fun e => absurd rfl e))))
    (fun _ => gt238_24 (fun _ => hQ _) (fun e => absurd rfl e)))))
theorem gk_share (h : bw_H1 xs (gx_XW gX)) : bx_Kok yp_P xs bw_INV (gx_XW gX) bk_61 := by
  refine gx_K_of (by decide) rfl (fun M w0 v m hM hv hI hX _ => ?_)
  cases (Option.some.inj (hM.symm.trans rfl) : M = yp_m238)
  match v, hv with
  | x1 :: x2 :: x3 :: r, hv =>
    exact gc_share (d := 5) h hI hX (fun v hb => ⟨⟨rfl, hb v rfl⟩, hI, hX, gx_fw.rf⟩)
end GSH
end
section
/-! how far each one is: rows of numbers alone -/
def lf_up (f : Nat → Int) (a : Nat) (v : Int) : Nat → Int := fun k => if k = a then v else f k
theorem gx_u_row {m : gx_M} {c k : Nat} {v : Int} : gx_u m c k v c = lf_up (m c) k v := by
  funext k'
  unfold gx_u lf_up
  by_cases h : k' = k
  · rw [if_pos ⟨rfl, h⟩, if_pos h]
  · rw [if_neg (fun e => h e.2), if_neg h]
theorem gx_u_off {m : gx_M} {c k : Nat} {v : Int} {c' : Nat} (h : c' ≠ c) : gx_u m c k v c' = m c' := by
  funext k'
  exact gx_u_ne (fun e => h e.1)
def lf_W (E : Nat → Nat → Prop) (q : Nat) : Nat → Nat → Prop
  | 0, p => p = q
  | n + 1, p => ∃ b, b < 8 ∧ E p b ∧ lf_W E q n b
def lf_1 (f : Nat → Int) (k : Nat) : Int := if f k < 1000000000 then 1 else 0
def lf_c (f : Nat → Int) : Int := lf_1 f 0 + lf_1 f 1 + lf_1 f 2 + lf_1 f 3 + lf_1 f 4 + lf_1 f 5 + lf_1 f 6 + lf_1 f 7
theorem lf_1_bd (f : Nat → Int) (k : Nat) : 0 ≤ lf_1 f k ∧ lf_1 f k ≤ 1 := by unfold lf_1; split <;> omega
theorem lf_c_bd (f : Nat → Int) : 0 ≤ lf_c f ∧ lf_c f ≤ 8 := by
  have h0 := lf_1_bd f 0; have h1 := lf_1_bd f 1; have h2 := lf_1_bd f 2; have h3 := lf_1_bd f 3
  have h4 := lf_1_bd f 4; have h5 := lf_1_bd f 5; have h6 := lf_1_bd f 6; have h7 := lf_1_bd f 7
  unfold lf_c; omega
theorem lf_1_up (f : Nat → Int) (a : Nat) (v : Int) (k : Nat) : lf_1 (lf_up f a v) k = if k = a then (if v < 1000000000 then 1 else 0) else lf_1 f k := by
  unfold lf_1 lf_up
  by_cases h : k = a
  · rw [if_pos h, if_pos h]
  · rw [if_neg h, if_neg h]
theorem lf_c_up (f : Nat → Int) {a : Nat} (ha : a < 8) (v : Int) : lf_c (lf_up f a v) = lf_c f - lf_1 f a + (if v < 1000000000 then 1 else 0) := by
  unfold lf_c
  simp only [lf_1_up]
  have : a = 0 ∨ a = 1 ∨ a = 2 ∨ a = 3 ∨ a = 4 ∨ a = 5 ∨ a = 6 ∨ a = 7 := by omega
  rcases this with rfl | rfl | rfl | rfl | rfl | rfl | rfl | rfl <;> simp <;> omega
def lf_ok (E : Nat → Nat → Prop) (q : Nat) (f : Nat → Int) : Prop := (∀ p, p < 8 → 0 ≤ f p ∧ f p ≤ 1000000000) ∧ f q = 0 ∧ ∀ p, p < 8 → f p < 1000000000 → lf_W E q (f p).toNat p ∧ f p + 1 ≤ lf_c f
def lf_lo (E : Nat → Nat → Prop) (q n : Nat) (f : Nat → Int) : Prop := ∀ a, a < 8 → ∀ k : Nat, k ≤ n → lf_W E q k a → f a ≤ (k : Int)
def lf_mid (E : Nat → Nat → Prop) (q n a0 b0 : Nat) (f : Nat → Int) : Prop := lf_lo E q n f ∧ (∀ a, a < a0 → a < 8 → ∀ k : Nat, k ≤ n + 1 → lf_W E q k a → f a ≤ (k : Int)) ∧ ∀ b, b < b0 → b < 8 → E a0 b → ∀ k : Nat, k ≤ n → lf_W E q k b → f a0 ≤ (k : Int) + 1
def lf_min (x y : Int) : Int := if x < y then x else y
section LFS
variable {E : Nat → Nat → Prop} {q : Nat} {f : Nat → Int}
theorem lf_st_ok (h : lf_ok E q f) {a b : Nat} (ha : a < 8) (hb : b < 8) (hE : E a b) (hf : f b < 1000000000) : lf_ok E q (lf_up f a (lf_min (f a) (f b + 1))) := by
  obtain ⟨h1, h2, h3⟩ := h
  obtain ⟨w1, w2⟩ := h3 b hb hf
  have hc := lf_c_bd f
  have hb0 := h1 b hb
  have ha0 := h1 a ha
  have h1a := lf_1_bd f a
  by_cases hlt : f a < f b + 1
  · have e : lf_up f a (lf_min (f a) (f b + 1)) = f := by
      funext k
      unfold lf_up lf_min
      rw [if_pos hlt]
      split
      · rename_i e; rw [e]
      · rfl
    rw [e]
    exact ⟨h1, h2, h3⟩
  · have hv : lf_min (f a) (f b + 1) = f b + 1 := if_neg hlt
    rw [hv]
    have hcu := lf_c_up f ha (f b + 1)
    rw [if_pos (by omega)] at hcu
    have hcc : lf_c (lf_up f a (f b + 1)) = lf_c f - lf_1 f a + 1 := hcu
    have hfa : f a < 1000000000 → lf_1 f a = 1 := fun e => if_pos e
    have hfa' : ¬ f a < 1000000000 → lf_1 f a = 0 := fun e => if_neg e
    refine ⟨fun p hp => ?_, ?_, fun p hp hlt' => ?_⟩
    · unfold lf_up
      split
      · omega
      · exact h1 p hp
    · unfold lf_up
      split
      · rename_i e
        rw [e] at h2
        omega
      · exact h2
    · unfold lf_up at hlt' ⊢
      by_cases hpa : p = a
      · subst hpa
        rw [if_pos rfl]
        refine ⟨?_, ?_⟩
        · rw [show (f b + 1).toNat = (f b).toNat + 1 by omega]
          exact ⟨b, hb, hE, w1⟩
        · show f b + 1 + 1 ≤ lf_c (lf_up f p (f b + 1))
          rw [hcc]
          by_cases hq : f p < 1000000000
          · have := (h3 p hp hq).2
            rw [hfa hq]
            omega
          · rw [hfa' hq]
            omega
      · rw [if_neg hpa] at hlt' ⊢
        obtain ⟨g1, g2⟩ := h3 p hp hlt'
        refine ⟨g1, ?_⟩
        show f p + 1 ≤ lf_c (lf_up f a (f b + 1))
        omega
theorem lf_st_le {a : Nat} {y : Int} (k : Nat) : lf_up f a (lf_min (f a) y) k ≤ f k := by
  unfold lf_up lf_min
  split
  · rename_i e
    subst e
    split <;> omega
  · exact Int.le_refl _
theorem lf_st_mid {n a b : Nat} (hn : n ≤ 8) (hb : b < 8) (h : lf_mid E q n a b f) : lf_mid E q n a (b + 1) (lf_up f a (lf_min (f a) (f b + 1))) := by
  obtain ⟨h1, h2, h3⟩ := h
  refine ⟨fun a' ha' k hk hw => Int.le_trans (lf_st_le a') (h1 a' ha' k hk hw), fun a' h4 h5 k hk hw => Int.le_trans (lf_st_le a') (h2 a' h4 h5 k hk hw), fun b' h4 h5 hE k hk hw => ?_⟩
  by_cases hbb : b' < b
  · exact Int.le_trans (lf_st_le a) (h3 b' hbb h5 hE k hk hw)
  · have e : b' = b := by omega
    subst e
    have := h1 b' h5 k hk hw
    unfold lf_up lf_min
    rw [if_pos rfl]
    split <;> omega
theorem lf_no_mid {n a b : Nat} (hn : n ≤ 8) (hb : b < 8) (hno : E a b → 1000000000 ≤ f b) (h : lf_mid E q n a b f) : lf_mid E q n a (b + 1) f := by
  obtain ⟨h1, h2, h3⟩ := h
  refine ⟨h1, h2, fun b' h4 h5 hE k hk hw => ?_⟩
  by_cases hbb : b' < b
  · exact h3 b' hbb h5 hE k hk hw
  · have e : b' = b := by omega
    subst e
    have h6 := h1 b' h5 k hk hw
    have h7 := hno hE
    omega
theorem lf_nx_mid {n a : Nat} (hok : lf_ok E q f) (h : lf_mid E q n a 8 f) : lf_mid E q n (a + 1) 0 f := by
  obtain ⟨h1, h2, h3⟩ := h
  refine ⟨h1, fun a' h4 h5 k hk hw => ?_, fun b h4 => absurd h4 (Nat.not_lt_zero _)⟩
  by_cases haa : a' < a
  · exact h2 a' haa h5 k hk hw
  · have e : a' = a := by omega
    subst e
    cases k with
    | zero =>
      have e : a' = q := hw
      rw [e, hok.2.1]
      exact Int.le_refl _
    | succ k =>
      obtain ⟨b, hb, hE, hw⟩ := hw
      have := h3 b hb hb hE k (by omega) hw
      omega
theorem lf_nx_lo {n : Nat} (h : lf_mid E q n 8 0 f) : lf_lo E q (n + 1) f := fun a ha k hk hw => h.2.1 a ha ha k hk hw
theorem lf_mid0 {n : Nat} (h : lf_lo E q n f) : lf_mid E q n 0 0 f := ⟨h, fun a h4 => absurd h4 (Nat.not_lt_zero _), fun b h4 => absurd h4 (Nat.not_lt_zero _)⟩
/-- at the end: a neighbour that is one nearer -/
theorem lf_near (hok : lf_ok E q f) (hlo : lf_lo E q 8 f) {p : Nat} (hp : p < 8) (h1 : f p < 1000000000) (h2 : 0 < f p) : ∃ b, b < 8 ∧ E p b ∧ f b = f p - 1 := by
  obtain ⟨w1, w2⟩ := hok.2.2 p hp h1
  have hc := lf_c_bd f
  obtain ⟨n, hn⟩ : ∃ n : Nat, (f p).toNat = n + 1 := ⟨(f p).toNat - 1, by omega⟩
  rw [hn] at w1
  obtain ⟨b, hb, hE, hw⟩ := w1
  have h3 := hlo b hb n (by omega) hw
  have h4 := hok.1 b hb
  refine ⟨b, hb, hE, ?_⟩
  by_cases he : f b = f p - 1
  · exact he
  · exfalso
    have hbF : f b < 1000000000 := by omega
    obtain ⟨w3, -⟩ := hok.2.2 b hb hbF
    have h5 := hlo p hp ((f b).toNat + 1) (by omega) ⟨b, hb, hE, w3⟩
    omega
end LFS
end
