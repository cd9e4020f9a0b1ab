/-! BY HAND: blocks of code over numbers that are told by letters. A world's cells keep their kinds, lengths and references (S: any numbers) -/
def fx_top (a : ax_V) : ax_V := if a.1 = 0 then ax_top else if a.1 = 1 then ax_topL else a
def fx_S : ax_W := bw_INV.map (fun c => (c.1, c.2.map (fun q => (q.1, fx_top q.2))))
/-- a number of the world -/
def fx_i (w : sx_W) (c k : Nat) : Int32 := match (w[c]?).bind (fun x => x.2[k]?) with
  | some (.int x) => x
  | _ => 0
/-- a number laid into the world -/
def fx_p (w : sx_W) (c k : Nat) (v : Int32) : sx_W := match w[c]? with
  | some (t, vs) => w.set c (t, vs.set k (.int v))
  | none => w
def fx_has (lv L : sx_L) : Prop := ∀ q ∈ L, sx_get lv q.1 = some q.2 ∧ q.2.category = 1
theorem fx_has.sub {lv L L' : sx_L} (h : fx_has lv L) (hs : ∀ q ∈ L', q ∈ L) : fx_has lv L' := fun q hq => h q (hs q hq)
def fx_get : sx_L → Nat → Option Value
  | [], _ => none
  | q :: r, i => if q.1 = i then some q.2 else fx_get r i
def fx_put : sx_L → Nat → Value → sx_L
  | [], i, v => [(i, v)]
  | q :: r, i, v => if q.1 = i then (i, v) :: r.filter (fun q => !decide (q.1 = i)) else q :: fx_put r i v
theorem fx_get_mem : ∀ {L : sx_L} {i : Nat} {v : Value}, fx_get L i = some v → (i, v) ∈ L
  | [], _, _, h => by cases h
  | q :: r, i, v, h => by
    unfold fx_get at h
    split at h
    · rename_i e
      cases h
      rw [← e]
      exact List.mem_cons_self
    · exact List.mem_cons_of_mem _ (fx_get_mem h)
theorem fx_put_mem : ∀ {L : sx_L} {i : Nat} {v : Value} {q : Nat × Value}, q ∈ fx_put L i v → q = (i, v) ∨ (q ∈ L ∧ q.1 ≠ i)
  | [], i, v, q, h => by
    rw [fx_put, List.mem_singleton] at h
    exact .inl h
  | p :: r, i, v, q, h => by
    unfold fx_put at h
    split at h
    · rcases List.mem_cons.mp h with h | h
      · exact .inl h
      · obtain ⟨h1, h2⟩ := List.mem_filter.mp h
        rw [Bool.not_eq_true', decide_eq_false_iff_not] at h2
        exact .inr ⟨List.mem_cons_of_mem _ h1, h2⟩
    · rename_i hne
      rcases List.mem_cons.mp h with rfl | h
      · exact .inr ⟨List.mem_cons_self, hne⟩
      · rcases fx_put_mem h with h | h
        · exact .inl h
        · exact .inr ⟨List.mem_cons_of_mem _ h.1, h.2⟩
theorem fx_has_set {lv L : sx_L} {i : Nat} {v : Value} (h : fx_has lv L) (hv : v.category = 1) : fx_has (sx_set lv i v) (fx_put L i v) := by
  intro q hq
  rcases fx_put_mem hq with rfl | ⟨hm, hne⟩
  · exact ⟨sx_get_self _ _ _, hv⟩
  · obtain ⟨h1, h2⟩ := h q hm
    refine ⟨sx_get_keep hne h1 ?_, h2⟩
    simp only [Bool.and_eq_true, Bool.not_eq_true', beq_eq_false_iff_ne, ne_eq, Bool.and_eq_false_iff]
    exact ⟨hne, .inr (by rw [h2]; decide)⟩
/-- may an int be laid there -/
def fx_wr (S : ax_W) (c t : Nat) : Option ax_A := match S[c]? with
  | some (t', r) => if t' = t then some r else none
  | none => none
def fx_all (r : ax_A) : Bool := r.all (fun q => decide (q.2 = ax_top))
abbrev fx_R : Type := Prop × Nat × sx_L × List Value × sx_W
/-- one instruction that neither branches nor calls; the Prop gathers what must hold of indices and booleans -/
def fx_1 (P : sx_P) (S : ax_W) (nL : Nat) (E : sx_E) (C : Prop) (L : sx_L) (st : List Value) (w : sx_W) : Option fx_R := match E with
  | (pc, I, _, a, k, _, z) => match I with
    | .iconst n => some (C, pc + 1, L, .int (Int32.ofInt n) :: st, w)
    | .bipush n => some (C, pc + 2, L, .int (Int8.ofInt n).toInt32 :: st, w)
    | .sipush n => some (C, pc + 3, L, .int (Int16.ofInt n).toInt32 :: st, w)
    | .ldc _ => some (C, pc + 2, L, .int (Int32.ofInt z) :: st, w)
    | .iload_n i => (match fx_get L (i : Nat) with
      | some (.int x) => some (C, pc + 1, L, .int x :: st, w)
      | _ => none)
    | .iload i => (match fx_get L i with
      | some (.int x) => some (C, pc + 2, L, .int x :: st, w)
      | _ => none)
    | .aload_n i => (match fx_get L (i : Nat) with
      | some (.ref x) => some (C, pc + 1, L, .ref x :: st, w)
      | _ => none)
    | .istore_n i => (match st with
      | .int x :: r => if (i : Nat) < nL then some (C, pc + 1, fx_put L (i : Nat) (.int x), r, w) else none
      | _ => none)
    | .istore i => (match st with
      | .int x :: r => if i < nL then some (C, pc + 2, fx_put L i (.int x), r, w) else none
      | _ => none)
    | .iinc i n => (match fx_get L i with
      | some (.int x) => if i < nL then some (C, pc + 3, fx_put L i (.int (x + Int32.ofInt n)), st, w) else none
      | _ => none)
    | .iadd => (match st with
      | .int y :: .int x :: r => some (C, pc + 1, L, .int (x + y) :: r, w)
      | _ => none)
    | .isub => (match st with
      | .int y :: .int x :: r => some (C, pc + 1, L, .int (x - y) :: r, w)
      | _ => none)
    | .imul => (match st with
      | .int y :: .int x :: r => some (C, pc + 1, L, .int (x * y) :: r, w)
      | _ => none)
    | .iand => (match st with
      | .int y :: .int x :: r => some (C, pc + 1, L, .int (x &&& y) :: r, w)
      | _ => none)
    | .ior => (match st with
      | .int y :: .int x :: r => some (C, pc + 1, L, .int (x ||| y) :: r, w)
      | _ => none)
    | .ixor => (match st with
      | .int y :: .int x :: r => some (C, pc + 1, L, .int (x ^^^ y) :: r, w)
      | _ => none)
    | .ishl => (match st with
      | .int y :: .int x :: r => some (C, pc + 1, L, .int (x <<< (y &&& 31)) :: r, w)
      | _ => none)
    | .ishr => (match st with
      | .int y :: .int x :: r => some (C, pc + 1, L, .int (x >>> (y &&& 31)) :: r, w)
      | _ => none)
    | .idiv => (match st with
      | .int y :: .int x :: r => some (C ∧ y ≠ 0, pc + 1, L, .int (x / y) :: r, w)
      | _ => none)
    | .irem => (match st with
      | .int y :: .int x :: r => some (C ∧ y ≠ 0, pc + 1, L, .int (x - x / y * y) :: r, w)
      | _ => none)
    | .dup => (match st with
      | .int x :: r => some (C, pc + 1, L, .int x :: .int x :: r, w)
      | .ref x :: r => some (C, pc + 1, L, .ref x :: .ref x :: r, w)
      | _ => none)
    | .getfield _ => (match st with
      | .ref c :: r => (match fx_wr S c a with
        | some q => if a < 100 then (match ax_nth q k with
          | some (2, c', _) => some (C, pc + 3, L, .ref c'.toNat :: r, w)
          | some (0, _, _) => some (C, pc + 3, L, .int (fx_i w c k) :: r, w)
          | _ => none) else none
        | none => none)
      | _ => none)
    | .putfield _ => (match st with
      | .int v :: .ref c :: r => (match fx_wr S c a with
        | some q => if a < 100 ∧ ax_nth q k = some ax_top then some (C ∧ sx_fit (P.2.2.1 a k) (.int v) = true, pc + 3, L, r, fx_p w c k v) else none
        | none => none)
      | _ => none)
    | .iaload => (match st with
      | .int i :: .ref c :: r => (match fx_wr S c 100 with
        | some q => if fx_all q = true then some (C ∧ 0 ≤ i.toInt ∧ i.toInt < (ax_len q : Int), pc + 1, L, .int (fx_i w c i.toInt.toNat) :: r, w) else none
        | none => none)
      | _ => none)
    | .iastore => (match st with
      | .int v :: .int i :: .ref c :: r => (match fx_wr S c 100 with
        | some q => if fx_all q = true then some (C ∧ 0 ≤ i.toInt ∧ i.toInt < (ax_len q : Int), pc + 1, L, r, fx_p w c i.toInt.toNat v) else none
        | none => none)
      | _ => none)
    | .goto off => if 0 ≤ (pc : Int) + off then some (C, ((pc : Int) + off).toNat, L, st, w) else none
    | _ => none
theorem fx_all_nth : ∀ (r : ax_A) (k : Nat), fx_all r = true → k < ax_len r → ax_nth r k = some ax_top
  | [], k, _, h => by unfold ax_len at h; omega
  | (n, a) :: r, k, h, hk => by
    unfold fx_all at h
    rw [List.all_cons, Bool.and_eq_true, decide_eq_true_eq] at h
    unfold ax_nth
    unfold ax_len at hk
    by_cases hn : k < n
    · rw [if_pos hn]
      exact congrArg some h.1
    · rw [if_neg hn]
      exact fx_all_nth r (k - n) h.2 (by omega)
theorem fx_wr_ok {S : ax_W} {c t : Nat} {r : ax_A} (h : fx_wr S c t = some r) : S[c]? = some (t, r) := by
  unfold fx_wr at h
  split at h
  · rename_i t' r' hs
    split at h
    · rename_i e
      cases h
      rw [hs, e]
    · cases h
  · cases h
theorem fx_nth_lt : ∀ (r : ax_A) (k : Nat) (a : ax_V), ax_nth r k = some a → k < ax_len r
  | [], k, a, h => by cases h
  | (n, b) :: r, k, a, h => by
    unfold ax_nth at h
    unfold ax_len
    split at h
    · omega
    · have := fx_nth_lt r (k - n) a h
      omega
theorem fx_cell {S : ax_W} {w : sx_W} {c t k : Nat} {r : ax_A} {a : ax_V} (hw : bx_in S w) (hS : S[c]? = some (t, r)) (hk : ax_nth r k = some a) : ∃ vs v, w[c]? = some (t, vs) ∧ vs.length = ax_len r ∧ vs[k]? = some v ∧ ax_g [] a v ∧ k < vs.length := by
  obtain ⟨vs, h1, h2, h3⟩ := hw.2 c t r hS
  have hl := fx_nth_lt r k a hk
  have hl' : k < vs.length := by omega
  exact ⟨vs, vs[k], h1, h2, List.getElem?_eq_getElem hl', h3 k a _ hk (List.getElem?_eq_getElem hl'), hl'⟩
theorem fx_int {S : ax_W} {w : sx_W} {c t k : Nat} {r : ax_A} {lo hi : Int} (hw : bx_in S w) (hS : S[c]? = some (t, r)) (hk : ax_nth r k = some (0, lo, hi)) : ∃ vs, w[c]? = some (t, vs) ∧ vs.length = ax_len r ∧ vs[k]? = some (.int (fx_i w c k)) ∧ k < vs.length ∧ lo ≤ (fx_i w c k).toInt ∧ (fx_i w c k).toInt ≤ hi := by
  obtain ⟨vs, v, h1, h2, h3, ⟨x, rfl, h4, h5⟩, h6⟩ := fx_cell hw hS hk
  have e : fx_i w c k = x := by
    unfold fx_i
    rw [h1]
    show (match vs[k]? with | some (.int x) => x | _ => 0) = x
    rw [h3]
  exact ⟨vs, h1, h2, by rw [e]; exact h3, h6, by rw [e]; exact h4, by rw [e]; exact h5⟩
theorem fx_p_in {S : ax_W} {w : sx_W} {c t k : Nat} {r : ax_A} {v : Int32} (hw : bx_in S w) (hS : S[c]? = some (t, r)) (hk : ax_nth r k = some ax_top) : bx_in S (fx_p w c k v) := by
  obtain ⟨vs, u, h1, h2, h3, -, h6⟩ := fx_cell hw hS hk
  unfold fx_p
  rw [h1]
  dsimp only
  have hcl : c < w.length := (List.getElem?_eq_some_iff.mp h1).1
  refine ⟨by rw [List.length_set]; exact hw.1, fun c' t' r' hS' => ?_⟩
  by_cases hcc : c' = c
  · subst hcc
    rw [hS] at hS'
    cases hS'
    obtain ⟨vs', g1, g2, g3⟩ := hw.2 _ _ _ hS
    rw [h1] at g1
    cases g1
    refine ⟨_, List.getElem?_set_self hcl, by rw [List.length_set]; exact h2, fun j a y ha hy => ?_⟩
    by_cases hjk : j = k
    · subst hjk
      rw [List.getElem?_set_self h6] at hy
      cases hy
      rw [hk] at ha
      cases ha
      exact ax_top_ok v
    · rw [List.getElem?_set_ne (fun h => hjk h.symm)] at hy
      exact g3 j a y ha hy
  · rw [List.getElem?_set_ne (fun h => hcc h.symm)]
    exact hw.2 c' t' r' hS'
/-- what is read behind a writing -/
theorem fx_i_p {S : ax_W} {w : sx_W} {c t k c' k' : Nat} {r : ax_A} {v : Int32} (hw : bx_in S w) (hS : S[c]? = some (t, r)) (hk : ax_nth r k = some ax_top) : fx_i (fx_p w c k v) c' k' = if c' = c ∧ k' = k then v else fx_i w c' k' := by
  obtain ⟨vs, u, h1, h2, h3, -, h6⟩ := fx_cell hw hS hk
  have hcl : c < w.length := (List.getElem?_eq_some_iff.mp h1).1
  unfold fx_p
  rw [h1]
  dsimp only
  by_cases hcc : c' = c
  · subst hcc
    unfold fx_i
    rw [List.getElem?_set_self hcl, h1]
    show (match (vs.set k (.int v))[k']? with | some (.int x) => x | _ => 0) = if c' = c' ∧ k' = k then v else (match vs[k']? with | some (.int x) => x | _ => 0)
    by_cases hkk : k' = k
    · subst hkk
      rw [List.getElem?_set_self h6, if_pos ⟨rfl, rfl⟩]
    · rw [List.getElem?_set_ne (fun h => hkk h.symm), if_neg (fun h => hkk h.2)]
  · rw [if_neg (fun h => hcc h.1)]
    unfold fx_i
    rw [List.getElem?_set_ne (fun h => hcc h.symm)]
