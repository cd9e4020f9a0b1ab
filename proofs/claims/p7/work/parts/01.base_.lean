section
/-! THE SIMPLE MACHINE: a world is a list of cells; cell k of a world lies at the address N0 + k; a reference is its place k. A cell: below 100 the number of its kind in the list of kinds and its fields; 100 an int array, 101 a byte array. -/
abbrev sx_W : Type := List (Nat × List Value)
abbrev sx_L : Type := List (Nat × Value)
/-- what a step comes to: pc, locals, operands, world, cells made, slots made -/
abbrev sx_R : Type := Nat × sx_L × List Value × sx_W × Nat × Nat
/-- a row of code: pc, instruction, length, three numbers that say what its pool entry means, a constant -/
abbrev sx_E : Type := Nat × Instr × Nat × Nat × Nat × Nat × Int
/-- a method: name, bytes, locals, what it returns, how many arguments (its own object too), static or not, places of its words, rows of code -/
abbrev sx_M : Type := MethodName × ByteArray × Nat × Option FieldType × Nat × Bool × (Nat × Nat × Nat × Nat) × List sx_E
/-- a program: words of the tables, kinds, types of fields, methods, words of nest mates -/
abbrev sx_P : Type := List (List Cond) × List vw_C × (Nat → Nat → FieldType) × List sx_M × List Cond

def sx_sh (N0 b : Nat) : Value → Value
  | .ref k => .ref (N0 + k)
  | .retAddr _ => .ref b
  | .int v => .int v
  | .long v => .long v
  | .float v => .float v
  | .double v => .double v
  | .null => .null
theorem sx_sh_cat (N0 b : Nat) (v : Value) : (sx_sh N0 b v).category = v.category := by cases v <;> rfl
def sx_lv (N0 b : Nat) (lv : sx_L) : sx_L := lv.map (fun q => (q.1, sx_sh N0 b q.2))
def sx_st (N0 b : Nat) (st : List Value) : List Value := st.map (sx_sh N0 b)
def sx_get (lv : sx_L) (i : Nat) : Option Value := (lv.find? (fun q => q.1 == i)).map (fun q => q.2)
def sx_set (lv : sx_L) (i : Nat) (v : Value) : sx_L := (i, v) :: lv.filter (fun q => !(q.1 == i) && !(q.1 + 1 == i && q.2.category == 2))
def sx_set2 (lv : sx_L) (i : Nat) (v : Value) : sx_L := (i, v) :: lv.filter (fun q => !(q.1 == i) && (!(q.1 == i + 1) && !(q.1 + 1 == i && q.2.category == 2)))
theorem sx_lv_mem {N0 b : Nat} {lv : sx_L} {i : Nat} {v : Value} (h : sx_get lv i = some v) : (i, v) ∈ lv := by
  unfold sx_get at h
  cases hf : lv.find? (fun q => q.1 == i) with
  | none => rw [hf] at h; cases h
  | some q =>
    rw [hf] at h
    have h1 := List.find?_some hf
    have h2 := List.mem_of_find?_eq_some hf
    obtain ⟨j, w⟩ := q
    have e1 : j = i := by simpa using h1
    have e2 : w = v := by simpa using h
    subst e1; subst e2
    exact h2
theorem sx_lv_at {N0 b nL : Nat} {lv : sx_L} {ls : Array Slot} {i : Nat} {v : Value} (hl : lv_has ls nL (sx_lv N0 b lv)) (h : sx_get lv i = some v) : ls[i]? = some (.val (sx_sh N0 b v)) :=
  hl.2.2 (i, sx_sh N0 b v) (List.mem_map.mpr ⟨(i, v), sx_lv_mem (N0 := N0) (b := b) h, rfl⟩)
theorem sx_set_sh (N0 b : Nat) (lv : sx_L) (i : Nat) (v : Value) : sx_set (sx_lv N0 b lv) i (sx_sh N0 b v) = sx_lv N0 b (sx_set lv i v) := by
  unfold sx_set sx_lv
  rw [List.map_cons, List.filter_map]
  congr 2
  apply List.filter_congr
  intro q _
  simp [Function.comp, sx_sh_cat]
theorem sx_set2_sh (N0 b : Nat) (lv : sx_L) (i : Nat) (v : Value) : sx_set2 (sx_lv N0 b lv) i (sx_sh N0 b v) = sx_lv N0 b (sx_set2 lv i v) := by
  unfold sx_set2 sx_lv
  rw [List.map_cons, List.filter_map]
  congr 2
  apply List.filter_congr
  intro q _
  simp [Function.comp, sx_sh_cat]

def sx_toI : Value → Int32
  | .int x => x
  | _ => 0
def sx_arr (vs : List Value) : vp_A := (vs.length, .inl (fun i => sx_toI (vs.getD i .null)))
def sx_e (N0 b : Nat) (cA : Nat → ClassId) (x : Nat × List Value) : va_E := if x.1 < 100 then .inr (x.1, x.2.map (sx_sh N0 b)) else .inl (cA (x.1 - 100), sx_arr x.2)
/-- the heap holds the world w from N0 on, and nothing lies behind it -/
def sx_H (P : sx_P) (D : va_G) (cA : Nat → ClassId) (N0 b : Nat) (w : sx_W) (H : Heap) : Prop :=
  H.size = N0 + w.length ∧ ∀ (k : Nat) (x : Nat × List Value), w[k]? = some x → va_at D P.2.1 (N0 + k, sx_e N0 b cA x) H
theorem sx_H.put {P : sx_P} {D : va_G} {cA : Nat → ClassId} {N0 b k : Nat} {w : sx_W} {H H1 : Heap} {x : Nat × List Value} (h : sx_H P D cA N0 b w H) (hk : k < w.length) (hz : H1.size = H.size) (he : va_at D P.2.1 (N0 + k, sx_e N0 b cA x) H1) (oq : ∀ q : Nat, q ≠ N0 + k → H1[q]? = H[q]?) : sx_H P D cA N0 b (w.set k x) H1 := by
  refine ⟨by rw [hz, h.1, List.length_set], fun j y hj => ?_⟩
  by_cases hjk : j = k
  · subst hjk
    rw [List.getElem?_set_self hk] at hj
    cases hj
    exact he
  · rw [List.getElem?_set_ne (Ne.symm hjk)] at hj
    exact (h.2 j y hj).kept (oq (N0 + j) (by omega))
theorem sx_H.push {P : sx_P} {D : va_G} {cA : Nat → ClassId} {N0 b : Nat} {w : sx_W} {H H1 : Heap} {x : Nat × List Value} (h : sx_H P D cA N0 b w H) (hz : H1.size = H.size + 1) (he : va_at D P.2.1 (N0 + w.length, sx_e N0 b cA x) H1) (oq : ∀ q : Nat, q < H.size → H1[q]? = H[q]?) : sx_H P D cA N0 b (w ++ [x]) H1 := by
  refine ⟨by rw [hz, h.1, List.length_append]; rfl, fun j y hj => ?_⟩
  by_cases hl : j < w.length
  · rw [List.getElem?_append_left hl] at hj
    exact (h.2 j y hj).kept (oq (N0 + j) (by rw [h.1]; omega))
  · rw [List.getElem?_append_right (by omega)] at hj
    have hz : j - w.length < 1 := (List.getElem?_eq_some_iff.mp hj).1
    have hj0 : j = w.length := by omega
    subst hj0
    rw [Nat.sub_self] at hj
    cases hj
    exact he

/-! one step -/
def sx_b2 (pc : Nat) (lv : sx_L) (st : List Value) (w : sx_W) (f : Int32 → Int32 → Option Int32) : Option sx_R := match st with
  | .int y :: .int x :: r => (f x y).map (fun z => (pc + 1, lv, .int z :: r, w, 0, 0))
  | _ => none
def sx_l2 (pc : Nat) (lv : sx_L) (st : List Value) (w : sx_W) (f : Int64 → Int64 → Int64) : Option sx_R := match st with
  | .long y :: .long x :: r => some (pc + 1, lv, .long (f x y) :: r, w, 0, 0)
  | _ => none
def sx_ls (pc : Nat) (lv : sx_L) (st : List Value) (w : sx_W) (f : Int64 → Int32 → Int64) : Option sx_R := match st with
  | .int y :: .long x :: r => some (pc + 1, lv, .long (f x y) :: r, w, 0, 0)
  | _ => none
def sx_ild (pc n : Nat) (lv : sx_L) (st : List Value) (w : sx_W) (i : Nat) : Option sx_R := match sx_get lv i with
  | some (.int x) => some (pc + n, lv, .int x :: st, w, 0, 0)
  | _ => none
def sx_lld (pc n : Nat) (lv : sx_L) (st : List Value) (w : sx_W) (i : Nat) : Option sx_R := match sx_get lv i with
  | some (.long x) => some (pc + n, lv, .long x :: st, w, 0, 0)
  | _ => none
def sx_ald (pc n : Nat) (lv : sx_L) (st : List Value) (w : sx_W) (i : Nat) : Option sx_R := match sx_get lv i with
  | some (.ref x) => some (pc + n, lv, .ref x :: st, w, 0, 0)
  | some (.retAddr x) => some (pc + n, lv, .retAddr x :: st, w, 0, 0)
  | _ => none
def sx_ist (pc n nL : Nat) (lv : sx_L) (st : List Value) (w : sx_W) (i : Nat) : Option sx_R := match st with
  | .int x :: r => if i < nL then some (pc + n, sx_set lv i (.int x), r, w, 0, 0) else none
  | _ => none
def sx_lst (pc n nL : Nat) (lv : sx_L) (st : List Value) (w : sx_W) (i : Nat) : Option sx_R := match st with
  | .long x :: r => if i + 1 < nL then some (pc + n, sx_set2 lv i (.long x), r, w, 0, 0) else none
  | _ => none
def sx_ast (pc n nL : Nat) (lv : sx_L) (st : List Value) (w : sx_W) (i : Nat) : Option sx_R := match st with
  | .ref x :: r => if i < nL then some (pc + n, sx_set lv i (.ref x), r, w, 0, 0) else none
  | _ => none
def sx_jmp (pc : Nat) (off : Int) (lv : sx_L) (st : List Value) (w : sx_W) (t : Bool) : Option sx_R :=
  if 0 ≤ (pc : Int) + off then some (if t then ((pc : Int) + off).toNat else pc + 3, lv, st, w, 0, 0) else none
def sx_cond (k : ClassFile.Cond) (x y : Int32) : Bool := match k with
  | .eq => decide (x = y)
  | .ne => !decide (x = y)
  | .lt => decide (x < y)
  | .ge => decide (y ≤ x)
  | .gt => decide (y < x)
  | .le => decide (x ≤ y)
def sx_getf (pc : Nat) (lv : sx_L) (st : List Value) (w : sx_W) (ci k : Nat) : Option sx_R := match st with
  | .ref a :: r => match w[a]? with
    | some (c, fs) => if c = ci ∧ ci < 100 then match fs[k]? with
      | some v => some (pc + 3, lv, v :: r, w, 0, 0)
      | none => none
      else none
    | none => none
  | _ => none
/-- a value is what a field of the type may hold as it is -/
def sx_fit (ty : FieldType) (v : Value) : Bool := decide (narrow ty v = v) && fits ty v
def sx_putf (pc : Nat) (lv : sx_L) (st : List Value) (w : sx_W) (ci k : Nat) (ty : FieldType) : Option sx_R := match st with
  | v :: .ref a :: r => match w[a]? with
    | some (c, fs) => if c = ci ∧ ci < 100 ∧ k < fs.length ∧ sx_fit ty v = true then some (pc + 3, lv, r, w.set a (c, fs.set k v), 0, 0) else none
    | none => none
  | _ => none
/-- the place of an index in an array -/
def sx_ix (i : Int32) (n : Nat) : Option Nat := if i < 0 ∨ n ≤ i.toNatClampNeg then none else some i.toNatClampNeg
def sx_aget (pc : Nat) (lv : sx_L) (st : List Value) (w : sx_W) (xs : List Int32) (t : Nat) : Option sx_R := match st with
  | .int i :: .ref a :: r => match w[a]? with
    | some (c, vs) => if c = t then match sx_ix i vs.length with
      | some j => match vs[j]? with
        | some (.int x) => some (pc + 1, lv, .int x :: r, w, 0, 0)
        | _ => none
      | none => none
      else none
    | none => none
  | .int i :: .retAddr _ :: r => if t = 100 then match sx_ix i xs.length with
    | some j => some (pc + 1, lv, .int (xs.getD j 0) :: r, w, 0, 0)
    | none => none
    else none
  | _ => none
def sx_aput (pc : Nat) (lv : sx_L) (st : List Value) (w : sx_W) (t : Nat) (f : Int32 → Int32) : Option sx_R := match st with
  | .int x :: .int i :: .ref a :: r => match w[a]? with
    | some (c, vs) => if c = t then match sx_ix i vs.length with
      | some j => some (pc + 1, lv, r, w.set a (c, vs.set j (.int (f x))), 0, 0)
      | none => none
      else none
    | none => none
  | _ => none
def sx_alen (pc : Nat) (lv : sx_L) (st : List Value) (w : sx_W) (xs : List Int32) : Option sx_R := match st with
  | .ref a :: r => match w[a]? with
    | some (c, vs) => if c = 100 ∨ c = 101 then some (pc + 1, lv, .int (Int32.ofNat vs.length) :: r, w, 0, 0) else none
    | none => none
  | .retAddr _ :: r => some (pc + 1, lv, .int (Int32.ofNat xs.length) :: r, w, 0, 0)
  | _ => none
def sx_dflt (P : sx_P) (ci N : Nat) : List Value := (List.range N).map (fun k => defaultValue (P.2.2.1 ci k))
def sx_newc (P : sx_P) (pc : Nat) (lv : sx_L) (st : List Value) (w : sx_W) (ci : Nat) : Option sx_R := match P.2.1[ci]? with
  | some q => if ci < 100 then some (pc + 3, lv, .ref w.length :: st, w ++ [(ci, sx_dflt P ci q.2.2)], 1, q.2.2) else none
  | none => none
def sx_newa (pc : Nat) (lv : sx_L) (st : List Value) (w : sx_W) (t : Nat) : Option sx_R := match st with
  | .int n :: r => if n < 0 ∨ 1000000 ≤ n.toNatClampNeg then none else some (pc + 2, lv, .ref w.length :: r, w ++ [(t, List.replicate n.toNatClampNeg (.int 0))], 1, n.toNatClampNeg)
  | _ => none
def sx_csum (st : List Value) : Nat := (st.map fun v => v.category).sum
def sx_copy (pc : Nat) (lv : sx_L) (st : List Value) (w : sx_W) : Option sx_R := match st with
  | .int n :: .int dp :: .ref a1 :: .int sp :: .ref a0 :: r => match w[a0]?, w[a1]? with
    | some (c0, f), some (c1, g) => if c0 = 100 ∧ c1 = 100 ∧ ¬ sp < 0 ∧ ¬ dp < 0 ∧ ¬ n < 0 ∧ sp.toNatClampNeg + n.toNatClampNeg ≤ f.length ∧ dp.toNatClampNeg + n.toNatClampNeg ≤ g.length ∧ sx_csum r ≤ 8 then
        some (pc + 3, lv, r, w.set a1 (c1, g.take dp.toNatClampNeg ++ ((f.drop sp.toNatClampNeg).take n.toNatClampNeg ++ g.drop (dp.toNatClampNeg + n.toNatClampNeg))), 0, 0) else none
    | _, _ => none
  | _ => none
def sx_oini (pc : Nat) (lv : sx_L) (st : List Value) (w : sx_W) : Option sx_R := match st with
  | .ref _ :: r => if sx_csum r ≤ 8 then some (pc + 3, lv, r, w, 0, 0) else none
  | _ => none
def sx_mm (pc : Nat) (lv : sx_L) (st : List Value) (w : sx_W) (f : Int32 → Int32 → Int32) : Option sx_R := match st with
  | .int y :: .int x :: r => if sx_csum r ≤ 8 then some (pc + 3, lv, .int (f x y) :: r, w, 0, 0) else none
  | _ => none
def sx_iinc (pc nL : Nat) (lv : sx_L) (st : List Value) (w : sx_W) (i : Nat) (n : Int) : Option sx_R := match sx_get lv i with
  | some (.int x) => if i < nL then some (pc + 3, sx_set lv i (.int (x + Int32.ofInt n)), st, w, 0, 0) else none
  | _ => none
def sx_tsw (pc : Nat) (lv : sx_L) (st : List Value) (w : sx_W) (d lo hi : Int) (offs : Array Int) : Option sx_R := match st with
  | .int x :: r => if x.toInt < lo ∨ hi < x.toInt then sx_jmp pc d lv r w true else match offs[(x.toInt - lo).toNat]? with
    | some off => sx_jmp pc off lv r w true
    | none => none
  | _ => none
def sx_lsw (pc : Nat) (lv : sx_L) (st : List Value) (w : sx_W) (d : Int) (ps : Array (Int × Int)) : Option sx_R := match st with
  | .int x :: r => if (ps.toList.zip (ps.toList.drop 1)).all (fun (a, next) => a.1 < next.1) = true then sx_jmp pc (Op.lookupswitch.offset ps.toList d x.toInt) lv r w true else none
  | _ => none
def sx_d1 (pc : Nat) (lv : sx_L) (st : List Value) (w : sx_W) : Option sx_R := match st with
  | v :: r => if v.category = 1 then some (pc + 1, lv, v :: v :: r, w, 0, 0) else none
  | _ => none
def sx_p1 (pc : Nat) (lv : sx_L) (st : List Value) (w : sx_W) : Option sx_R := match st with
  | v :: r => if v.category = 1 then some (pc + 1, lv, r, w, 0, 0) else none
  | _ => none
def sx_p2 (pc : Nat) (lv : sx_L) (st : List Value) (w : sx_W) : Option sx_R := match st with
  | v :: r => if v.category = 2 then some (pc + 1, lv, r, w, 0, 0) else none
  | _ => none
def sx_dx1 (pc : Nat) (lv : sx_L) (st : List Value) (w : sx_W) : Option sx_R := match st with
  | v :: u :: r => if v.category = 1 ∧ u.category = 1 then some (pc + 1, lv, v :: u :: v :: r, w, 0, 0) else none
  | _ => none
def sx_d2 (pc : Nat) (lv : sx_L) (st : List Value) (w : sx_W) : Option sx_R := match st with
  | v :: u :: r => if v.category = 1 ∧ u.category = 1 then some (pc + 1, lv, v :: u :: v :: u :: r, w, 0, 0) else none
  | _ => none
def sx_u1 (pc : Nat) (lv : sx_L) (st : List Value) (w : sx_W) (f : Int32 → Value) : Option sx_R := match st with
  | .int x :: r => some (pc + 1, lv, f x :: r, w, 0, 0)
  | _ => none
def sx_u2 (pc : Nat) (lv : sx_L) (st : List Value) (w : sx_W) (f : Int64 → Value) : Option sx_R := match st with
  | .long x :: r => some (pc + 1, lv, f x :: r, w, 0, 0)
  | _ => none
def sx_step (P : sx_P) (xs : List Int32) (nL : Nat) (E : sx_E) (lv : sx_L) (st : List Value) (w : sx_W) : Option sx_R := match E with
  | (pc, I, _, a, k, _, z) => match I with
    | .iconst n => some (pc + 1, lv, .int (Int32.ofInt n) :: st, w, 0, 0)
    | .bipush n => some (pc + 2, lv, .int (Int8.ofInt n).toInt32 :: st, w, 0, 0)
    | .sipush n => some (pc + 3, lv, .int (Int16.ofInt n).toInt32 :: st, w, 0, 0)
    | .lconst n => some (pc + 1, lv, .long (Int64.ofNat (n : Nat)) :: st, w, 0, 0)
    | .ldc _ => some (pc + 2, lv, .int (Int32.ofInt z) :: st, w, 0, 0)
    | .ldc_w _ => some (pc + 3, lv, .int (Int32.ofInt z) :: st, w, 0, 0)
    | .ldc2_w _ => some (pc + 3, lv, .long (Int64.ofInt z) :: st, w, 0, 0)
    | .iload_n i => sx_ild pc 1 lv st w (i : Nat)
    | .iload i => sx_ild pc 2 lv st w i
    | .lload_n i => sx_lld pc 1 lv st w (i : Nat)
    | .lload i => sx_lld pc 2 lv st w i
    | .aload_n i => sx_ald pc 1 lv st w (i : Nat)
    | .aload i => sx_ald pc 2 lv st w i
    | .istore_n i => sx_ist pc 1 nL lv st w (i : Nat)
    | .istore i => sx_ist pc 2 nL lv st w i
    | .lstore_n i => sx_lst pc 1 nL lv st w (i : Nat)
    | .lstore i => sx_lst pc 2 nL lv st w i
    | .astore_n i => sx_ast pc 1 nL lv st w (i : Nat)
    | .astore i => sx_ast pc 2 nL lv st w i
    | .iinc i n => sx_iinc pc nL lv st w i n
    | .iadd => sx_b2 pc lv st w (fun x y => some (x + y))
    | .isub => sx_b2 pc lv st w (fun x y => some (x - y))
    | .imul => sx_b2 pc lv st w (fun x y => some (x * y))
    | .iand => sx_b2 pc lv st w (fun x y => some (x &&& y))
    | .ior => sx_b2 pc lv st w (fun x y => some (x ||| y))
    | .ixor => sx_b2 pc lv st w (fun x y => some (x ^^^ y))
    | .idiv => sx_b2 pc lv st w (fun x y => if y = 0 then none else some (x / y))
    | .irem => sx_b2 pc lv st w (fun x y => if y = 0 then none else some (x - x / y * y))
    | .ishl => sx_b2 pc lv st w (fun x y => some (x <<< (y &&& 31)))
    | .ishr => sx_b2 pc lv st w (fun x y => some (x >>> (y &&& 31)))
    | .iushr => sx_b2 pc lv st w (fun x y => some ((x.toUInt32 >>> (y.toUInt32 &&& Int32.toUInt32 31)).toInt32))
    | .ineg => sx_u1 pc lv st w (fun x => .int (-x))
    | .i2l => sx_u1 pc lv st w (fun x => .long x.toInt64)
    | .i2b => sx_u1 pc lv st w (fun x => .int x.toInt8.toInt32)
    | .l2i => sx_u2 pc lv st w (fun x => .int x.toInt32)
    | .ladd => sx_l2 pc lv st w (fun x y => x + y)
    | .lsub => sx_l2 pc lv st w (fun x y => x - y)
    | .lmul => sx_l2 pc lv st w (fun x y => x * y)
    | .land => sx_l2 pc lv st w (fun x y => x &&& y)
    | .lor => sx_l2 pc lv st w (fun x y => x ||| y)
    | .lxor => sx_l2 pc lv st w (fun x y => x ^^^ y)
    | .lshl => sx_ls pc lv st w (fun x y => x <<< (y.toInt64 &&& 63))
    | .lushr => sx_ls pc lv st w (fun x y => (x.toUInt64 >>> (y.toInt64.toUInt64 &&& Int64.toUInt64 63)).toInt64)
    | .lcmp => match st with
      | .long y :: .long x :: r => some (pc + 1, lv, .int (lg_cmp x y) :: r, w, 0, 0)
      | _ => none
    | .dup => sx_d1 pc lv st w
    | .pop => sx_p1 pc lv st w
    | .pop2 => sx_p2 pc lv st w
    | .dup_x1 => sx_dx1 pc lv st w
    | .dup2 => sx_d2 pc lv st w
    | .ifCond c off => match st with
      | .int x :: r => sx_jmp pc off lv r w (sx_cond c x 0)
      | _ => none
    | .if_icmp c off => match st with
      | .int y :: .int x :: r => sx_jmp pc off lv r w (sx_cond c x y)
      | _ => none
    | .goto off => sx_jmp pc off lv st w true
    | .tableswitch d lo hi offs => sx_tsw pc lv st w d lo hi offs
    | .lookupswitch d ps => sx_lsw pc lv st w d ps
    | .getfield _ => sx_getf pc lv st w a k
    | .putfield _ => sx_putf pc lv st w a k (P.2.2.1 a k)
    | .iaload => sx_aget pc lv st w xs 100
    | .baload => sx_aget pc lv st w xs 101
    | .iastore => sx_aput pc lv st w 100 (fun x => x)
    | .bastore => sx_aput pc lv st w 101 (fun x => vp_nar .byte x)
    | .arraylength => sx_alen pc lv st w xs
    | .new _ => sx_newc P pc lv st w a
    | .newarray _ => sx_newa pc lv st w a
    | .invokespecial _ => if a = 1000 then sx_oini pc lv st w else none
    | .invokestatic _ => if a = 1001 then sx_copy pc lv st w else if a = 1002 then sx_mm pc lv st w (fun x y => if x < y then y else x) else if a = 1003 then sx_mm pc lv st w (fun x y => if y < x then y else x) else none
    | _ => none
end
section
/-! a row of code by its place, quickly found -/
noncomputable def sx_fnd (pc : Nat) (l : List sx_E) : Option sx_E := List.rec (motive := fun _ => Option sx_E) none (fun E _ r => Bool.rec (motive := fun _ => Option sx_E) r (some E) (Nat.beq E.1 pc)) l
theorem sx_fnd_eq {pc : Nat} : ∀ {l : List sx_E}, sx_fnd pc l = l.find? (fun E => E.1 == pc)
  | [] => rfl
  | E :: t => by
    have e : (E.1 == pc) = Nat.beq E.1 pc := by
      by_cases c : E.1 = pc
      · rw [c, beq_self_eq_true, Nat.beq_refl]
      · rw [beq_eq_false_iff_ne.mpr c]
        exact (Bool.eq_false_iff.mpr (fun h => c (Nat.eq_of_beq_eq_true h))).symm
    rw [List.find?_cons, e, ← sx_fnd_eq (l := t)]
    show Bool.rec (motive := fun _ => Option sx_E) (sx_fnd pc t) (some E) (Nat.beq E.1 pc) = _
    cases Nat.beq E.1 pc <;> rfl
/-! a place of a list, quickly found -/
noncomputable def sx_nth {α : Type} (l : List α) (k : Nat) : Option α := List.rec (motive := fun _ => Nat → Option α) (fun _ => none) (fun a _ r k => Nat.rec (motive := fun _ => Option α) (some a) (fun j _ => r j) k) l k
theorem sx_nth_eq {α : Type} : ∀ (l : List α) (k : Nat), sx_nth l k = l[k]?
  | [], _ => rfl
  | _ :: _, 0 => rfl
  | _ :: t, k + 1 => sx_nth_eq t k
/-! the first of a list that is so, quickly found -/
noncomputable def sx_ff {α : Type} (p : α → Bool) (l : List α) : Option α := List.rec (motive := fun _ => Option α) none (fun a _ r => Bool.rec (motive := fun _ => Option α) r (some a) (p a)) l
theorem sx_ff_eq {α : Type} {p : α → Bool} : ∀ {l : List α}, sx_ff p l = l.find? p
  | [] => rfl
  | a :: t => by
    rw [List.find?_cons, ← sx_ff_eq (l := t)]
    show Bool.rec (motive := fun _ => Option α) (sx_ff p t) (some a) (p a) = _
    cases p a <;> rfl
theorem sx_nbq {a b : Nat} : Nat.beq a b = decide (a = b) := by
  by_cases c : a = b
  · rw [c, Nat.beq_refl, decide_eq_true rfl]
  · rw [decide_eq_false c]
    exact Bool.eq_false_iff.mpr (fun h => c (Nat.eq_of_beq_eq_true h))
theorem sx_nbe {a b : Nat} : Nat.beq a b = (a == b) := by
  by_cases c : a = b
  · rw [c, Nat.beq_refl, beq_self_eq_true]
  · rw [beq_eq_false_iff_ne.mpr c]
    exact Bool.eq_false_iff.mpr (fun h => c (Nat.eq_of_beq_eq_true h))
end
section
/-! WHAT A ROW OF CODE MAY BE (checked by program), and that a step of the simple machine is a step of the machine -/
def sx_len (I : Instr) : Nat := match I with
  | .iconst _ | .lconst _ | .iload_n _ | .lload_n _ | .aload_n _ | .istore_n _ | .lstore_n _ | .astore_n _ | .iadd | .isub | .imul | .iand | .ior | .ixor | .idiv | .irem | .ishl | .ishr | .iushr | .ineg | .i2l | .i2b | .l2i | .ladd | .lsub | .lmul | .land | .lor | .lxor | .lshl | .lushr | .lcmp | .dup | .pop | .pop2 | .dup_x1 | .dup2 | .iaload | .baload | .iastore | .bastore | .arraylength | .ireturn | .lreturn | .areturn | .return_ => 1
  | .bipush _ | .ldc _ | .iload _ | .lload _ | .aload _ | .istore _ | .lstore _ | .astore _ | .newarray _ => 2
  | _ => 3
def sx_isSw (I : Instr) : Bool := match I with
  | .tableswitch .. | .lookupswitch .. => true
  | _ => false
def sx_acopy : MethodName := ⟨"java/lang/System", "arraycopy", "(Ljava/lang/Object;ILjava/lang/Object;II)V"⟩
/-- the word at a place of the tables, a good one -/
noncomputable def sx_wd (P : sx_P) (q : Nat) (w : Cond) : Bool := decide ((sx_nth P.1 (q / 1000)).bind (fun ch => sx_nth ch (q % 1000)) = some w) && goodWord w
noncomputable def sx_pool (P : sx_P) (own : String) (ini : Bool) (E : sx_E) : Bool := match E with
  | (_, I, _, a, k, q, z) => match I with
    | .ldc i => sx_wd P q (.constant own i (Int32.ofInt z))
    | .ldc_w i => sx_wd P q (.constant own i (Int32.ofInt z))
    | .ldc2_w i => sx_wd P q (.constantLong own i (Int64.ofInt z))
    | .getfield i => match P.2.1[a]? with
      | some (C, T, N) => decide (k < N) && sx_wd P q (.fieldLink own i C (T k).2.1 (T k).2.2.1) && decide ((T k).1 = C)
      | none => false
    | .putfield i => match P.2.1[a]? with
      | some (C, T, N) => decide (k < N) && sx_wd P q (.fieldLink own i C (T k).2.1 (T k).2.2.1) && decide ((T k).1 = C) && (decide ((T k).2.2.2 = false) || (ini && decide (C = own) && decide ((T k).2.2.2 = true)))
      | none => false
    | .new i => match P.2.1[a]? with
      | some (C, _, N) => sx_wd P q (.classLink own i C) && sx_wd P k (.instantiable C N) && sx_wd P z.toNat (.initialized C)
      | none => false
    | .newarray t => (decide (t = .int) && decide (a = 100) && sx_wd P q (.arrayClass .int)) || (decide (t = .byte) && decide (a = 101) && sx_wd P q (.arrayClass .byte))
    | .invokespecial i => decide (a = 1000) && sx_wd P q (.methodLink own i Lib.objectInit) && sx_wd P k (.instanceMethod Lib.objectInit) && sx_wd P z.toNat (.code Lib.objectInit ⟨#[0xb1]⟩ 1 none)
    | .invokestatic i => if a = 1001 then sx_wd P q (.methodLink own i sx_acopy) && sx_wd P k (.native sx_acopy) && sx_wd P (k - 1) (.static sx_acopy) && sx_wd P z.toNat (.initialized "java/lang/System")
      else if a = 1002 then sx_wd P q (.methodLink own i Lib.Math.max.name) && sx_wd P k (.static Lib.Math.max.name) && sx_wd P (z.toNat % 1000000) (.code Lib.Math.max.name Lib.Math.max.code 2 (some .int)) && sx_wd P (z.toNat / 1000000) (.initialized "java/lang/Math")
      else if a = 1003 then sx_wd P q (.methodLink own i Lib.Math.min.name) && sx_wd P k (.static Lib.Math.min.name) && sx_wd P (z.toNat % 1000000) (.code Lib.Math.min.name Lib.Math.min.code 2 (some .int)) && sx_wd P (z.toNat / 1000000) (.initialized "java/lang/Math")
      else false
    | _ => true
def sx_dec (cc : ByteArray) (E : sx_E) : Bool := decide (decode cc E.1 = .ok (E.2.1, E.2.2.1)) && (sx_isSw E.2.1 || decide (sx_len E.2.1 = E.2.2.1))
/-- the kinds of the program are as the tables lay them -/
def sx_kindOk (P : sx_P) : Prop := ∀ (ci : Nat) (q : vw_C), P.2.1[ci]? = some q → (∀ k, k < q.2.2 → u_lay q.1 q.2.1 k ∈ P.1.flatten ∧ goodWord (u_lay q.1 q.2.1 k) = true) ∧ (∀ k, k < q.2.2 → parseFieldDescriptor (q.2.1 k).2.2.1 = some (P.2.2.1 ci k)) ∧ ∀ a, a < q.2.2 → ∀ b, b < q.2.2 → a ≠ b → (q.2.1 a).2.1 ≠ (q.2.1 b).2.1
def sx_tys (cA : Nat → ClassId) : List (ClassId × FieldType) := [(cA 0, .int), (cA 1, .byte)]
def sx_K (P : sx_P) (D : va_G) (cA : Nat → ClassId) (U : State) : Prop := va_K D P.2.1 (sx_tys cA) U ∧ ∀ w ∈ P.2.2.2.2, va_Nw w U
def sx_Fx (P : sx_P) (D : va_G) (cA : Nat → ClassId) (N0 b nL : Nat) (xs : List Int32) (own : String) (cc : ByteArray) (p : Program) (R : Room) (s : State) (m : MethodId) (args : Array Value) (c : Code) : Prop :=
  p.tables.exec = Jvm.exec ∧ c.code = cc ∧ c.maxLocals = nL ∧ s.vm.findClass own = some m.cls ∧ (∀ w ∈ P.1.flatten, goodWord w = true → w.before args s = true) ∧ sx_K P D cA s ∧ N0 ≤ s.heap.size ∧ va_X b xs.length (fun j => xs.getD j 0) s s.heap ∧ b < N0 ∧ 1 ≤ R.frames ∧ 64 ≤ R.locals
section SXG
variable {p : Program} {l : Launch} {e : Env} {R : Room} {s : State} {m : MethodId} {args : Array Value} {below : List Frame} {meth : Method} {c : Code} {Q : State → Prop}
variable {P : sx_P} {D : va_G} {cA : Nat → ClassId} {N0 b nL : Nat} {xs : List Int32} {own : String} {cc : ByteArray}
def sx_G (p : Program) (l : Launch) (e : Env) (R : Room) (s : State) (m : MethodId) (args : Array Value) (below : List Frame) (meth : Method) (c : Code) (Q : State → Prop) (P : sx_P) (D : va_G) (cA : Nat → ClassId) (N0 b nL : Nat) (cells slots : Nat) (w : sx_W) (pc : Nat) (lv : sx_L) (st : List Value) : Prop :=
  ∀ (H : Heap) (locs : List Loc) (ls : Array Slot), sx_H P D cA N0 b w H → va_S (fun q => N0 ≤ q) s.heap H locs → lv_has ls nL (sx_lv N0 b lv) → W p l e R s m args below meth c H locs cells slots Q (F0 m pc ls (sx_st N0 b st))
theorem sx_look {P : sx_P} {q : Nat} : (sx_nth P.1 (q / 1000)).bind (fun ch => sx_nth ch (q % 1000)) = (P.1[q / 1000]?).bind (fun ch => ch[q % 1000]?) := by
  have hn : (fun ch : List Cond => sx_nth ch (q % 1000)) = (fun ch : List Cond => ch[q % 1000]?) := funext (fun ch => sx_nth_eq ch _)
  rw [sx_nth_eq, hn]
theorem sx_wd_mem {P : sx_P} {q : Nat} {w : Cond} (h : sx_wd P q w = true) : w ∈ P.1.flatten ∧ goodWord w = true := by
  unfold sx_wd at h
  rw [Bool.and_eq_true, decide_eq_true_eq, sx_look] at h
  refine ⟨?_, h.2⟩
  have h1 := h.1
  cases hc : P.1[q / 1000]? with
  | none => rw [hc] at h1; cases h1
  | some ch =>
    rw [hc] at h1
    exact List.mem_flatten.mpr ⟨ch, List.mem_of_getElem? hc, List.mem_of_getElem? h1⟩
theorem sx_wd_at (hF : sx_Fx P D cA N0 b nL xs own cc p R s m args c) {q : Nat} {w : Cond} (h : sx_wd P q w = true) : w.before args s = true :=
  hF.2.2.2.2.1 w (sx_wd_mem h).1 (sx_wd_mem h).2
/-- steps that leave world and locals as they are -/
theorem sx_pure {cells slots : Nat} {w : sx_W} {pc pc' : Nat} {lv : sx_L} {st st' : List Value} (kk : sx_G p l e R s m args below meth c Q P D cA N0 b nL cells slots w pc' lv st')
    (h : ∀ (H : Heap) (locs : List Loc) (ls : Array Slot), lv_has ls nL (sx_lv N0 b lv) → W p l e R s m args below meth c H locs cells slots Q (F0 m pc' ls (sx_st N0 b st')) → W p l e R s m args below meth c H locs cells slots Q (F0 m pc ls (sx_st N0 b st))) :
    sx_G p l e R s m args below meth c Q P D cA N0 b nL cells slots w pc lv st := fun H locs ls hH hS hl => h H locs ls hl (kk H locs ls hH hS hl)
theorem sx_jmp_inv {pc : Nat} {off : Int} {lv : sx_L} {st : List Value} {w : sx_W} {t : Bool} {r : sx_R} (h : sx_jmp pc off lv st w t = some r) : ∃ tgt : Nat, (pc : Int) + off = (tgt : Int) ∧ r = (if t then tgt else pc + 3, lv, st, w, 0, 0) := by
  unfold sx_jmp at h
  by_cases h0 : 0 ≤ (pc : Int) + off
  · rw [if_pos h0] at h
    cases h
    exact ⟨((pc : Int) + off).toNat, by omega, rfl⟩
  · rw [if_neg h0] at h
    cases h
theorem sx_b2_inv {pc : Nat} {lv : sx_L} {st : List Value} {w : sx_W} {f : Int32 → Int32 → Option Int32} {r : sx_R} (h : sx_b2 pc lv st w f = some r) : ∃ (x y z : Int32) (rest : List Value), st = .int y :: .int x :: rest ∧ f x y = some z ∧ r = (pc + 1, lv, .int z :: rest, w, 0, 0) := by
  unfold sx_b2 at h
  split at h
  · rename_i y x rest
    cases hz : f x y with
    | none => rw [hz] at h; cases h
    | some z => rw [hz] at h; cases h; exact ⟨x, y, z, rest, rfl, hz, rfl⟩
  · cases h
theorem sx_l2_inv {pc : Nat} {lv : sx_L} {st : List Value} {w : sx_W} {f : Int64 → Int64 → Int64} {r : sx_R} (h : sx_l2 pc lv st w f = some r) : ∃ (x y : Int64) (rest : List Value), st = .long y :: .long x :: rest ∧ r = (pc + 1, lv, .long (f x y) :: rest, w, 0, 0) := by
  unfold sx_l2 at h
  split at h
  · rename_i y x rest; cases h; exact ⟨x, y, rest, rfl, rfl⟩
  · cases h
theorem sx_ls_inv {pc : Nat} {lv : sx_L} {st : List Value} {w : sx_W} {f : Int64 → Int32 → Int64} {r : sx_R} (h : sx_ls pc lv st w f = some r) : ∃ (x : Int64) (y : Int32) (rest : List Value), st = .int y :: .long x :: rest ∧ r = (pc + 1, lv, .long (f x y) :: rest, w, 0, 0) := by
  unfold sx_ls at h
  split at h
  · rename_i y x rest; cases h; exact ⟨x, y, rest, rfl, rfl⟩
  · cases h
theorem sx_u1_inv {pc : Nat} {lv : sx_L} {st : List Value} {w : sx_W} {f : Int32 → Value} {r : sx_R} (h : sx_u1 pc lv st w f = some r) : ∃ (x : Int32) (rest : List Value), st = .int x :: rest ∧ r = (pc + 1, lv, f x :: rest, w, 0, 0) := by
  unfold sx_u1 at h
  split at h
  · rename_i x rest; cases h; exact ⟨x, rest, rfl, rfl⟩
  · cases h
theorem sx_u2_inv {pc : Nat} {lv : sx_L} {st : List Value} {w : sx_W} {f : Int64 → Value} {r : sx_R} (h : sx_u2 pc lv st w f = some r) : ∃ (x : Int64) (rest : List Value), st = .long x :: rest ∧ r = (pc + 1, lv, f x :: rest, w, 0, 0) := by
  unfold sx_u2 at h
  split at h
  · rename_i x rest; cases h; exact ⟨x, rest, rfl, rfl⟩
  · cases h
theorem sx_ild_inv {pc n : Nat} {lv : sx_L} {st : List Value} {w : sx_W} {i : Nat} {r : sx_R} (h : sx_ild pc n lv st w i = some r) : ∃ x : Int32, sx_get lv i = some (.int x) ∧ r = (pc + n, lv, .int x :: st, w, 0, 0) := by
  unfold sx_ild at h
  split at h
  · rename_i x hx; cases h; exact ⟨x, hx, rfl⟩
  · cases h
theorem sx_lld_inv {pc n : Nat} {lv : sx_L} {st : List Value} {w : sx_W} {i : Nat} {r : sx_R} (h : sx_lld pc n lv st w i = some r) : ∃ x : Int64, sx_get lv i = some (.long x) ∧ r = (pc + n, lv, .long x :: st, w, 0, 0) := by
  unfold sx_lld at h
  split at h
  · rename_i x hx; cases h; exact ⟨x, hx, rfl⟩
  · cases h
theorem sx_ald_inv {pc n : Nat} {lv : sx_L} {st : List Value} {w : sx_W} {i : Nat} {r : sx_R} (N0 b : Nat) (h : sx_ald pc n lv st w i = some r) : ∃ (v : Value) (a : Nat), sx_get lv i = some v ∧ sx_sh N0 b v = .ref a ∧ r = (pc + n, lv, v :: st, w, 0, 0) := by
  unfold sx_ald at h
  split at h
  · rename_i x hx; cases h; exact ⟨_, _, hx, rfl, rfl⟩
  · rename_i x hx; cases h; exact ⟨_, _, hx, rfl, rfl⟩
  · cases h
theorem sx_ist_inv {pc n nL : Nat} {lv : sx_L} {st : List Value} {w : sx_W} {i : Nat} {r : sx_R} (h : sx_ist pc n nL lv st w i = some r) : ∃ (x : Int32) (rest : List Value), st = .int x :: rest ∧ i < nL ∧ r = (pc + n, sx_set lv i (.int x), rest, w, 0, 0) := by
  unfold sx_ist at h
  split at h
  · rename_i x rest
    by_cases hi : i < nL
    · rw [if_pos hi] at h; cases h; exact ⟨x, rest, rfl, hi, rfl⟩
    · rw [if_neg hi] at h; cases h
  · cases h
theorem sx_lst_inv {pc n nL : Nat} {lv : sx_L} {st : List Value} {w : sx_W} {i : Nat} {r : sx_R} (h : sx_lst pc n nL lv st w i = some r) : ∃ (x : Int64) (rest : List Value), st = .long x :: rest ∧ i + 1 < nL ∧ r = (pc + n, sx_set2 lv i (.long x), rest, w, 0, 0) := by
  unfold sx_lst at h
  split at h
  · rename_i x rest
    by_cases hi : i + 1 < nL
    · rw [if_pos hi] at h; cases h; exact ⟨x, rest, rfl, hi, rfl⟩
    · rw [if_neg hi] at h; cases h
  · cases h
theorem sx_ast_inv {pc n nL : Nat} {lv : sx_L} {st : List Value} {w : sx_W} {i : Nat} {r : sx_R} (h : sx_ast pc n nL lv st w i = some r) : ∃ (x : Nat) (rest : List Value), st = .ref x :: rest ∧ i < nL ∧ r = (pc + n, sx_set lv i (.ref x), rest, w, 0, 0) := by
  unfold sx_ast at h
  split at h
  · rename_i x rest
    by_cases hi : i < nL
    · rw [if_pos hi] at h; cases h; exact ⟨x, rest, rfl, hi, rfl⟩
    · rw [if_neg hi] at h; cases h
  · cases h
theorem sx_iinc_inv {pc nL : Nat} {lv : sx_L} {st : List Value} {w : sx_W} {i : Nat} {n : Int} {r : sx_R} (h : sx_iinc pc nL lv st w i n = some r) : ∃ x : Int32, sx_get lv i = some (.int x) ∧ i < nL ∧ r = (pc + 3, sx_set lv i (.int (x + Int32.ofInt n)), st, w, 0, 0) := by
  unfold sx_iinc at h
  split at h
  · rename_i x hx
    by_cases hi : i < nL
    · rw [if_pos hi] at h; cases h; exact ⟨x, hx, hi, rfl⟩
    · rw [if_neg hi] at h; cases h
  · cases h
theorem sx_ix_inv {i : Int32} {n j : Nat} (h : sx_ix i n = some j) : vp_in i n ∧ i.toNatClampNeg = j ∧ j < n := by
  unfold sx_ix at h
  by_cases hi : i < 0 ∨ n ≤ i.toNatClampNeg
  · rw [if_pos hi] at h; cases h
  · rw [if_neg hi] at h; cases h
    exact ⟨hi, rfl, Nat.not_le.mp fun q => hi (Or.inr q)⟩
/-- an object of the world, as the kit's rows have it -/
theorem sx_obj {w : sx_W} {H : Heap} (hH : sx_H P D cA N0 b w H) {a ci : Nat} {fs : List Value} (ha : w[a]? = some (ci, fs)) (hci : ci < 100) : va_P D P.2.1 [(N0 + a, .inr (ci, fs.map (sx_sh N0 b)))] H := by
  intro k q hk
  have h1 := hH.2 a _ ha
  unfold sx_e at h1
  rw [if_pos hci] at h1
  match k, hk with
  | 0, hk => cases hk; exact h1
theorem sx_vec {w : sx_W} {H : Heap} (hH : sx_H P D cA N0 b w H) {a t : Nat} {vs : List Value} (ha : w[a]? = some (100 + t, vs)) : va_P D P.2.1 [(N0 + a, .inl (cA t, sx_arr vs))] H := by
  intro k q hk
  have h1 := hH.2 a _ ha
  unfold sx_e at h1
  rw [if_neg (by show ¬ 100 + t < 100; omega)] at h1
  match k, hk with
  | 0, hk =>
    cases hk
    have e : 100 + t - 100 = t := by omega
    have h2 : va_at D P.2.1 (N0 + a, .inl (cA (100 + t - 100), sx_arr vs)) H := h1
    rw [e] at h2
    exact h2
end SXG
end
section
/-! steps that touch the heap -/
theorem sx_fit_sh {ty : FieldType} {v : Value} (N0 b : Nat) (h : sx_fit ty v = true) : narrow ty (sx_sh N0 b v) = sx_sh N0 b v ∧ fits ty (sx_sh N0 b v) = true := by
  unfold sx_fit at h
  rw [Bool.and_eq_true, decide_eq_true_eq] at h
  obtain ⟨h1, h2⟩ := h
  cases v with
  | retAddr q => cases ty <;> simp [fits] at h2
  | ref q => cases ty <;> first | exact ⟨rfl, rfl⟩ | (simp [fits] at h2)
  | _ => exact ⟨h1, h2⟩
theorem sx_dflt_sh (N0 b : Nat) (t : FieldType) : sx_sh N0 b (defaultValue t) = defaultValue t := by cases t <;> rfl
theorem sx_arrV_ext {cI : ClassId} {n : Nat} {f g : Nat → Value} (h : ∀ j, j < n → f j = g j) : arrV cI n f = arrV cI n g := by
  unfold arrV
  congr 1
  apply congrArg
  funext j
  exact h j.val j.isLt
theorem sx_nar_b (x : Int32) : narrow .byte (.int x) = .int (vp_nar .byte x) := rfl
section SXH
variable {p : Program} {l : Launch} {e : Env} {R : Room} {s : State} {m : MethodId} {args : Array Value} {below : List Frame} {meth : Method} {c : Code} {Q : State → Prop}
variable {P : sx_P} {D : va_G} {cA : Nat → ClassId} {N0 b nL : Nat} {xs : List Int32} {own : String} {cc : ByteArray}
theorem sx_getf_G (hF : sx_Fx P D cA N0 b nL xs own cc p R s m args c) (hO : sx_kindOk P) {pc i ci k q : Nat} {z : Int} {lv : sx_L} {st : List Value} {w : sx_W} {r : sx_R} {cells slots : Nat} (hd : decode cc pc = .ok (.getfield i, 3)) (hp : sx_pool P own false (pc, .getfield i, 3, ci, k, q, z) = true)
    (hs : sx_getf pc lv st w ci k = some r) (kk : sx_G p l e R s m args below meth c Q P D cA N0 b nL (cells + r.2.2.2.2.1) (slots + r.2.2.2.2.2) r.2.2.2.1 r.1 r.2.1 r.2.2.1) : sx_G p l e R s m args below meth c Q P D cA N0 b nL cells slots w pc lv st := by
  unfold sx_getf at hs
  split at hs
  · rename_i a rest
    split at hs
    · rename_i c0 fs hw
      by_cases hc : c0 = ci ∧ ci < 100
      · rw [if_pos hc] at hs
        obtain ⟨rfl, hci⟩ := hc
        split at hs
        · rename_i v hv
          cases hs
          intro H locs ls hH hS hl
          simp only [sx_pool] at hp
          split at hp
          · rename_i C T N hcl
            simp only [Bool.and_eq_true, decide_eq_true_eq] at hp
            obtain ⟨⟨hk, hlink⟩, hT⟩ := hp
            obtain ⟨h1, h2, h3⟩ := hO c0 _ hcl
            refine va_get (v := sx_sh N0 b v) (ref := C) (index := i) hF.1 hF.2.1 (Ts := u_ws C T N) (fun w hw => ?_) (fun _ h => h) hF.2.2.2.1 hF.2.2.2.2.2.1.1 (sx_obj hH hw hci) 0 rfl hcl k hk (sx_wd_at hF hlink) (fun x hx => by rw [hT] at hx; exact hx) (by rw [List.getElem?_map, hv]; rfl) hd (kk H locs ls hH hS hl)
            obtain ⟨j, hj, rfl⟩ := List.mem_map.mp hw
            exact hF.2.2.2.2.1 _ (h1 j (List.mem_range.mp hj)).1 (h1 j (List.mem_range.mp hj)).2
          · cases hp
        · cases hs
      · rw [if_neg hc] at hs; cases hs
    · cases hs
  · cases hs
theorem sx_putf_G (hF : sx_Fx P D cA N0 b nL xs own cc p R s m args c) (hO : sx_kindOk P) {ini : Bool} (hini : ini = true → meth.name = "<init>") {pc i ci k q : Nat} {z : Int} {lv : sx_L} {st : List Value} {w : sx_W} {r : sx_R} {cells slots : Nat} (hd : decode cc pc = .ok (.putfield i, 3)) (hp : sx_pool P own ini (pc, .putfield i, 3, ci, k, q, z) = true)
    (hs : sx_putf pc lv st w ci k (P.2.2.1 ci k) = some r) (kk : sx_G p l e R s m args below meth c Q P D cA N0 b nL (cells + r.2.2.2.2.1) (slots + r.2.2.2.2.2) r.2.2.2.1 r.1 r.2.1 r.2.2.1) : sx_G p l e R s m args below meth c Q P D cA N0 b nL cells slots w pc lv st := by
  unfold sx_putf at hs
  split at hs
  · rename_i v a rest
    split at hs
    · rename_i c0 fs hw
      by_cases hc : c0 = ci ∧ ci < 100 ∧ k < fs.length ∧ sx_fit (P.2.2.1 ci k) v = true
      · rw [if_pos hc] at hs
        obtain ⟨rfl, hci, hkl, hfit⟩ := hc
        cases hs
        intro H locs ls hH hS hl
        simp only [sx_pool] at hp
        split at hp
        · rename_i C T N hcl
          simp only [Bool.and_eq_true, Bool.or_eq_true, decide_eq_true_eq] at hp
          obtain ⟨⟨⟨hk, hlink⟩, hT⟩, hfin⟩ := hp
          obtain ⟨h1, h2, h3⟩ := hO c0 _ hcl
          obtain ⟨hn, hfi⟩ := sx_fit_sh N0 b hfit
          have hts : ∀ w ∈ u_ws C T N, w.before args s = true := fun w hw => by
            obtain ⟨j, hj, rfl⟩ := List.mem_map.mp hw
            exact hF.2.2.2.2.1 _ (h1 j (List.mem_range.mp hj)).1 (h1 j (List.mem_range.mp hj)).2
          have hK := hF.2.2.2.2.2.1.1
          have hap := va_apart (own := own) hts (fun _ h => h) (P.2.2.1 c0) h2 h3 hK hcl
          have hob := sx_obj hH hw hci
          obtain ⟨r0, g1, cell, q1, q2, q3, q4⟩ := hob 0 _ rfl
          have hr : r0 = (C, T, N) := Option.some.inj (g1.symm.trans hcl)
          subst hr
          obtain ⟨hSl, hfc, kC, hkC, hkind⟩ := hK.1 c0 _ hcl
          obtain ⟨cf, kf, fi, f, hi, hsl⟩ := hSl k hk
          have hlay := hts _ (u_in_lay hk)
          unfold u_lay at hlay
          have hst := (u_facts hfc hkC (u_lays hts (fun _ h => h) hk) hi).1
          have hi' : s.fieldFound? C (T k).2.1 (T k).2.2.1 = some (cf, kf, fi, f) := by have := hi; rw [hT] at this; exact this
          have hlt : f.slot < cell.slots.size := by rw [hsl]; exact k2_hasslot (q4 k hk)
          have fin : ∀ H' : Heap, H'[N0 + a]? = some (cell.setSlot f.slot (sx_sh N0 b v)) → H'.size = H.size → (∀ q, q ≠ N0 + a → H'[q]? = H[q]?) → W p l e R s m args below meth c H' (locs ++ [⟨N0 + a, f.slot⟩]) cells slots Q (F0 m (pc + 3) ls (sx_st N0 b rest)) := by
            intro H' e1 e2 e3
            rw [hsl] at e1
            refine kk H' _ (ls) (hH.put (List.getElem?_eq_some_iff.mp hw).1 e2 ?_ e3) (hS.put e2 e3 (Nat.le_add_right _ _)) hl
            unfold sx_e
            rw [if_pos hci]
            refine ⟨_, hcl, ?_⟩
            rw [List.map_set]
            exact t_OB.to (V := updV (vp_V (fs.map (sx_sh N0 b))) k (sx_sh N0 b v)) ⟨_, e1, q2, q3, t_set q4 hap hk _⟩ (fun j _ => vp_updV_set (by rw [List.length_map]; exact hkl) _ j)
          rcases hfin with hfin | ⟨⟨hin, hCo⟩, hfin⟩
          · rw [if_neg (by rw [hfin]; decide)] at hlay
            have h6 := u_store hfc hkC hkind hlay hi (h2 k hk) hn hfi
            exact W.putK hF.1 hF.2.1 (f := f) ⟨hF.2.2.2.1, sx_wd_at hF hlink, ⟨_, _, _, hi'⟩, hst⟩ (by rw [q2]; exact h6) q1 q3 hlt rfl rfl hd fin
          · rw [if_pos hfin] at hlay
            have hcf : m.cls = cf := by
              obtain ⟨_, _, c', _, _, _, -, -, hf', -, -, -, hown2, -⟩ := Cond.laysFinal_spec hlay
              have e1 : c' = cf := by have := hi.symm.trans hf'; simp at this; exact this.1.symm
              rw [hT, hCo] at hown2
              rw [← e1]; exact Option.some.inj (hF.2.2.2.1.symm.trans hown2)
            have h6 := u_fits hfc hkC hkind (Or.inr hlay) hi (h2 k hk) hn hfi
            exact W.putFinK hF.1 hF.2.1 hF.2.2.2.1 (sx_wd_at hF hlink) hi' hst hcf (hini hin) (by rw [q2]; exact h6) q1 q3 hlt rfl rfl hd fin
        · cases hp
      · rw [if_neg hc] at hs; cases hs
    · cases hs
  · cases hs
theorem sx_vecAt {w : sx_W} {H : Heap} (hH : sx_H P D cA N0 b w H) {a t : Nat} {vs : List Value} (ha : w[a]? = some (100 + t, vs)) : H[N0 + a]? = some (arrV (cA t) vs.length (fun j => .int (sx_toI (vs.getD j .null)))) := sx_vec hH ha 0 _ rfl
theorem sx_aget_G (hF : sx_Fx P D cA N0 b nL xs own cc p R s m args c) {pc t : Nat} {I : Instr} (hI : (I = .iaload ∧ t = 0) ∨ (I = .baload ∧ t = 1)) {lv : sx_L} {st : List Value} {w : sx_W} {r : sx_R} {cells slots : Nat} (hd : decode cc pc = .ok (I, 1))
    (hs : sx_aget pc lv st w xs (100 + t) = some r) (kk : sx_G p l e R s m args below meth c Q P D cA N0 b nL (cells + r.2.2.2.2.1) (slots + r.2.2.2.2.2) r.2.2.2.1 r.1 r.2.1 r.2.2.1) : sx_G p l e R s m args below meth c Q P D cA N0 b nL cells slots w pc lv st := by
  unfold sx_aget at hs
  split at hs
  · rename_i i a rest
    split at hs
    · rename_i c0 vs hw
      by_cases hc : c0 = 100 + t
      · rw [if_pos hc] at hs
        subst hc
        split at hs
        · rename_i j hj
          obtain ⟨hin, hcl, hlt⟩ := sx_ix_inv hj
          split at hs
          · rename_i x hx
            cases hs
            intro H locs ls hH hS hl
            have hP := sx_vec hH hw
            have e : sx_toI (vs.getD i.toNatClampNeg .null) = x := by rw [hcl, List.getD_eq_getElem?_getD, hx]; rfl
            have k1 := kk H locs ls hH hS hl
            rcases hI with ⟨rfl, rfl⟩ | ⟨rfl, rfl⟩
            · exact va_iald hF.1 hF.2.1 hF.2.2.2.2.2.1.1 hP 0 0 rfl rfl hin hd (by rw [← e] at k1; exact k1)
            · exact va_bald hF.1 hF.2.1 hF.2.2.2.2.2.1.1 hP 0 1 rfl rfl hin hd (by rw [← e] at k1; exact k1)
          · cases hs
        · cases hs
      · rw [if_neg hc] at hs; cases hs
    · cases hs
  · rename_i i a rest
    by_cases h0 : 100 + t = 100
    · rw [if_pos h0] at hs
      have ht : t = 0 := by omega
      subst ht
      split at hs
      · rename_i j hj
        obtain ⟨hin, hcl, hlt⟩ := sx_ix_inv hj
        cases hs
        intro H locs ls hH hS hl
        rcases hI with ⟨rfl, -⟩ | ⟨rfl, h⟩
        · have k1 := kk H locs ls hH hS hl
          rw [← hcl] at k1
          exact va_sld hF.1 hF.2.1 hF.2.2.2.2.2.2.2.1 (Nat.lt_of_lt_of_le hF.2.2.2.2.2.2.2.2.1 hF.2.2.2.2.2.2.1) (Nat.not_le.mpr hF.2.2.2.2.2.2.2.2.1) hS hin hd k1
        · cases h
      · cases hs
    · rw [if_neg h0] at hs; cases hs
  · cases hs
theorem sx_aput_G (hF : sx_Fx P D cA N0 b nL xs own cc p R s m args c) {pc t : Nat} {I : Instr} {f : Int32 → Int32} (hI : (I = .iastore ∧ t = 0 ∧ f = fun x => x) ∨ (I = .bastore ∧ t = 1 ∧ f = fun x => vp_nar .byte x)) {lv : sx_L} {st : List Value} {w : sx_W} {r : sx_R} {cells slots : Nat} (hd : decode cc pc = .ok (I, 1))
    (hs : sx_aput pc lv st w (100 + t) f = some r) (kk : sx_G p l e R s m args below meth c Q P D cA N0 b nL (cells + r.2.2.2.2.1) (slots + r.2.2.2.2.2) r.2.2.2.1 r.1 r.2.1 r.2.2.1) : sx_G p l e R s m args below meth c Q P D cA N0 b nL cells slots w pc lv st := by
  unfold sx_aput at hs
  split at hs
  · rename_i x i a rest
    split at hs
    · rename_i c0 vs hw
      by_cases hc : c0 = 100 + t
      · rw [if_pos hc] at hs
        subst hc
        split at hs
        · rename_i j hj
          obtain ⟨hin, hcl, hlt⟩ := sx_ix_inv hj
          cases hs
          intro H locs ls hH hS hl
          have hat := sx_vecAt hH hw
          have hK := hF.2.2.2.2.2.1.1
          have fin : ∀ H' : Heap, H'[N0 + a]? = some ((arrV (cA t) vs.length (fun j => .int (sx_toI (vs.getD j .null)))).setSlot i.toNatClampNeg (.int (f x))) → H'.size = H.size → (∀ q, q ≠ N0 + a → H'[q]? = H[q]?) → W p l e R s m args below meth c H' (locs ++ [⟨N0 + a, i.toNatClampNeg⟩]) cells slots Q (F0 m (pc + 1) ls (sx_st N0 b rest)) := by
            intro H' e1 e2 e3
            refine kk H' _ ls (hH.put (List.getElem?_eq_some_iff.mp hw).1 e2 ?_ e3) (hS.put e2 e3 (Nat.le_add_right _ _)) hl
            unfold sx_e
            rw [if_neg (by show ¬ 100 + t < 100; omega)]
            show H'[N0 + a]? = some (vp_cell (cA (100 + t - 100)) (sx_arr (vs.set j (.int (f x)))))
            rw [e1, arrV_store, show 100 + t - 100 = t by omega]
            show some (arrV _ _ _) = some (arrV (cA t) (vs.set j (.int (f x))).length (fun q => .int (sx_toI ((vs.set j (.int (f x))).getD q .null))))
            rw [List.length_set, hcl]
            congr 1
            apply sx_arrV_ext
            intro q hq
            unfold updV
            by_cases hqj : q = j
            · subst hqj
              rw [if_pos rfl, List.getD_eq_getElem?_getD, List.getElem?_set_self hq]
              rfl
            · rw [if_neg hqj]
              show Value.int (sx_toI (vs.getD q .null)) = _
              rw [List.getD_eq_getElem?_getD, List.getD_eq_getElem?_getD, List.getElem?_set_ne (Ne.symm hqj)]
          have hsz : ¬ (i < 0 ∨ (arrV (cA t) vs.length (fun j => .int (sx_toI (vs.getD j .null)))).slots.size ≤ i.toNatClampNeg) := by rw [arrV_size]; exact hin
          rcases hI with ⟨rfl, rfl, rfl⟩ | ⟨rfl, rfl, rfl⟩
          · exact W.iast hF.1 hF.2.1 hat ((hK.2 0 _ rfl).1 _ _) (fun q => by cases q) hsz rfl rfl hd fin
          · exact W.bast hF.1 hF.2.1 hat ((hK.2 1 _ rfl).1 _ _) (fun q => by cases q) hsz rfl rfl hd fin
        · cases hs
      · rw [if_neg hc] at hs; cases hs
    · cases hs
  · cases hs
theorem sx_alen_G (hF : sx_Fx P D cA N0 b nL xs own cc p R s m args c) {pc : Nat} {lv : sx_L} {st : List Value} {w : sx_W} {r : sx_R} {cells slots : Nat} (hd : decode cc pc = .ok (.arraylength, 1))
    (hs : sx_alen pc lv st w xs = some r) (kk : sx_G p l e R s m args below meth c Q P D cA N0 b nL (cells + r.2.2.2.2.1) (slots + r.2.2.2.2.2) r.2.2.2.1 r.1 r.2.1 r.2.2.1) : sx_G p l e R s m args below meth c Q P D cA N0 b nL cells slots w pc lv st := by
  unfold sx_alen at hs
  split at hs
  · rename_i a rest
    split at hs
    · rename_i c0 vs hw
      by_cases hc : c0 = 100 ∨ c0 = 101
      · rw [if_pos hc] at hs
        cases hs
        intro H locs ls hH hS hl
        rcases hc with rfl | rfl
        · exact va_alen (x := sx_arr vs) hF.1 hF.2.1 hF.2.2.2.2.2.1.1 (sx_vec (t := 0) hH hw) 0 0 rfl rfl rfl hd (kk H locs ls hH hS hl)
        · exact va_alen (x := sx_arr vs) hF.1 hF.2.1 hF.2.2.2.2.2.1.1 (sx_vec (t := 1) hH hw) 0 1 rfl rfl rfl hd (kk H locs ls hH hS hl)
      · rw [if_neg hc] at hs; cases hs
    · cases hs
  · rename_i a rest
    cases hs
    intro H locs ls hH hS hl
    exact va_slen hF.1 hF.2.1 hF.2.2.2.2.2.2.2.1 (Nat.lt_of_lt_of_le hF.2.2.2.2.2.2.2.2.1 hF.2.2.2.2.2.2.1) (Nat.not_le.mpr hF.2.2.2.2.2.2.2.2.1) hS hd (kk H locs ls hH hS hl)
  · cases hs
end SXH
end
section
/-! steps that make cells, copy rows, and what stands behind them: one theorem of a step -/
theorem sx_vpV_dflt {P : sx_P} {ci N : Nat} (N0 b : Nat) {j : Nat} (hj : j < N) : defaultValue (P.2.2.1 ci j) = vp_V ((sx_dflt P ci N).map (sx_sh N0 b)) j := by
  unfold vp_V sx_dflt
  rw [List.map_map, List.getD_eq_getElem?_getD, List.getElem?_map, List.getElem?_range hj]
  show _ = sx_sh N0 b (defaultValue (P.2.2.1 ci j))
  rw [sx_dflt_sh]
theorem sx_nn (z : Int32) (hz : ¬ z < 0) : z.toInt = (z.toNatClampNeg : Int) := by
  have hz0 : (0 : Int) ≤ z.toInt := by
    have := Int32.not_lt.mp hz
    simpa using Int32.le_iff_toInt_le.mp this
  show z.toInt = ((z.toInt.toNat : Nat) : Int)
  omega
/-- a row with a part of another one laid over it -/
theorem sx_cpy {f g : List Value} {sp dp n j : Nat} (h4 : sp + n ≤ f.length) (h5 : dp + n ≤ g.length) : (g.take dp ++ ((f.drop sp).take n ++ g.drop (dp + n)))[j]? = if dp ≤ j ∧ j < dp + n then f[sp + (j - dp)]? else g[j]? := by
  have l1 : (g.take dp).length = dp := by rw [List.length_take]; omega
  have l2 : ((f.drop sp).take n).length = n := by rw [List.length_take, List.length_drop]; omega
  by_cases h1 : j < dp
  · rw [List.getElem?_append_left (by omega), if_neg (by omega), List.getElem?_take_of_lt h1]
  · rw [List.getElem?_append_right (by omega), l1]
    by_cases h2 : j < dp + n
    · rw [if_pos ⟨by omega, h2⟩, List.getElem?_append_left (by omega), List.getElem?_take_of_lt (by omega), List.getElem?_drop]
    · rw [if_neg (by omega), List.getElem?_append_right (by omega), l2, List.getElem?_drop]
      congr 1
      omega
section SXM
variable {p : Program} {l : Launch} {e : Env} {R : Room} {s : State} {m : MethodId} {args : Array Value} {below : List Frame} {meth : Method} {c : Code} {Q : State → Prop}
variable {P : sx_P} {D : va_G} {cA : Nat → ClassId} {N0 b nL : Nat} {xs : List Int32} {own : String} {cc : ByteArray}
theorem sx_newc_G (hF : sx_Fx P D cA N0 b nL xs own cc p R s m args c) (hO : sx_kindOk P) {pc i ci k q : Nat} {z : Int} {lv : sx_L} {st : List Value} {w : sx_W} {r : sx_R} {cells slots : Nat} (hd : decode cc pc = .ok (.new i, 3)) (hp : sx_pool P own false (pc, .new i, 3, ci, k, q, z) = true)
    (hs : sx_newc P pc lv st w ci = some r) (hc : cells + r.2.2.2.2.1 ≤ R.cells) (hsl : slots + r.2.2.2.2.2 ≤ R.slots) (kk : sx_G p l e R s m args below meth c Q P D cA N0 b nL (cells + r.2.2.2.2.1) (slots + r.2.2.2.2.2) r.2.2.2.1 r.1 r.2.1 r.2.2.1) : sx_G p l e R s m args below meth c Q P D cA N0 b nL cells slots w pc lv st := by
  unfold sx_newc at hs
  simp only [sx_pool] at hp
  split at hs
  · rename_i q0 hcl
    obtain ⟨C, T, N⟩ := q0
    by_cases hci : ci < 100
    · rw [if_pos hci] at hs
      cases hs
      rw [hcl] at hp
      simp only [Bool.and_eq_true] at hp
      obtain ⟨⟨hlink, hins⟩, hini⟩ := hp
      obtain ⟨h1, h2, h3⟩ := hO ci _ hcl
      have hKn := hF.2.2.2.2.2.1.1.1 ci _ hcl
      have hts : ∀ w ∈ u_ws C T N, w.before args s = true := fun w hw => by
        obtain ⟨j, hj, rfl⟩ := List.mem_map.mp hw
        exact hF.2.2.2.2.1 _ (h1 j (List.mem_range.mp hj)).1 (h1 j (List.mem_range.mp hj)).2
      intro H locs ls hH hS hl
      refine W.newcK hF.1 hF.2.1 hF.2.2.2.1 (sx_wd_at hF hlink) (sx_wd_at hF hins) (sx_wd_at hF hini) rfl hd hc hsl hKn.2.1 hH.1 fun H1 kC hkC e1 z1 o1 => ?_
      refine kk H1 locs ls (hH.push (by rw [z1, hH.1]) ?_ (fun q hq => o1 q (by rw [← hH.1]; exact hq))) ⟨Nat.le_trans hS.1 (by rw [z1, hH.1]; omega), fun x g1 g2 => (o1 x (by rw [← hH.1]; exact Nat.lt_of_lt_of_le g1 hS.1)).trans (hS.2.1 x g1 g2), hS.2.2⟩ hl
      unfold sx_e
      rw [if_pos hci]
      exact ⟨_, hcl, (u_born (P.2.2.1 ci) hts (fun _ h => h) hKn hkC e1 h2).to (fun j hj => sx_vpV_dflt N0 b hj)⟩
    · rw [if_neg hci] at hs; cases hs
  · cases hs
theorem sx_newa_at (hF : sx_Fx P D cA N0 b nL xs own cc p R s m args c) {pc t : Nat} {at0 : ArrayType} {ty : FieldType} (hty : newarray.typeOf at0 = ty) (hpr : defaultValue ty = .int 0) (hcb : componentBytes ty ≤ 4) (hRA : ∀ cX, s.vm.findClass ("[" ++ ty.toString) = some cX → cX = cA t) {n : Int32} {rest : List Value} {lv : sx_L} {w : sx_W} {cells slots : Nat} (hd : decode cc pc = .ok (.newarray at0, 2)) (hwd : (Cond.arrayClass ty).before args s = true) (h0 : ¬ (n < 0 ∨ 1000000 ≤ n.toNatClampNeg))
    (hc : cells + 1 ≤ R.cells) (hsl : slots + n.toNatClampNeg ≤ R.slots) (kk : sx_G p l e R s m args below meth c Q P D cA N0 b nL (cells + 1) (slots + n.toNatClampNeg) (w ++ [(100 + t, List.replicate n.toNatClampNeg (.int 0))]) (pc + 2) lv (.ref w.length :: rest)) : sx_G p l e R s m args below meth c Q P D cA N0 b nL cells slots w pc lv (.int n :: rest) := by
  subst hty
  intro H locs ls hH hS hl
  have hbytes : n.toNatClampNeg * componentBytes (newarray.typeOf at0) ≤ 536870912 := by
    have h1 : n.toNatClampNeg < 1000000 := Nat.not_le.mp fun q => h0 (Or.inr q)
    exact Nat.le_trans (Nat.mul_le_mul (Nat.le_of_lt h1) hcb) (by decide)
  refine va_newaK hF.1 hF.2.1 hwd rfl hd rfl (fun q => h0 (Or.inl q)) rfl hbytes hc hsl hH.1 fun H1 cX e1 z1 o1 hAr hNm => ?_
  refine kk H1 locs ls (hH.push (by rw [z1, hH.1]) ?_ (fun q hq => o1 q (by rw [← hH.1]; exact hq))) ⟨Nat.le_trans hS.1 (by rw [z1, hH.1]; omega), fun x g1 g2 => (o1 x (by rw [← hH.1]; exact Nat.lt_of_lt_of_le g1 hS.1)).trans (hS.2.1 x g1 g2), hS.2.2⟩ hl
  unfold sx_e
  rw [if_neg (by show ¬ 100 + t < 100; omega)]
  show H1[N0 + w.length]? = some (vp_cell (cA (100 + t - 100)) (sx_arr (List.replicate n.toNatClampNeg (.int 0))))
  rw [e1, show 100 + t - 100 = t by omega, hRA cX hNm, hpr]
  show some (arrV _ _ _) = some (arrV (cA t) (List.replicate n.toNatClampNeg (Value.int 0)).length (fun q => .int (sx_toI ((List.replicate n.toNatClampNeg (Value.int 0)).getD q .null))))
  rw [List.length_replicate]
  congr 1
  apply sx_arrV_ext
  intro q hq
  rw [List.getD_eq_getElem?_getD, List.getElem?_replicate, if_pos hq]
  rfl
theorem sx_newa_G (hF : sx_Fx P D cA N0 b nL xs own cc p R s m args c) {pc a k q : Nat} {z : Int} {at0 : ArrayType} {lv : sx_L} {st : List Value} {w : sx_W} {r : sx_R} {cells slots : Nat} (hd : decode cc pc = .ok (.newarray at0, 2)) (hp : sx_pool P own false (pc, .newarray at0, 2, a, k, q, z) = true)
    (hs : sx_newa pc lv st w a = some r) (hc : cells + r.2.2.2.2.1 ≤ R.cells) (hsl : slots + r.2.2.2.2.2 ≤ R.slots) (kk : sx_G p l e R s m args below meth c Q P D cA N0 b nL (cells + r.2.2.2.2.1) (slots + r.2.2.2.2.2) r.2.2.2.1 r.1 r.2.1 r.2.2.1) : sx_G p l e R s m args below meth c Q P D cA N0 b nL cells slots w pc lv st := by
  unfold sx_newa at hs
  split at hs
  · rename_i n rest
    by_cases h0 : n < 0 ∨ 1000000 ≤ n.toNatClampNeg
    · rw [if_pos h0] at hs; cases hs
    · rw [if_neg h0] at hs
      cases hs
      have hK := hF.2.2.2.2.2.1.1
      simp only [sx_pool, Bool.or_eq_true, Bool.and_eq_true, decide_eq_true_eq] at hp
      rcases hp with ⟨⟨rfl, rfl⟩, hw⟩ | ⟨⟨rfl, rfl⟩, hw⟩
      · exact sx_newa_at (t := 0) (ty := .int) hF rfl rfl (by decide) (fun cX h => Option.some.inj (h.symm.trans (hK.2 0 _ rfl).2)) hd (sx_wd_at hF hw) h0 hc hsl kk
      · exact sx_newa_at (t := 1) (ty := .byte) hF rfl rfl (by decide) (fun cX h => Option.some.inj (h.symm.trans (hK.2 1 _ rfl).2)) hd (sx_wd_at hF hw) h0 hc hsl kk
  · cases hs
theorem sx_csum_sh (st : List Value) : ((sx_st N0 b st).map fun v => v.category).sum = sx_csum st := by
  unfold sx_csum sx_st
  rw [List.map_map]
  congr 1
  apply List.map_congr_left
  intro v _
  exact sx_sh_cat N0 b v
theorem sx_oini_G (hF : sx_Fx P D cA N0 b nL xs own cc p R s m args c) {pc i a k q : Nat} {z : Int} {lv : sx_L} {st : List Value} {w : sx_W} {r : sx_R} {cells slots : Nat} (hd : decode cc pc = .ok (.invokespecial i, 3)) (hp : sx_pool P own false (pc, .invokespecial i, 3, a, k, q, z) = true)
    (hs : sx_oini pc lv st w = some r) (kk : sx_G p l e R s m args below meth c Q P D cA N0 b nL (cells + r.2.2.2.2.1) (slots + r.2.2.2.2.2) r.2.2.2.1 r.1 r.2.1 r.2.2.1) : sx_G p l e R s m args below meth c Q P D cA N0 b nL cells slots w pc lv st := by
  unfold sx_oini at hs
  split at hs
  · rename_i a0 rest
    by_cases h0 : sx_csum rest ≤ 8
    · rw [if_pos h0] at hs
      cases hs
      simp only [sx_pool, Bool.and_eq_true, decide_eq_true_eq] at hp
      obtain ⟨⟨⟨-, h1⟩, h2⟩, h3⟩ := hp
      intro H locs ls hH hS hl
      refine W.objInit (a := N0 + a0) (rest := sx_st N0 b rest) hF.1 hF.2.1 hF.2.2.2.1 (sx_wd_at hF h1) (sx_wd_at hF h2) (sx_wd_at hF h3) rfl (by rw [hF.2.2.1]; exact hl.1) rfl hd hF.2.2.2.2.2.2.2.2.2.1 ?_ (kk H locs ls hH hS hl)
      rw [sx_csum_sh]
      have := hF.2.2.2.2.2.2.2.2.2.2
      show 2 * 0 + _ + 12 ≤ _
      omega
    · rw [if_neg h0] at hs; cases hs
  · cases hs
theorem sx_copy_G (hF : sx_Fx P D cA N0 b nL xs own cc p R s m args c) {pc i k q : Nat} {z : Int} {lv : sx_L} {st : List Value} {w : sx_W} {r : sx_R} {cells slots : Nat} (hd : decode cc pc = .ok (.invokestatic i, 3)) (hp : sx_pool P own false (pc, .invokestatic i, 3, 1001, k, q, z) = true)
    (hs : sx_copy pc lv st w = some r) (kk : sx_G p l e R s m args below meth c Q P D cA N0 b nL (cells + r.2.2.2.2.1) (slots + r.2.2.2.2.2) r.2.2.2.1 r.1 r.2.1 r.2.2.1) : sx_G p l e R s m args below meth c Q P D cA N0 b nL cells slots w pc lv st := by
  unfold sx_copy at hs
  split at hs
  · rename_i n dp a1 sp a0 rest
    split at hs
    · rename_i c0 f c1 g hw0 hw1
      by_cases h0 : c0 = 100 ∧ c1 = 100 ∧ ¬ sp < 0 ∧ ¬ dp < 0 ∧ ¬ n < 0 ∧ sp.toNatClampNeg + n.toNatClampNeg ≤ f.length ∧ dp.toNatClampNeg + n.toNatClampNeg ≤ g.length ∧ sx_csum rest ≤ 8
      · rw [if_pos h0] at hs
        cases hs
        obtain ⟨rfl, rfl, h1, h2, h3, h4, h5, h6⟩ := h0
        simp only [sx_pool, if_true, Bool.and_eq_true] at hp
        obtain ⟨⟨⟨p1, p2⟩, p3⟩, p4⟩ := hp
        intro H locs ls hH hS hl
        have hK := hF.2.2.2.2.2.1.1
        have hc0 := sx_vecAt (t := 0) hH hw0
        have hc1 := sx_vecAt (t := 0) hH hw1
        intro T hT X
        obtain ⟨-, k0, hk0, cm0, hkk0⟩ := (hK.2 0 _ rfl).1 f.length (fun j => .int (sx_toI (f.getD j .null)))
        obtain ⟨-, k1, hk1, cm1, hkk1⟩ := (hK.2 0 _ rfl).1 g.length (fun j => .int (sx_toI (g.getD j .null)))
        have hsz : sx_csum rest = ((sx_st N0 b rest).map fun v => v.category).sum := (sx_csum_sh rest).symm
        obtain ⟨vm', X', step⟩ := X.arraycopy hF.1 hF.2.2.2.1 (sx_wd_at hF p1) (sx_wd_at hF p2) (sx_wd_at hF p3) (sx_wd_at hF p4) (src := N0 + a0) (dst := N0 + a1) (srcPos := sp) (destPos := dp) (n := n) (by rw [hT]; exact hc0) (by rw [hT]; exact hc1)
          (fun _ h => by cases h) (fun _ h => by cases h) (fun h => by cases h) (fun h => by cases h) hk0 hk1 hkk0 hkk1 (by simp [sx_tys, refKind]) h1 h2 h3
          (by rw [sx_nn sp h1, sx_nn n h3]; show ¬ _ > ((arrV _ _ _).slots.size : Int); rw [arrV_size]; omega)
          (by rw [sx_nn dp h2, sx_nn n h3]; show ¬ _ > ((arrV _ _ _).slots.size : Int); rw [arrV_size]; omega)
          (fun vm₁ _ i hi => by
            have e : (arrV (cA 0) f.length (fun j => .int (sx_toI (f.getD j .null)))).slots.getD (sp.toNatClampNeg + i) .null = .int (sx_toI (f.getD (sp.toNatClampNeg + i) .null)) := by
              rw [Array.getD_eq_getD_getElem?, arrV_read _ _ (by omega)]
              rfl
            refine ⟨?_, ?_⟩
            · rw [e]
              rfl
            · rw [e]
              exact trivial)
          (g := F0 m pc ls (.int n :: .int dp :: .ref (N0 + a1) :: .int sp :: .ref (N0 + a0) :: sx_st N0 b rest)) rfl (by rw [hF.2.2.1]; exact hl.1) (rest := sx_st N0 b rest) rfl (by rw [hF.2.1]; exact hd) hF.2.2.2.2.2.2.2.2.2.1 (by
            show 2 * 0 + _ + _ ≤ _
            have h64 := hF.2.2.2.2.2.2.2.2.2.2
            have hnf : nativeFrameWords "java/lang/System" "arraycopy" 5 = 7 := by decide +kernel
            rw [hnf, ← hsz]
            omega)
        have e1 : copied (arrV (cA 0) f.length (fun j => .int (sx_toI (f.getD j .null)))) (arrV (cA 0) g.length (fun j => .int (sx_toI (g.getD j .null)))) sp dp n = arrV (cA 0) (g.take dp.toNatClampNeg ++ ((f.drop sp.toNatClampNeg).take n.toNatClampNeg ++ g.drop (dp.toNatClampNeg + n.toNatClampNeg))).length (fun j => .int (sx_toI ((g.take dp.toNatClampNeg ++ ((f.drop sp.toNatClampNeg).take n.toNatClampNeg ++ g.drop (dp.toNatClampNeg + n.toNatClampNeg))).getD j .null))) := by
          have e2 : copied (arrV (cA 0) f.length (fun j => .int (sx_toI (f.getD j .null)))) (arrV (cA 0) g.length (fun j => .int (sx_toI (g.getD j .null)))) sp dp n = arrV (cA 0) g.length (fun j => .int (va_cpy (fun j => sx_toI (f.getD j .null)) (fun j => sx_toI (g.getD j .null)) sp.toNatClampNeg dp.toNatClampNeg n.toNatClampNeg j)) := va_copied (fun z => .int z) (cA 0) (cA 0) (fun j => sx_toI (f.getD j .null)) (fun j => sx_toI (g.getD j .null)) h4
          have hlen : (g.take dp.toNatClampNeg ++ ((f.drop sp.toNatClampNeg).take n.toNatClampNeg ++ g.drop (dp.toNatClampNeg + n.toNatClampNeg))).length = g.length := by
            rw [List.length_append, List.length_append, List.length_take, List.length_take, List.length_drop, List.length_drop]
            omega
          rw [e2, hlen]
          apply sx_arrV_ext
          intro j hj
          rw [List.getD_eq_getElem?_getD, sx_cpy h4 h5]
          unfold va_cpy
          by_cases hb : dp.toNatClampNeg ≤ j ∧ j < dp.toNatClampNeg + n.toNatClampNeg
          · rw [if_pos hb, if_pos hb]
            show Value.int (sx_toI (f.getD _ .null)) = _
            rw [List.getD_eq_getElem?_getD]
          · rw [if_neg hb, if_neg hb]
            show Value.int (sx_toI (g.getD _ .null)) = _
            rw [List.getD_eq_getElem?_getD]
        rw [e1] at X' step
        generalize hv : (g.take dp.toNatClampNeg ++ ((f.drop sp.toNatClampNeg).take n.toNatClampNeg ++ g.drop (dp.toNatClampNeg + n.toNatClampNeg))) = vs at X' step kk
        have hlt : N0 + a1 < H.size := (Array.getElem?_eq_some_iff.mp hc1).1
        have hheap : ((T.setVm vm').setCell (N0 + a1) (arrV (cA 0) vs.length (fun j => .int (sx_toI (vs.getD j .null))))).heap = H.setIfInBounds (N0 + a1) (arrV (cA 0) vs.length (fun j => .int (sx_toI (vs.getD j .null)))) := by rw [← hT]; rfl
        have oq : ∀ q : Nat, q ≠ N0 + a1 → (H.setIfInBounds (N0 + a1) (arrV (cA 0) vs.length (fun j => .int (sx_toI (vs.getD j .null)))))[q]? = H[q]? := fun q hq => by simp [Array.getElem?_setIfInBounds, Ne.symm hq]
        obtain ⟨t, a1', b1⟩ := kk (H.setIfInBounds (N0 + a1) (arrV (cA 0) vs.length (fun j => .int (sx_toI (vs.getD j .null))))) _ ls (hH.put (List.getElem?_eq_some_iff.mp hw1).1 (Array.size_setIfInBounds ..) (by
          unfold sx_e
          rw [if_neg (show ¬ 100 < 100 by decide)]
          show (H.setIfInBounds (N0 + a1) _)[N0 + a1]? = some _
          rw [Array.getElem?_setIfInBounds_self_of_lt hlt]
          rfl) oq) ⟨by rw [Array.size_setIfInBounds]; exact hS.1, fun q g1 g2 => by
            rw [oq q (fun e => g2 (by rw [e]; exact Nat.le_add_right _ _))]
            exact hS.2.1 q g1 g2, fun q hq => by
            rcases List.mem_append.mp hq with h | h
            · exact hS.2.2 q h
            · obtain ⟨z, -, hz⟩ := List.mem_map.mp h
              rw [← hz]
              exact Nat.le_add_right N0 a1⟩ hl _ hheap X'
        exact ⟨t, step t a1', b1⟩
      · rw [if_neg h0] at hs; cases hs
    · cases hs
  · cases hs
theorem sx_mm_G (hF : sx_Fx P D cA N0 b nL xs own cc p R s m args c) {pc i a k q : Nat} {z : Int} {f : Int32 → Int32 → Int32} (ha : (a = 1002 ∧ f = fun x y => if x < y then y else x) ∨ (a = 1003 ∧ f = fun x y => if y < x then y else x)) {lv : sx_L} {st : List Value} {w : sx_W} {r : sx_R} {cells slots : Nat} (hd : decode cc pc = .ok (.invokestatic i, 3)) (hp : sx_pool P own false (pc, .invokestatic i, 3, a, k, q, z) = true)
    (hs : sx_mm pc lv st w f = some r) (hc : cells + r.2.2.2.2.1 ≤ R.cells) (hsl : slots + r.2.2.2.2.2 ≤ R.slots) (kk : sx_G p l e R s m args below meth c Q P D cA N0 b nL (cells + r.2.2.2.2.1) (slots + r.2.2.2.2.2) r.2.2.2.1 r.1 r.2.1 r.2.2.1) : sx_G p l e R s m args below meth c Q P D cA N0 b nL cells slots w pc lv st := by
  unfold sx_mm at hs
  split at hs
  · rename_i y x rest
    by_cases h0 : sx_csum rest ≤ 8
    · rw [if_pos h0] at hs
      cases hs
      intro H locs ls hH hS hl
      have h64 := hF.2.2.2.2.2.2.2.2.2.2
      have hlo : ((sx_st N0 b rest).map fun v => v.category).sum + 13 ≤ R.locals := by rw [sx_csum_sh]; omega
      rcases ha with ⟨rfl, rfl⟩ | ⟨rfl, rfl⟩
      · simp only [sx_pool, if_true, Bool.and_eq_true, show ¬ (1002 = 1001) by decide, if_false] at hp
        obtain ⟨⟨⟨p1, p2⟩, p3⟩, p4⟩ := hp
        exact va_mmax hF.1 hF.2.1 (by rw [hF.2.2.1]; exact hl.1.symm) hF.2.2.2.1 (sx_wd_at hF p1) (sx_wd_at hF p2) (sx_wd_at hF p4) (sx_wd_at hF p3) hF.2.2.2.2.2.2.2.2.2.1 hlo hc hsl hd (kk H locs ls hH hS hl)
      · simp only [sx_pool, if_true, Bool.and_eq_true, show ¬ (1003 = 1001) by decide, show ¬ (1003 = 1002) by decide, if_false] at hp
        obtain ⟨⟨⟨p1, p2⟩, p3⟩, p4⟩ := hp
        exact va_mmin hF.1 hF.2.1 (by rw [hF.2.2.1]; exact hl.1.symm) hF.2.2.2.1 (sx_wd_at hF p1) (sx_wd_at hF p2) (sx_wd_at hF p4) (sx_wd_at hF p3) hF.2.2.2.2.2.2.2.2.2.1 hlo hc hsl hd (kk H locs ls hH hS hl)
    · rw [if_neg h0] at hs; cases hs
  · cases hs
end SXM
end
section
/-! one theorem for a step -/
section SXS
variable {p : Program} {l : Launch} {e : Env} {R : Room} {s : State} {m : MethodId} {args : Array Value} {below : List Frame} {meth : Method} {c : Code} {Q : State → Prop}
variable {P : sx_P} {D : va_G} {cA : Nat → ClassId} {N0 b nL : Nat} {xs : List Int32} {own : String} {cc : ByteArray}
theorem sx_ifc_G (hF : sx_Fx P D cA N0 b nL xs own cc p R s m args c) {pc tgt : Nat} {off : Int} {k : ClassFile.Cond} {x : Int32} {lv : sx_L} {rest : List Value} {w : sx_W} {cells slots : Nat} (hd : decode cc pc = .ok (.ifCond k off, 3)) (ht : (pc : Int) + off = (tgt : Int))
    (kk : sx_G p l e R s m args below meth c Q P D cA N0 b nL cells slots w (if sx_cond k x 0 then tgt else pc + 3) lv rest) : sx_G p l e R s m args below meth c Q P D cA N0 b nL cells slots w pc lv (.int x :: rest) := by
  intro H locs ls hH hS hl
  have k1 := kk H locs ls hH hS hl
  have kt : sx_cond k x 0 = true → W p l e R s m args below meth c H locs cells slots Q (F0 m tgt ls (sx_st N0 b rest)) := fun h => by have k2 := k1; rw [h] at k2; exact k2
  have kf : sx_cond k x 0 = false → W p l e R s m args below meth c H locs cells slots Q (F0 m (pc + 3) ls (sx_st N0 b rest)) := fun h => by have k2 := k1; rw [h] at k2; exact k2
  cases k
  · exact lv_if_eq hF.1 hF.2.1 hd ht (fun h => kt (by simp [sx_cond, h])) (fun h => kf (by simp [sx_cond, h]))
  · exact lv_if_ne hF.1 hF.2.1 hd ht (fun h => kt (by simp [sx_cond, h])) (fun h => kf (by simp [sx_cond, h]))
  · exact lv_if_lt hF.1 hF.2.1 hd ht (fun h => kt (by simp [sx_cond, h])) (fun h => kf (by simp [sx_cond, h]))
  · exact lv_if_ge hF.1 hF.2.1 hd ht (fun h => kt (by simp [sx_cond, h])) (fun h => kf (by simp [sx_cond, h]))
  · exact lv_if_gt hF.1 hF.2.1 hd ht (fun h => kt (by simp [sx_cond, h])) (fun h => kf (by simp [sx_cond, h]))
  · exact lv_if_le hF.1 hF.2.1 hd ht (fun h => kt (by simp [sx_cond, h])) (fun h => kf (by simp [sx_cond, h]))
theorem sx_icm_G (hF : sx_Fx P D cA N0 b nL xs own cc p R s m args c) {pc tgt : Nat} {off : Int} {k : ClassFile.Cond} {x y : Int32} {lv : sx_L} {rest : List Value} {w : sx_W} {cells slots : Nat} (hd : decode cc pc = .ok (.if_icmp k off, 3)) (ht : (pc : Int) + off = (tgt : Int))
    (kk : sx_G p l e R s m args below meth c Q P D cA N0 b nL cells slots w (if sx_cond k x y then tgt else pc + 3) lv rest) : sx_G p l e R s m args below meth c Q P D cA N0 b nL cells slots w pc lv (.int y :: .int x :: rest) := by
  intro H locs ls hH hS hl
  have k1 := kk H locs ls hH hS hl
  have kt : sx_cond k x y = true → W p l e R s m args below meth c H locs cells slots Q (F0 m tgt ls (sx_st N0 b rest)) := fun h => by have k2 := k1; rw [h] at k2; exact k2
  have kf : sx_cond k x y = false → W p l e R s m args below meth c H locs cells slots Q (F0 m (pc + 3) ls (sx_st N0 b rest)) := fun h => by have k2 := k1; rw [h] at k2; exact k2
  cases k
  · exact lv_icmp_eq hF.1 hF.2.1 hd ht (fun h => kt (by simp [sx_cond, h])) (fun h => kf (by simp [sx_cond, h]))
  · exact lv_icmp_ne hF.1 hF.2.1 hd ht (fun h => kt (by simp [sx_cond, h])) (fun h => kf (by simp [sx_cond, h]))
  · exact lv_icmp_lt hF.1 hF.2.1 hd ht (fun h => kt (by simp [sx_cond, h])) (fun h => kf (by simp [sx_cond, h]))
  · exact lv_icmp_ge hF.1 hF.2.1 hd ht (fun h => kt (by simp [sx_cond, h])) (fun h => kf (by simp [sx_cond, h]))
  · exact lv_icmp_gt hF.1 hF.2.1 hd ht (fun h => kt (by simp [sx_cond, h])) (fun h => kf (by simp [sx_cond, h]))
  · exact lv_icmp_le hF.1 hF.2.1 hd ht (fun h => kt (by simp [sx_cond, h])) (fun h => kf (by simp [sx_cond, h]))
theorem sx_cat_sh {v : Value} (h : v.category = 1) : (sx_sh N0 b v).category = 1 := by rw [sx_sh_cat]; exact h
theorem sx_lvk {lv : sx_L} {i : Nat} {v : Value} (h : sx_get lv i = some v) : ∃ k : Nat, (sx_lv N0 b lv)[k]? = some (i, sx_sh N0 b v) :=
  List.getElem?_of_mem (List.mem_map.mpr ⟨(i, v), sx_lv_mem (N0 := N0) (b := b) h, rfl⟩)
theorem sx_step_G (hF : sx_Fx P D cA N0 b nL xs own cc p R s m args c) (hO : sx_kindOk P) {ini : Bool} (hini : ini = true → meth.name = "<init>") {E : sx_E} (hdec : sx_dec cc E = true) (hp : sx_pool P own ini E = true) {lv : sx_L} {st : List Value} {w : sx_W} {r : sx_R} {cells slots : Nat}
    (hs : sx_step P xs nL E lv st w = some r) (hc : cells + r.2.2.2.2.1 ≤ R.cells) (hsl : slots + r.2.2.2.2.2 ≤ R.slots) (kk : sx_G p l e R s m args below meth c Q P D cA N0 b nL (cells + r.2.2.2.2.1) (slots + r.2.2.2.2.2) r.2.2.2.1 r.1 r.2.1 r.2.2.1) : sx_G p l e R s m args below meth c Q P D cA N0 b nL cells slots w E.1 lv st := by
  obtain ⟨pc, I, len, a, k, q, z⟩ := E
  unfold sx_dec at hdec
  rw [Bool.and_eq_true, decide_eq_true_eq, Bool.or_eq_true, decide_eq_true_eq] at hdec
  obtain ⟨hd, hlen⟩ := hdec
  have hx := hF.1
  have hb := hF.2.1
  dsimp only at hd hlen
  show sx_G p l e R s m args below meth c Q P D cA N0 b nL cells slots w pc lv st
  have hL : sx_isSw I = false → decode cc pc = .ok (I, sx_len I) := fun h => by
    rcases hlen with h1 | h1
    · rw [h] at h1; cases h1
    · rw [h1]; exact hd
  cases I
  case iconst n => cases hs; exact sx_pure kk (fun H locs ls hl k1 => lv_iconst hx hb (hL rfl) rfl k1)
  case bipush n => cases hs; exact sx_pure kk (fun H locs ls hl k1 => lv_bipush hx hb (hL rfl) rfl k1)
  case sipush n => cases hs; exact sx_pure kk (fun H locs ls hl k1 => lv_sipush hx hb (hL rfl) rfl k1)
  case lconst n => cases hs; exact sx_pure kk (fun H locs ls hl k1 => lv_lconst hx hb (hL rfl) rfl k1)
  case ldc i => cases hs; exact sx_pure kk (fun H locs ls hl k1 => lv_ldc hx hb hF.2.2.2.1 (sx_wd_at hF hp) (hL rfl) k1)
  case ldc_w i => cases hs; exact sx_pure kk (fun H locs ls hl k1 => lv_ldcw hx hb hF.2.2.2.1 (sx_wd_at hF hp) (hL rfl) k1)
  case ldc2_w i => cases hs; exact sx_pure kk (fun H locs ls hl k1 => lv_ldc2 hx hb hF.2.2.2.1 (sx_wd_at hF hp) (hL rfl) k1)
  case iload_n i =>
    obtain ⟨x, h1, rfl⟩ := sx_ild_inv hs
    exact sx_pure kk (fun H locs ls hl k1 => lv_iload_n hx hb (hL rfl) rfl (sx_lv_at hl h1) k1)
  case iload i =>
    obtain ⟨x, h1, rfl⟩ := sx_ild_inv hs
    exact sx_pure kk (fun H locs ls hl k1 => lv_iload hx hb (hL rfl) (sx_lv_at hl h1) k1)
  case lload_n i =>
    obtain ⟨x, h1, rfl⟩ := sx_lld_inv hs
    exact sx_pure kk (fun H locs ls hl k1 => lv_lload_n hx hb (hL rfl) rfl (sx_lv_at hl h1) k1)
  case lload i =>
    obtain ⟨x, h1, rfl⟩ := sx_lld_inv hs
    exact sx_pure kk (fun H locs ls hl k1 => lv_lload hx hb (hL rfl) (sx_lv_at hl h1) k1)
  case aload_n i =>
    obtain ⟨v, a0, h1, h2, rfl⟩ := sx_ald_inv N0 b hs
    exact sx_pure kk (fun H locs ls hl k1 => lv_aload_n (x := a0) hx hb (hL rfl) rfl (by rw [← h2]; exact sx_lv_at hl h1) (by rw [← h2]; exact k1))
  case aload i =>
    obtain ⟨v, a0, h1, h2, rfl⟩ := sx_ald_inv N0 b hs
    exact sx_pure kk (fun H locs ls hl k1 => lv_aload (x := a0) hx hb (hL rfl) (by rw [← h2]; exact sx_lv_at hl h1) (by rw [← h2]; exact k1))
  case istore_n i =>
    obtain ⟨x, rest, rfl, hi, rfl⟩ := sx_ist_inv hs
    exact fun H locs ls hH hS hl => lv_istore_n hx hb (hL rfl) rfl hl hi (sx_set_sh N0 b lv (i : Nat) (.int x)) (fun ls' hl' => kk H locs ls' hH hS hl')
  case istore i =>
    obtain ⟨x, rest, rfl, hi, rfl⟩ := sx_ist_inv hs
    exact fun H locs ls hH hS hl => lv_istore hx hb (hL rfl) hl hi (sx_set_sh N0 b lv i (.int x)) (fun ls' hl' => kk H locs ls' hH hS hl')
  case lstore_n i =>
    obtain ⟨x, rest, rfl, hi, rfl⟩ := sx_lst_inv hs
    exact fun H locs ls hH hS hl => lv_lstore_n hx hb (hL rfl) rfl hl hi (sx_set2_sh N0 b lv (i : Nat) (.long x)) (fun ls' hl' => kk H locs ls' hH hS hl')
  case lstore i =>
    obtain ⟨x, rest, rfl, hi, rfl⟩ := sx_lst_inv hs
    exact fun H locs ls hH hS hl => lv_lstore hx hb (hL rfl) hl hi (sx_set2_sh N0 b lv i (.long x)) (fun ls' hl' => kk H locs ls' hH hS hl')
  case astore_n i =>
    obtain ⟨x, rest, rfl, hi, rfl⟩ := sx_ast_inv hs
    exact fun H locs ls hH hS hl => lv_astore_n hx hb (hL rfl) rfl hl hi (sx_set_sh N0 b lv (i : Nat) (.ref x)) (fun ls' hl' => kk H locs ls' hH hS hl')
  case astore i =>
    obtain ⟨x, rest, rfl, hi, rfl⟩ := sx_ast_inv hs
    exact fun H locs ls hH hS hl => lv_astore hx hb (hL rfl) hl hi (sx_set_sh N0 b lv i (.ref x)) (fun ls' hl' => kk H locs ls' hH hS hl')
  case iinc i n =>
    obtain ⟨x, h1, hi, rfl⟩ := sx_iinc_inv hs
    obtain ⟨k0, hk0⟩ := sx_lvk (N0 := N0) (b := b) h1
    exact fun H locs ls hH hS hl => lv_iinc hx hb (hL rfl) hl hk0 rfl hi (sx_set_sh N0 b lv i (.int (x + Int32.ofInt n))) (fun ls' hl' => kk H locs ls' hH hS hl')
  case iadd =>
    obtain ⟨x, y, z, rest, rfl, hz, rfl⟩ := sx_b2_inv hs
    cases hz
    exact sx_pure kk (fun H locs ls hl k1 => lv_iadd hx hb (hL rfl) k1)
  case isub =>
    obtain ⟨x, y, z, rest, rfl, hz, rfl⟩ := sx_b2_inv hs
    cases hz
    exact sx_pure kk (fun H locs ls hl k1 => lv_isub hx hb (hL rfl) k1)
  case imul =>
    obtain ⟨x, y, z, rest, rfl, hz, rfl⟩ := sx_b2_inv hs
    cases hz
    exact sx_pure kk (fun H locs ls hl k1 => lv_imul hx hb (hL rfl) k1)
  case iand =>
    obtain ⟨x, y, z, rest, rfl, hz, rfl⟩ := sx_b2_inv hs
    cases hz
    exact sx_pure kk (fun H locs ls hl k1 => lv_iand hx hb (hL rfl) k1)
  case ior =>
    obtain ⟨x, y, z, rest, rfl, hz, rfl⟩ := sx_b2_inv hs
    cases hz
    exact sx_pure kk (fun H locs ls hl k1 => lv_ior hx hb (hL rfl) k1)
  case ixor =>
    obtain ⟨x, y, z, rest, rfl, hz, rfl⟩ := sx_b2_inv hs
    cases hz
    exact sx_pure kk (fun H locs ls hl k1 => lv_ixor hx hb (hL rfl) k1)
  case idiv =>
    obtain ⟨x, y, z, rest, rfl, hz, rfl⟩ := sx_b2_inv hs
    by_cases hy : y = 0
    · rw [if_pos hy] at hz; cases hz
    · rw [if_neg hy] at hz
      cases hz
      exact sx_pure kk (fun H locs ls hl k1 => lv_idiv hx hb (hL rfl) hy k1)
  case irem =>
    obtain ⟨x, y, z, rest, rfl, hz, rfl⟩ := sx_b2_inv hs
    by_cases hy : y = 0
    · rw [if_pos hy] at hz; cases hz
    · rw [if_neg hy] at hz
      cases hz
      exact sx_pure kk (fun H locs ls hl k1 => lv_irem hx hb (hL rfl) hy k1)
  case ishl =>
    obtain ⟨x, y, z, rest, rfl, hz, rfl⟩ := sx_b2_inv hs
    cases hz
    exact sx_pure kk (fun H locs ls hl k1 => lv_ishl hx hb (hL rfl) k1)
  case ishr =>
    obtain ⟨x, y, z, rest, rfl, hz, rfl⟩ := sx_b2_inv hs
    cases hz
    exact sx_pure kk (fun H locs ls hl k1 => lv_ishr hx hb (hL rfl) k1)
  case iushr =>
    obtain ⟨x, y, z, rest, rfl, hz, rfl⟩ := sx_b2_inv hs
    cases hz
    exact sx_pure kk (fun H locs ls hl k1 => lv_iushr hx hb (hL rfl) rfl k1)
  case ineg =>
    obtain ⟨x, rest, rfl, rfl⟩ := sx_u1_inv hs
    exact sx_pure kk (fun H locs ls hl k1 => lv_ineg hx hb (hL rfl) k1)
  case i2l =>
    obtain ⟨x, rest, rfl, rfl⟩ := sx_u1_inv hs
    exact sx_pure kk (fun H locs ls hl k1 => lv_i2l hx hb (hL rfl) rfl k1)
  case i2b =>
    obtain ⟨x, rest, rfl, rfl⟩ := sx_u1_inv hs
    exact sx_pure kk (fun H locs ls hl k1 => lv_i2b hx hb (hL rfl) rfl k1)
  case l2i =>
    obtain ⟨x, rest, rfl, rfl⟩ := sx_u2_inv hs
    exact sx_pure kk (fun H locs ls hl k1 => lv_l2i hx hb (hL rfl) rfl k1)
  case ladd =>
    obtain ⟨x, y, rest, rfl, rfl⟩ := sx_l2_inv hs
    exact sx_pure kk (fun H locs ls hl k1 => lv_ladd hx hb (hL rfl) k1)
  case lsub =>
    obtain ⟨x, y, rest, rfl, rfl⟩ := sx_l2_inv hs
    exact sx_pure kk (fun H locs ls hl k1 => lv_lsub hx hb (hL rfl) k1)
  case lmul =>
    obtain ⟨x, y, rest, rfl, rfl⟩ := sx_l2_inv hs
    exact sx_pure kk (fun H locs ls hl k1 => lv_lmul hx hb (hL rfl) k1)
  case land =>
    obtain ⟨x, y, rest, rfl, rfl⟩ := sx_l2_inv hs
    exact sx_pure kk (fun H locs ls hl k1 => lv_land hx hb (hL rfl) k1)
  case lor =>
    obtain ⟨x, y, rest, rfl, rfl⟩ := sx_l2_inv hs
    exact sx_pure kk (fun H locs ls hl k1 => lv_lor hx hb (hL rfl) k1)
  case lxor =>
    obtain ⟨x, y, rest, rfl, rfl⟩ := sx_l2_inv hs
    exact sx_pure kk (fun H locs ls hl k1 => lv_lxor hx hb (hL rfl) k1)
  case lshl =>
    obtain ⟨x, y, rest, rfl, rfl⟩ := sx_ls_inv hs
    exact sx_pure kk (fun H locs ls hl k1 => lv_lshl hx hb (hL rfl) rfl k1)
  case lushr =>
    obtain ⟨x, y, rest, rfl, rfl⟩ := sx_ls_inv hs
    exact sx_pure kk (fun H locs ls hl k1 => lv_lushr hx hb (hL rfl) rfl k1)
  case lcmp =>
    dsimp only [sx_step] at hs
    split at hs
    · rename_i y x rest
      cases hs
      exact sx_pure kk (fun H locs ls hl k1 => W.lcmp hx hb (hL rfl) k1)
    · cases hs
  case dup =>
    dsimp only [sx_step] at hs
    unfold sx_d1 at hs
    split at hs
    · rename_i v rest
      by_cases hv : v.category = 1
      · rw [if_pos hv] at hs; cases hs
        exact sx_pure kk (fun H locs ls hl k1 => lv_dup hx hb (hL rfl) (sx_cat_sh hv) k1)
      · rw [if_neg hv] at hs; cases hs
    · cases hs
  case pop =>
    dsimp only [sx_step] at hs
    unfold sx_p1 at hs
    split at hs
    · rename_i v rest
      by_cases hv : v.category = 1
      · rw [if_pos hv] at hs; cases hs
        exact sx_pure kk (fun H locs ls hl k1 => lv_pop hx hb (hL rfl) (sx_cat_sh hv) k1)
      · rw [if_neg hv] at hs; cases hs
    · cases hs
  case pop2 =>
    dsimp only [sx_step] at hs
    unfold sx_p2 at hs
    split at hs
    · rename_i v rest
      by_cases hv : v.category = 2
      · rw [if_pos hv] at hs; cases hs
        exact sx_pure kk (fun H locs ls hl k1 => lv_pop2_2 hx hb (hL rfl) (by rw [sx_sh_cat]; exact hv) k1)
      · rw [if_neg hv] at hs; cases hs
    · cases hs
  case dup_x1 =>
    dsimp only [sx_step] at hs
    unfold sx_dx1 at hs
    split at hs
    · rename_i v u rest
      by_cases hv : v.category = 1 ∧ u.category = 1
      · rw [if_pos hv] at hs; cases hs
        exact sx_pure kk (fun H locs ls hl k1 => lv_dup_x1 hx hb (hL rfl) (sx_cat_sh hv.1) (sx_cat_sh hv.2) k1)
      · rw [if_neg hv] at hs; cases hs
    · cases hs
  case dup2 =>
    dsimp only [sx_step] at hs
    unfold sx_d2 at hs
    split at hs
    · rename_i v u rest
      by_cases hv : v.category = 1 ∧ u.category = 1
      · rw [if_pos hv] at hs; cases hs
        exact sx_pure kk (fun H locs ls hl k1 => lv_dup2_11 hx hb (hL rfl) (sx_cat_sh hv.1) (sx_cat_sh hv.2) k1)
      · rw [if_neg hv] at hs; cases hs
    · cases hs
  case ifCond kc off =>
    dsimp only [sx_step] at hs
    split at hs
    · rename_i x rest
      obtain ⟨tgt, ht, rfl⟩ := sx_jmp_inv hs
      exact sx_ifc_G hF (hL rfl) ht kk
    · cases hs
  case if_icmp kc off =>
    dsimp only [sx_step] at hs
    split at hs
    · rename_i y x rest
      obtain ⟨tgt, ht, rfl⟩ := sx_jmp_inv hs
      exact sx_icm_G hF (hL rfl) ht kk
    · cases hs
  case goto off =>
    obtain ⟨tgt, ht, rfl⟩ := sx_jmp_inv hs
    exact sx_pure kk (fun H locs ls hl k1 => lv_goto hx hb (hL rfl) ht k1)
  case tableswitch d lo hi offs =>
    dsimp only [sx_step] at hs
    unfold sx_tsw at hs
    split at hs
    · rename_i x rest
      by_cases ho : x.toInt < lo ∨ hi < x.toInt
      · rw [if_pos ho] at hs
        obtain ⟨tgt, ht, rfl⟩ := sx_jmp_inv hs
        exact sx_pure kk (fun H locs ls hl k1 => lv_tableOut hx hb hd ho ht k1)
      · rw [if_neg ho] at hs
        split at hs
        · rename_i off hoff
          obtain ⟨tgt, ht, rfl⟩ := sx_jmp_inv hs
          exact sx_pure kk (fun H locs ls hl k1 => lv_tableIn hx hb hd (fun q => ho (Or.inl q)) (fun q => ho (Or.inr q)) hoff ht k1)
        · cases hs
    · cases hs
  case lookupswitch d ps =>
    dsimp only [sx_step] at hs
    unfold sx_lsw at hs
    split at hs
    · rename_i x rest
      split at hs
      · rename_i hp0
        obtain ⟨tgt, ht, rfl⟩ := sx_jmp_inv hs
        exact sx_pure kk (fun H locs ls hl k1 => lv_lookup hx hb hd hp0 rfl ht k1)
      · cases hs
    · cases hs
  case getfield i => exact sx_getf_G (i := i) (q := q) (z := z) hF hO (hL rfl) hp hs kk
  case putfield i => exact sx_putf_G (i := i) (q := q) (z := z) hF hO hini (hL rfl) hp hs kk
  case iaload => exact sx_aget_G (t := 0) hF (Or.inl ⟨rfl, rfl⟩) (hL rfl) hs kk
  case baload => exact sx_aget_G (t := 1) hF (Or.inr ⟨rfl, rfl⟩) (hL rfl) hs kk
  case iastore => exact sx_aput_G (t := 0) hF (Or.inl ⟨rfl, rfl, rfl⟩) (hL rfl) hs kk
  case bastore => exact sx_aput_G (t := 1) hF (Or.inr ⟨rfl, rfl, rfl⟩) (hL rfl) hs kk
  case arraylength => exact sx_alen_G hF (hL rfl) hs kk
  case new i => exact sx_newc_G (i := i) (k := k) (q := q) (z := z) hF hO (hL rfl) hp hs hc hsl kk
  case newarray t => exact sx_newa_G (k := k) (q := q) (z := z) hF (hL rfl) hp hs hc hsl kk
  case invokespecial i =>
    dsimp only [sx_step] at hs
    split at hs
    · exact sx_oini_G (i := i) (a := a) (k := k) (q := q) (z := z) hF (hL rfl) hp hs kk
    · cases hs
  case invokestatic i =>
    dsimp only [sx_step] at hs
    split at hs
    · rename_i ha
      subst ha
      exact sx_copy_G (i := i) (k := k) (q := q) (z := z) hF (hL rfl) hp hs kk
    · split at hs
      · rename_i ha
        exact sx_mm_G (i := i) (k := k) (q := q) (z := z) hF (Or.inl ⟨ha, rfl⟩) (hL rfl) hp hs hc hsl kk
      · split at hs
        · rename_i ha
          exact sx_mm_G (i := i) (k := k) (q := q) (z := z) hF (Or.inr ⟨ha, rfl⟩) (hL rfl) hp hs hc hsl kk
        · cases hs
  all_goals (cases hs)
end SXS
end
