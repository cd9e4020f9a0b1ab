/-! THE SIMPLE MACHINE: a world is a list of cells; cell k of a world lies at the address N0 + k; a reference is its place k. A cell: below 100 the number of its kind in the list of kinds and its fields; 100 an int array, 101 a byte array. -/
abbrev sx_W : Type := List (Nat × List Value)
abbrev sx_L : Type := List (Nat × Value)
/-- what a step comes to: pc, locals, operands, world, cells made, slots made -/
abbrev sx_R : Type := Nat × sx_L × List Value × sx_W × Nat × Nat
/-- a row of code: pc, instruction, length, three numbers that say what its pool entry means, a constant -/
abbrev sx_E : Type := Nat × Instr × Nat × Nat × Nat × Nat × Int
/-- a method: name, bytes, locals, what it returns, how many arguments (its own object too), static or not, places of its words, rows of code -/
abbrev sx_M : Type := MethodName × ByteArray × Nat × Option FieldType × Nat × Bool × (Nat × Nat × Nat × Nat) × List sx_E
/-- a program: words of the tables, kinds, types of fields, methods, words of nest mates -/
abbrev sx_P : Type := List (List Cond) × List vw_C × (Nat → Nat → FieldType) × List sx_M × List Cond

def sx_sh (N0 b : Nat) : Value → Value
  | .ref k => .ref (N0 + k)
  | .retAddr _ => .ref b
  | .int v => .int v
  | .long v => .long v
  | .float v => .float v
  | .double v => .double v
  | .null => .null
theorem sx_sh_cat (N0 b : Nat) (v : Value) : (sx_sh N0 b v).category = v.category := by cases v <;> rfl
def sx_lv (N0 b : Nat) (lv : sx_L) : sx_L := lv.map (fun q => (q.1, sx_sh N0 b q.2))
def sx_st (N0 b : Nat) (st : List Value) : List Value := st.map (sx_sh N0 b)
def sx_get (lv : sx_L) (i : Nat) : Option Value := (lv.find? (fun q => q.1 == i)).map (fun q => q.2)
def sx_set (lv : sx_L) (i : Nat) (v : Value) : sx_L := (i, v) :: lv.filter (fun q => !(q.1 == i) && !(q.1 + 1 == i && q.2.category == 2))
def sx_set2 (lv : sx_L) (i : Nat) (v : Value) : sx_L := (i, v) :: lv.filter (fun q => !(q.1 == i) && (!(q.1 == i + 1) && !(q.1 + 1 == i && q.2.category == 2)))
theorem sx_lv_mem {N0 b : Nat} {lv : sx_L} {i : Nat} {v : Value} (h : sx_get lv i = some v) : (i, v) ∈ lv := by
  unfold sx_get at h
  cases hf : lv.find? (fun q => q.1 == i) with
  | none => rw [hf] at h; cases h
  | some q =>
    rw [hf] at h
    have h1 := List.find?_some hf
    have h2 := List.mem_of_find?_eq_some hf
    obtain ⟨j, w⟩ := q
    have e1 : j = i := by simpa using h1
    have e2 : w = v := by simpa using h
    subst e1; subst e2
    exact h2
theorem sx_lv_at {N0 b nL : Nat} {lv : sx_L} {ls : Array Slot} {i : Nat} {v : Value} (hl : lv_has ls nL (sx_lv N0 b lv)) (h : sx_get lv i = some v) : ls[i]? = some (.val (sx_sh N0 b v)) :=
  hl.2.2 (i, sx_sh N0 b v) (List.mem_map.mpr ⟨(i, v), sx_lv_mem (N0 := N0) (b := b) h, rfl⟩)
theorem sx_set_sh (N0 b : Nat) (lv : sx_L) (i : Nat) (v : Value) : sx_set (sx_lv N0 b lv) i (sx_sh N0 b v) = sx_lv N0 b (sx_set lv i v) := by
  unfold sx_set sx_lv
  rw [List.map_cons, List.filter_map]
  congr 2
  apply List.filter_congr
  intro q _
  simp [Function.comp, sx_sh_cat]
theorem sx_set2_sh (N0 b : Nat) (lv : sx_L) (i : Nat) (v : Value) : sx_set2 (sx_lv N0 b lv) i (sx_sh N0 b v) = sx_lv N0 b (sx_set2 lv i v) := by
  unfold sx_set2 sx_lv
  rw [List.map_cons, List.filter_map]
  congr 2
  apply List.filter_congr
  intro q _
  simp [Function.comp, sx_sh_cat]

def sx_toI : Value → Int32
  | .int x => x
  | _ => 0
def sx_arr (vs : List Value) : vp_A := (vs.length, .inl (fun i => sx_toI (vs.getD i .null)))
def sx_e (N0 b : Nat) (cA : Nat → ClassId) (x : Nat × List Value) : va_E := if x.1 < 100 then .inr (x.1, x.2.map (sx_sh N0 b)) else .inl (cA (x.1 - 100), sx_arr x.2)
/-- the heap holds the world w from N0 on, and nothing lies behind it -/
def sx_H (P : sx_P) (D : va_G) (cA : Nat → ClassId) (N0 b : Nat) (w : sx_W) (H : Heap) : Prop :=
  H.size = N0 + w.length ∧ ∀ (k : Nat) (x : Nat × List Value), w[k]? = some x → va_at D P.2.1 (N0 + k, sx_e N0 b cA x) H
theorem sx_H.put {P : sx_P} {D : va_G} {cA : Nat → ClassId} {N0 b k : Nat} {w : sx_W} {H H1 : Heap} {x : Nat × List Value} (h : sx_H P D cA N0 b w H) (hk : k < w.length) (hz : H1.size = H.size) (he : va_at D P.2.1 (N0 + k, sx_e N0 b cA x) H1) (oq : ∀ q : Nat, q ≠ N0 + k → H1[q]? = H[q]?) : sx_H P D cA N0 b (w.set k x) H1 := by
  refine ⟨by rw [hz, h.1, List.length_set], fun j y hj => ?_⟩
  by_cases hjk : j = k
  · subst hjk
    rw [List.getElem?_set_self hk] at hj
    cases hj
    exact he
  · rw [List.getElem?_set_ne (Ne.symm hjk)] at hj
    exact (h.2 j y hj).kept (oq (N0 + j) (by omega))
theorem sx_H.push {P : sx_P} {D : va_G} {cA : Nat → ClassId} {N0 b : Nat} {w : sx_W} {H H1 : Heap} {x : Nat × List Value} (h : sx_H P D cA N0 b w H) (hz : H1.size = H.size + 1) (he : va_at D P.2.1 (N0 + w.length, sx_e N0 b cA x) H1) (oq : ∀ q : Nat, q < H.size → H1[q]? = H[q]?) : sx_H P D cA N0 b (w ++ [x]) H1 := by
  refine ⟨by rw [hz, h.1, List.length_append]; rfl, fun j y hj => ?_⟩
  by_cases hl : j < w.length
  · rw [List.getElem?_append_left hl] at hj
    exact (h.2 j y hj).kept (oq (N0 + j) (by rw [h.1]; omega))
  · rw [List.getElem?_append_right (by omega)] at hj
    have hz : j - w.length < 1 := (List.getElem?_eq_some_iff.mp hj).1
    have hj0 : j = w.length := by omega
    subst hj0
    rw [Nat.sub_self] at hj
    cases hj
    exact he

/-! one step -/
def sx_b2 (pc : Nat) (lv : sx_L) (st : List Value) (w : sx_W) (f : Int32 → Int32 → Option Int32) : Option sx_R := match st with
  | .int y :: .int x :: r => (f x y).map (fun z => (pc + 1, lv, .int z :: r, w, 0, 0))
  | _ => none
def sx_l2 (pc : Nat) (lv : sx_L) (st : List Value) (w : sx_W) (f : Int64 → Int64 → Int64) : Option sx_R := match st with
  | .long y :: .long x :: r => some (pc + 1, lv, .long (f x y) :: r, w, 0, 0)
  | _ => none
def sx_ls (pc : Nat) (lv : sx_L) (st : List Value) (w : sx_W) (f : Int64 → Int32 → Int64) : Option sx_R := match st with
  | .int y :: .long x :: r => some (pc + 1, lv, .long (f x y) :: r, w, 0, 0)
  | _ => none
def sx_ild (pc n : Nat) (lv : sx_L) (st : List Value) (w : sx_W) (i : Nat) : Option sx_R := match sx_get lv i with
  | some (.int x) => some (pc + n, lv, .int x :: st, w, 0, 0)
  | _ => none
def sx_lld (pc n : Nat) (lv : sx_L) (st : List Value) (w : sx_W) (i : Nat) : Option sx_R := match sx_get lv i with
  | some (.long x) => some (pc + n, lv, .long x :: st, w, 0, 0)
  | _ => none
def sx_ald (pc n : Nat) (lv : sx_L) (st : List Value) (w : sx_W) (i : Nat) : Option sx_R := match sx_get lv i with
  | some (.ref x) => some (pc + n, lv, .ref x :: st, w, 0, 0)
  | some (.retAddr x) => some (pc + n, lv, .retAddr x :: st, w, 0, 0)
  | _ => none
def sx_ist (pc n nL : Nat) (lv : sx_L) (st : List Value) (w : sx_W) (i : Nat) : Option sx_R := match st with
  | .int x :: r => if i < nL then some (pc + n, sx_set lv i (.int x), r, w, 0, 0) else none
  | _ => none
def sx_lst (pc n nL : Nat) (lv : sx_L) (st : List Value) (w : sx_W) (i : Nat) : Option sx_R := match st with
  | .long x :: r => if i + 1 < nL then some (pc + n, sx_set2 lv i (.long x), r, w, 0, 0) else none
  | _ => none
def sx_ast (pc n nL : Nat) (lv : sx_L) (st : List Value) (w : sx_W) (i : Nat) : Option sx_R := match st with
  | .ref x :: r => if i < nL then some (pc + n, sx_set lv i (.ref x), r, w, 0, 0) else none
  | _ => none
def sx_jmp (pc : Nat) (off : Int) (lv : sx_L) (st : List Value) (w : sx_W) (t : Bool) : Option sx_R :=
  if 0 ≤ (pc : Int) + off then some (if t then ((pc : Int) + off).toNat else pc + 3, lv, st, w, 0, 0) else none
def sx_cond (k : ClassFile.Cond) (x y : Int32) : Bool := match k with
  | .eq => decide (x = y)
  | .ne => !decide (x = y)
  | .lt => decide (x < y)
  | .ge => decide (y ≤ x)
  | .gt => decide (y < x)
  | .le => decide (x ≤ y)
def sx_getf (pc : Nat) (lv : sx_L) (st : List Value) (w : sx_W) (ci k : Nat) : Option sx_R := match st with
  | .ref a :: r => match w[a]? with
    | some (c, fs) => if c = ci ∧ ci < 100 then match fs[k]? with
      | some v => some (pc + 3, lv, v :: r, w, 0, 0)
      | none => none
      else none
    | none => none
  | _ => none
/-- a value is what a field of the type may hold as it is -/
def sx_fit (ty : FieldType) (v : Value) : Bool := decide (narrow ty v = v) && fits ty v
def sx_putf (pc : Nat) (lv : sx_L) (st : List Value) (w : sx_W) (ci k : Nat) (ty : FieldType) : Option sx_R := match st with
  | v :: .ref a :: r => match w[a]? with
    | some (c, fs) => if c = ci ∧ ci < 100 ∧ k < fs.length ∧ sx_fit ty v = true then some (pc + 3, lv, r, w.set a (c, fs.set k v), 0, 0) else none
    | none => none
  | _ => none
/-- the place of an index in an array -/
def sx_ix (i : Int32) (n : Nat) : Option Nat := if i < 0 ∨ n ≤ i.toNatClampNeg then none else some i.toNatClampNeg
def sx_aget (pc : Nat) (lv : sx_L) (st : List Value) (w : sx_W) (xs : List Int32) (t : Nat) : Option sx_R := match st with
  | .int i :: .ref a :: r => match w[a]? with
    | some (c, vs) => if c = t then match sx_ix i vs.length with
      | some j => match vs[j]? with
        | some (.int x) => some (pc + 1, lv, .int x :: r, w, 0, 0)
        | _ => none
      | none => none
      else none
    | none => none
  | .int i :: .retAddr _ :: r => if t = 100 then match sx_ix i xs.length with
    | some j => some (pc + 1, lv, .int (xs.getD j 0) :: r, w, 0, 0)
    | none => none
    else none
  | _ => none
def sx_aput (pc : Nat) (lv : sx_L) (st : List Value) (w : sx_W) (t : Nat) (f : Int32 → Int32) : Option sx_R := match st with
  | .int x :: .int i :: .ref a :: r => match w[a]? with
    | some (c, vs) => if c = t then match sx_ix i vs.length with
      | some j => some (pc + 1, lv, r, w.set a (c, vs.set j (.int (f x))), 0, 0)
      | none => none
      else none
    | none => none
  | _ => none
def sx_alen (pc : Nat) (lv : sx_L) (st : List Value) (w : sx_W) (xs : List Int32) : Option sx_R := match st with
  | .ref a :: r => match w[a]? with
    | some (c, vs) => if c = 100 ∨ c = 101 then some (pc + 1, lv, .int (Int32.ofNat vs.length) :: r, w, 0, 0) else none
    | none => none
  | .retAddr _ :: r => some (pc + 1, lv, .int (Int32.ofNat xs.length) :: r, w, 0, 0)
  | _ => none
def sx_dflt (P : sx_P) (ci N : Nat) : List Value := (List.range N).map (fun k => defaultValue (P.2.2.1 ci k))
def sx_newc (P : sx_P) (pc : Nat) (lv : sx_L) (st : List Value) (w : sx_W) (ci : Nat) : Option sx_R := match P.2.1[ci]? with
  | some q => if ci < 100 then some (pc + 3, lv, .ref w.length :: st, w ++ [(ci, sx_dflt P ci q.2.2)], 1, q.2.2) else none
  | none => none
def sx_newa (pc : Nat) (lv : sx_L) (st : List Value) (w : sx_W) (t : Nat) : Option sx_R := match st with
  | .int n :: r => if n < 0 ∨ 1000000 ≤ n.toNatClampNeg then none else some (pc + 2, lv, .ref w.length :: r, w ++ [(t, List.replicate n.toNatClampNeg (.int 0))], 1, n.toNatClampNeg)
  | _ => none
def sx_csum (st : List Value) : Nat := (st.map fun v => v.category).sum
def sx_copy (pc : Nat) (lv : sx_L) (st : List Value) (w : sx_W) : Option sx_R := match st with
  | .int n :: .int dp :: .ref a1 :: .int sp :: .ref a0 :: r => match w[a0]?, w[a1]? with
    | some (c0, f), some (c1, g) => if c0 = 100 ∧ c1 = 100 ∧ ¬ sp < 0 ∧ ¬ dp < 0 ∧ ¬ n < 0 ∧ sp.toNatClampNeg + n.toNatClampNeg ≤ f.length ∧ dp.toNatClampNeg + n.toNatClampNeg ≤ g.length ∧ sx_csum r ≤ 8 then
        some (pc + 3, lv, r, w.set a1 (c1, g.take dp.toNatClampNeg ++ ((f.drop sp.toNatClampNeg).take n.toNatClampNeg ++ g.drop (dp.toNatClampNeg + n.toNatClampNeg))), 0, 0) else none
    | _, _ => none
  | _ => none
def sx_oini (pc : Nat) (lv : sx_L) (st : List Value) (w : sx_W) : Option sx_R := match st with
  | .ref _ :: r => if sx_csum r ≤ 8 then some (pc + 3, lv, r, w, 0, 0) else none
  | _ => none
def sx_mm (pc : Nat) (lv : sx_L) (st : List Value) (w : sx_W) (f : Int32 → Int32 → Int32) : Option sx_R := match st with
  | .int y :: .int x :: r => if sx_csum r ≤ 8 then some (pc + 3, lv, .int (f x y) :: r, w, 0, 0) else none
  | _ => none
def sx_iinc (pc nL : Nat) (lv : sx_L) (st : List Value) (w : sx_W) (i : Nat) (n : Int) : Option sx_R := match sx_get lv i with
  | some (.int x) => if i < nL then some (pc + 3, sx_set lv i (.int (x + Int32.ofInt n)), st, w, 0, 0) else none
  | _ => none
def sx_tsw (pc : Nat) (lv : sx_L) (st : List Value) (w : sx_W) (d lo hi : Int) (offs : Array Int) : Option sx_R := match st with
  | .int x :: r => if x.toInt < lo ∨ hi < x.toInt then sx_jmp pc d lv r w true else match offs[(x.toInt - lo).toNat]? with
    | some off => sx_jmp pc off lv r w true
    | none => none
  | _ => none
def sx_lsw (pc : Nat) (lv : sx_L) (st : List Value) (w : sx_W) (d : Int) (ps : Array (Int × Int)) : Option sx_R := match st with
  | .int x :: r => if (ps.toList.zip (ps.toList.drop 1)).all (fun (a, next) => a.1 < next.1) = true then sx_jmp pc (Op.lookupswitch.offset ps.toList d x.toInt) lv r w true else none
  | _ => none
def sx_d1 (pc : Nat) (lv : sx_L) (st : List Value) (w : sx_W) : Option sx_R := match st with
  | v :: r => if v.category = 1 then some (pc + 1, lv, v :: v :: r, w, 0, 0) else none
  | _ => none
def sx_p1 (pc : Nat) (lv : sx_L) (st : List Value) (w : sx_W) : Option sx_R := match st with
  | v :: r => if v.category = 1 then some (pc + 1, lv, r, w, 0, 0) else none
  | _ => none
def sx_p2 (pc : Nat) (lv : sx_L) (st : List Value) (w : sx_W) : Option sx_R := match st with
  | v :: r => if v.category = 2 then some (pc + 1, lv, r, w, 0, 0) else none
  | _ => none
def sx_dx1 (pc : Nat) (lv : sx_L) (st : List Value) (w : sx_W) : Option sx_R := match st with
  | v :: u :: r => if v.category = 1 ∧ u.category = 1 then some (pc + 1, lv, v :: u :: v :: r, w, 0, 0) else none
  | _ => none
def sx_d2 (pc : Nat) (lv : sx_L) (st : List Value) (w : sx_W) : Option sx_R := match st with
  | v :: u :: r => if v.category = 1 ∧ u.category = 1 then some (pc + 1, lv, v :: u :: v :: u :: r, w, 0, 0) else none
  | _ => none
def sx_u1 (pc : Nat) (lv : sx_L) (st : List Value) (w : sx_W) (f : Int32 → Value) : Option sx_R := match st with
  | .int x :: r => some (pc + 1, lv, f x :: r, w, 0, 0)
  | _ => none
def sx_u2 (pc : Nat) (lv : sx_L) (st : List Value) (w : sx_W) (f : Int64 → Value) : Option sx_R := match st with
  | .long x :: r => some (pc + 1, lv, f x :: r, w, 0, 0)
  | _ => none
def sx_step (P : sx_P) (xs : List Int32) (nL : Nat) (E : sx_E) (lv : sx_L) (st : List Value) (w : sx_W) : Option sx_R := match E with
  | (pc, I, _, a, k, _, z) => match I with
    | .iconst n => some (pc + 1, lv, .int (Int32.ofInt n) :: st, w, 0, 0)
    | .bipush n => some (pc + 2, lv, .int (Int8.ofInt n).toInt32 :: st, w, 0, 0)
    | .sipush n => some (pc + 3, lv, .int (Int16.ofInt n).toInt32 :: st, w, 0, 0)
    | .lconst n => some (pc + 1, lv, .long (Int64.ofNat (n : Nat)) :: st, w, 0, 0)
    | .ldc _ => some (pc + 2, lv, .int (Int32.ofInt z) :: st, w, 0, 0)
    | .ldc_w _ => some (pc + 3, lv, .int (Int32.ofInt z) :: st, w, 0, 0)
    | .ldc2_w _ => some (pc + 3, lv, .long (Int64.ofInt z) :: st, w, 0, 0)
    | .iload_n i => sx_ild pc 1 lv st w (i : Nat)
    | .iload i => sx_ild pc 2 lv st w i
    | .lload_n i => sx_lld pc 1 lv st w (i : Nat)
    | .lload i => sx_lld pc 2 lv st w i
    | .aload_n i => sx_ald pc 1 lv st w (i : Nat)
    | .aload i => sx_ald pc 2 lv st w i
    | .istore_n i => sx_ist pc 1 nL lv st w (i : Nat)
    | .istore i => sx_ist pc 2 nL lv st w i
    | .lstore_n i => sx_lst pc 1 nL lv st w (i : Nat)
    | .lstore i => sx_lst pc 2 nL lv st w i
    | .astore_n i => sx_ast pc 1 nL lv st w (i : Nat)
    | .astore i => sx_ast pc 2 nL lv st w i
    | .iinc i n => sx_iinc pc nL lv st w i n
    | .iadd => sx_b2 pc lv st w (fun x y => some (x + y))
    | .isub => sx_b2 pc lv st w (fun x y => some (x - y))
    | .imul => sx_b2 pc lv st w (fun x y => some (x * y))
    | .iand => sx_b2 pc lv st w (fun x y => some (x &&& y))
    | .ior => sx_b2 pc lv st w (fun x y => some (x ||| y))
    | .ixor => sx_b2 pc lv st w (fun x y => some (x ^^^ y))
    | .idiv => sx_b2 pc lv st w (fun x y => if y = 0 then none else some (x / y))
    | .irem => sx_b2 pc lv st w (fun x y => if y = 0 then none else some (x - x / y * y))
    | .ishl => sx_b2 pc lv st w (fun x y => some (x <<< (y &&& 31)))
    | .ishr => sx_b2 pc lv st w (fun x y => some (x >>> (y &&& 31)))
    | .iushr => sx_b2 pc lv st w (fun x y => some ((x.toUInt32 >>> (y.toUInt32 &&& Int32.toUInt32 31)).toInt32))
    | .ineg => sx_u1 pc lv st w (fun x => .int (-x))
    | .i2l => sx_u1 pc lv st w (fun x => .long x.toInt64)
    | .i2b => sx_u1 pc lv st w (fun x => .int x.toInt8.toInt32)
    | .l2i => sx_u2 pc lv st w (fun x => .int x.toInt32)
    | .ladd => sx_l2 pc lv st w (fun x y => x + y)
    | .lsub => sx_l2 pc lv st w (fun x y => x - y)
    | .lmul => sx_l2 pc lv st w (fun x y => x * y)
    | .land => sx_l2 pc lv st w (fun x y => x &&& y)
    | .lor => sx_l2 pc lv st w (fun x y => x ||| y)
    | .lxor => sx_l2 pc lv st w (fun x y => x ^^^ y)
    | .lshl => sx_ls pc lv st w (fun x y => x <<< (y.toInt64 &&& 63))
    | .lushr => sx_ls pc lv st w (fun x y => (x.toUInt64 >>> (y.toInt64.toUInt64 &&& Int64.toUInt64 63)).toInt64)
    | .lcmp => match st with
      | .long y :: .long x :: r => some (pc + 1, lv, .int (lg_cmp x y) :: r, w, 0, 0)
      | _ => none
    | .dup => sx_d1 pc lv st w
    | .pop => sx_p1 pc lv st w
    | .pop2 => sx_p2 pc lv st w
    | .dup_x1 => sx_dx1 pc lv st w
    | .dup2 => sx_d2 pc lv st w
    | .ifCond c off => match st with
      | .int x :: r => sx_jmp pc off lv r w (sx_cond c x 0)
      | _ => none
    | .if_icmp c off => match st with
      | .int y :: .int x :: r => sx_jmp pc off lv r w (sx_cond c x y)
      | _ => none
    | .goto off => sx_jmp pc off lv st w true
    | .tableswitch d lo hi offs => sx_tsw pc lv st w d lo hi offs
    | .lookupswitch d ps => sx_lsw pc lv st w d ps
    | .getfield _ => sx_getf pc lv st w a k
    | .putfield _ => sx_putf pc lv st w a k (P.2.2.1 a k)
    | .iaload => sx_aget pc lv st w xs 100
    | .baload => sx_aget pc lv st w xs 101
    | .iastore => sx_aput pc lv st w 100 (fun x => x)
    | .bastore => sx_aput pc lv st w 101 (fun x => vp_nar .byte x)
    | .arraylength => sx_alen pc lv st w xs
    | .new _ => sx_newc P pc lv st w a
    | .newarray _ => sx_newa pc lv st w a
    | .invokespecial _ => if a = 1000 then sx_oini pc lv st w else none
    | .invokestatic _ => if a = 1001 then sx_copy pc lv st w else if a = 1002 then sx_mm pc lv st w (fun x y => if x < y then y else x) else if a = 1003 then sx_mm pc lv st w (fun x y => if y < x then y else x) else none
    | _ => none
