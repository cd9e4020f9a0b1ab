/-! WHAT A ROW OF CODE MAY BE (checked by program), and that a step of the simple machine is a step of the machine -/
def sx_len (I : Instr) : Nat := match I with
  | .iconst _ | .lconst _ | .iload_n _ | .lload_n _ | .aload_n _ | .istore_n _ | .lstore_n _ | .astore_n _ | .iadd | .isub | .imul | .iand | .ior | .ixor | .idiv | .irem | .ishl | .ishr | .iushr | .ineg | .i2l | .i2b | .l2i | .ladd | .lsub | .lmul | .land | .lor | .lxor | .lshl | .lushr | .lcmp | .dup | .pop | .pop2 | .dup_x1 | .dup2 | .iaload | .baload | .iastore | .bastore | .arraylength | .ireturn | .lreturn | .areturn | .return_ => 1
  | .bipush _ | .ldc _ | .iload _ | .lload _ | .aload _ | .istore _ | .lstore _ | .astore _ | .newarray _ => 2
  | _ => 3
def sx_isSw (I : Instr) : Bool := match I with
  | .tableswitch .. | .lookupswitch .. => true
  | _ => false
def sx_acopy : MethodName := ⟨"java/lang/System", "arraycopy", "(Ljava/lang/Object;ILjava/lang/Object;II)V"⟩
/-- the word at a place of the tables, a good one -/
def sx_wd (P : sx_P) (q : Nat) (w : Cond) : Bool := decide ((P.1[q / 1000]?).bind (fun ch => ch[q % 1000]?) = some w) && goodWord w
def sx_pool (P : sx_P) (own : String) (ini : Bool) (E : sx_E) : Bool := match E with
  | (_, I, _, a, k, q, z) => match I with
    | .ldc i => sx_wd P q (.constant own i (Int32.ofInt z))
    | .ldc_w i => sx_wd P q (.constant own i (Int32.ofInt z))
    | .ldc2_w i => sx_wd P q (.constantLong own i (Int64.ofInt z))
    | .getfield i => match P.2.1[a]? with
      | some (C, T, N) => decide (k < N) && sx_wd P q (.fieldLink own i C (T k).2.1 (T k).2.2.1) && decide ((T k).1 = C)
      | none => false
    | .putfield i => match P.2.1[a]? with
      | some (C, T, N) => decide (k < N) && sx_wd P q (.fieldLink own i C (T k).2.1 (T k).2.2.1) && decide ((T k).1 = C) && (decide ((T k).2.2.2 = false) || (ini && decide (C = own) && decide ((T k).2.2.2 = true)))
      | none => false
    | .new i => match P.2.1[a]? with
      | some (C, _, N) => sx_wd P q (.classLink own i C) && sx_wd P k (.instantiable C N) && sx_wd P z.toNat (.initialized C)
      | none => false
    | .newarray t => (decide (t = .int) && decide (a = 100) && sx_wd P q (.arrayClass .int)) || (decide (t = .byte) && decide (a = 101) && sx_wd P q (.arrayClass .byte))
    | .invokespecial i => decide (a = 1000) && sx_wd P q (.methodLink own i Lib.objectInit) && sx_wd P k (.instanceMethod Lib.objectInit) && sx_wd P z.toNat (.code Lib.objectInit ⟨#[0xb1]⟩ 1 none)
    | .invokestatic i => if a = 1001 then sx_wd P q (.methodLink own i sx_acopy) && sx_wd P k (.native sx_acopy) && sx_wd P (k - 1) (.static sx_acopy) && sx_wd P z.toNat (.initialized "java/lang/System")
      else if a = 1002 then sx_wd P q (.methodLink own i Lib.Math.max.name) && sx_wd P k (.static Lib.Math.max.name) && sx_wd P (z.toNat % 1000000) (.code Lib.Math.max.name Lib.Math.max.code 2 (some .int)) && sx_wd P (z.toNat / 1000000) (.initialized "java/lang/Math")
      else if a = 1003 then sx_wd P q (.methodLink own i Lib.Math.min.name) && sx_wd P k (.static Lib.Math.min.name) && sx_wd P (z.toNat % 1000000) (.code Lib.Math.min.name Lib.Math.min.code 2 (some .int)) && sx_wd P (z.toNat / 1000000) (.initialized "java/lang/Math")
      else false
    | _ => true
def sx_dec (cc : ByteArray) (E : sx_E) : Bool := decide (decode cc E.1 = .ok (E.2.1, E.2.2.1)) && (sx_isSw E.2.1 || decide (sx_len E.2.1 = E.2.2.1))
/-- the kinds of the program are as the tables lay them -/
def sx_kindOk (P : sx_P) : Prop := ∀ (ci : Nat) (q : vw_C), P.2.1[ci]? = some q → (∀ k, k < q.2.2 → u_lay q.1 q.2.1 k ∈ P.1.flatten ∧ goodWord (u_lay q.1 q.2.1 k) = true) ∧ (∀ k, k < q.2.2 → parseFieldDescriptor (q.2.1 k).2.2.1 = some (P.2.2.1 ci k)) ∧ ∀ a, a < q.2.2 → ∀ b, b < q.2.2 → a ≠ b → (q.2.1 a).2.1 ≠ (q.2.1 b).2.1
def sx_tys (cA : Nat → ClassId) : List (ClassId × FieldType) := [(cA 0, .int), (cA 1, .byte)]
def sx_K (P : sx_P) (D : va_G) (cA : Nat → ClassId) (U : State) : Prop := va_K D P.2.1 (sx_tys cA) U ∧ ∀ w ∈ P.2.2.2.2, va_Nw w U
def sx_Fx (P : sx_P) (D : va_G) (cA : Nat → ClassId) (N0 b nL : Nat) (xs : List Int32) (own : String) (cc : ByteArray) (p : Program) (R : Room) (s : State) (m : MethodId) (args : Array Value) (c : Code) : Prop :=
  p.tables.exec = Jvm.exec ∧ c.code = cc ∧ c.maxLocals = nL ∧ s.vm.findClass own = some m.cls ∧ (∀ w ∈ P.1.flatten, goodWord w = true → w.before args s = true) ∧ sx_K P D cA s ∧ N0 ≤ s.heap.size ∧ va_X b xs.length (fun j => xs.getD j 0) s s.heap ∧ b < N0 ∧ 1 ≤ R.frames ∧ 64 ≤ R.locals
section SXG
variable {p : Program} {l : Launch} {e : Env} {R : Room} {s : State} {m : MethodId} {args : Array Value} {below : List Frame} {meth : Method} {c : Code} {Q : State → Prop}
variable {P : sx_P} {D : va_G} {cA : Nat → ClassId} {N0 b nL : Nat} {xs : List Int32} {own : String} {cc : ByteArray}
def sx_G (p : Program) (l : Launch) (e : Env) (R : Room) (s : State) (m : MethodId) (args : Array Value) (below : List Frame) (meth : Method) (c : Code) (Q : State → Prop) (P : sx_P) (D : va_G) (cA : Nat → ClassId) (N0 b nL : Nat) (cells slots : Nat) (w : sx_W) (pc : Nat) (lv : sx_L) (st : List Value) : Prop :=
  ∀ (H : Heap) (locs : List Loc) (ls : Array Slot), sx_H P D cA N0 b w H → va_S (fun q => N0 ≤ q) s.heap H locs → lv_has ls nL (sx_lv N0 b lv) → W p l e R s m args below meth c H locs cells slots Q (F0 m pc ls (sx_st N0 b st))
theorem sx_wd_mem {P : sx_P} {q : Nat} {w : Cond} (h : sx_wd P q w = true) : w ∈ P.1.flatten ∧ goodWord w = true := by
  unfold sx_wd at h
  rw [Bool.and_eq_true, decide_eq_true_eq] at h
  refine ⟨?_, h.2⟩
  have h1 := h.1
  cases hc : P.1[q / 1000]? with
  | none => rw [hc] at h1; cases h1
  | some ch =>
    rw [hc] at h1
    exact List.mem_flatten.mpr ⟨ch, List.mem_of_getElem? hc, List.mem_of_getElem? h1⟩
theorem sx_wd_at (hF : sx_Fx P D cA N0 b nL xs own cc p R s m args c) {q : Nat} {w : Cond} (h : sx_wd P q w = true) : w.before args s = true :=
  hF.2.2.2.2.1 w (sx_wd_mem h).1 (sx_wd_mem h).2
/-- steps that leave world and locals as they are -/
theorem sx_pure {cells slots : Nat} {w : sx_W} {pc pc' : Nat} {lv : sx_L} {st st' : List Value} (kk : sx_G p l e R s m args below meth c Q P D cA N0 b nL cells slots w pc' lv st')
    (h : ∀ (H : Heap) (locs : List Loc) (ls : Array Slot), lv_has ls nL (sx_lv N0 b lv) → W p l e R s m args below meth c H locs cells slots Q (F0 m pc' ls (sx_st N0 b st')) → W p l e R s m args below meth c H locs cells slots Q (F0 m pc ls (sx_st N0 b st))) :
    sx_G p l e R s m args below meth c Q P D cA N0 b nL cells slots w pc lv st := fun H locs ls hH hS hl => h H locs ls hl (kk H locs ls hH hS hl)
theorem sx_jmp_inv {pc : Nat} {off : Int} {lv : sx_L} {st : List Value} {w : sx_W} {t : Bool} {r : sx_R} (h : sx_jmp pc off lv st w t = some r) : ∃ tgt : Nat, (pc : Int) + off = (tgt : Int) ∧ r = (if t then tgt else pc + 3, lv, st, w, 0, 0) := by
  unfold sx_jmp at h
  by_cases h0 : 0 ≤ (pc : Int) + off
  · rw [if_pos h0] at h
    cases h
    exact ⟨((pc : Int) + off).toNat, by omega, rfl⟩
  · rw [if_neg h0] at h
    cases h
theorem sx_b2_inv {pc : Nat} {lv : sx_L} {st : List Value} {w : sx_W} {f : Int32 → Int32 → Option Int32} {r : sx_R} (h : sx_b2 pc lv st w f = some r) : ∃ (x y z : Int32) (rest : List Value), st = .int y :: .int x :: rest ∧ f x y = some z ∧ r = (pc + 1, lv, .int z :: rest, w, 0, 0) := by
  unfold sx_b2 at h
  split at h
  · rename_i y x rest
    cases hz : f x y with
    | none => rw [hz] at h; cases h
    | some z => rw [hz] at h; cases h; exact ⟨x, y, z, rest, rfl, hz, rfl⟩
  · cases h
theorem sx_l2_inv {pc : Nat} {lv : sx_L} {st : List Value} {w : sx_W} {f : Int64 → Int64 → Int64} {r : sx_R} (h : sx_l2 pc lv st w f = some r) : ∃ (x y : Int64) (rest : List Value), st = .long y :: .long x :: rest ∧ r = (pc + 1, lv, .long (f x y) :: rest, w, 0, 0) := by
  unfold sx_l2 at h
  split at h
  · rename_i y x rest; cases h; exact ⟨x, y, rest, rfl, rfl⟩
  · cases h
theorem sx_ls_inv {pc : Nat} {lv : sx_L} {st : List Value} {w : sx_W} {f : Int64 → Int32 → Int64} {r : sx_R} (h : sx_ls pc lv st w f = some r) : ∃ (x : Int64) (y : Int32) (rest : List Value), st = .int y :: .long x :: rest ∧ r = (pc + 1, lv, .long (f x y) :: rest, w, 0, 0) := by
  unfold sx_ls at h
  split at h
  · rename_i y x rest; cases h; exact ⟨x, y, rest, rfl, rfl⟩
  · cases h
theorem sx_u1_inv {pc : Nat} {lv : sx_L} {st : List Value} {w : sx_W} {f : Int32 → Value} {r : sx_R} (h : sx_u1 pc lv st w f = some r) : ∃ (x : Int32) (rest : List Value), st = .int x :: rest ∧ r = (pc + 1, lv, f x :: rest, w, 0, 0) := by
  unfold sx_u1 at h
  split at h
  · rename_i x rest; cases h; exact ⟨x, rest, rfl, rfl⟩
  · cases h
theorem sx_u2_inv {pc : Nat} {lv : sx_L} {st : List Value} {w : sx_W} {f : Int64 → Value} {r : sx_R} (h : sx_u2 pc lv st w f = some r) : ∃ (x : Int64) (rest : List Value), st = .long x :: rest ∧ r = (pc + 1, lv, f x :: rest, w, 0, 0) := by
  unfold sx_u2 at h
  split at h
  · rename_i x rest; cases h; exact ⟨x, rest, rfl, rfl⟩
  · cases h
theorem sx_ild_inv {pc n : Nat} {lv : sx_L} {st : List Value} {w : sx_W} {i : Nat} {r : sx_R} (h : sx_ild pc n lv st w i = some r) : ∃ x : Int32, sx_get lv i = some (.int x) ∧ r = (pc + n, lv, .int x :: st, w, 0, 0) := by
  unfold sx_ild at h
  split at h
  · rename_i x hx; cases h; exact ⟨x, hx, rfl⟩
  · cases h
theorem sx_lld_inv {pc n : Nat} {lv : sx_L} {st : List Value} {w : sx_W} {i : Nat} {r : sx_R} (h : sx_lld pc n lv st w i = some r) : ∃ x : Int64, sx_get lv i = some (.long x) ∧ r = (pc + n, lv, .long x :: st, w, 0, 0) := by
  unfold sx_lld at h
  split at h
  · rename_i x hx; cases h; exact ⟨x, hx, rfl⟩
  · cases h
theorem sx_ald_inv {pc n : Nat} {lv : sx_L} {st : List Value} {w : sx_W} {i : Nat} {r : sx_R} (N0 b : Nat) (h : sx_ald pc n lv st w i = some r) : ∃ (v : Value) (a : Nat), sx_get lv i = some v ∧ sx_sh N0 b v = .ref a ∧ r = (pc + n, lv, v :: st, w, 0, 0) := by
  unfold sx_ald at h
  split at h
  · rename_i x hx; cases h; exact ⟨_, _, hx, rfl, rfl⟩
  · rename_i x hx; cases h; exact ⟨_, _, hx, rfl, rfl⟩
  · cases h
theorem sx_ist_inv {pc n nL : Nat} {lv : sx_L} {st : List Value} {w : sx_W} {i : Nat} {r : sx_R} (h : sx_ist pc n nL lv st w i = some r) : ∃ (x : Int32) (rest : List Value), st = .int x :: rest ∧ i < nL ∧ r = (pc + n, sx_set lv i (.int x), rest, w, 0, 0) := by
  unfold sx_ist at h
  split at h
  · rename_i x rest
    by_cases hi : i < nL
    · rw [if_pos hi] at h; cases h; exact ⟨x, rest, rfl, hi, rfl⟩
    · rw [if_neg hi] at h; cases h
  · cases h
theorem sx_lst_inv {pc n nL : Nat} {lv : sx_L} {st : List Value} {w : sx_W} {i : Nat} {r : sx_R} (h : sx_lst pc n nL lv st w i = some r) : ∃ (x : Int64) (rest : List Value), st = .long x :: rest ∧ i + 1 < nL ∧ r = (pc + n, sx_set2 lv i (.long x), rest, w, 0, 0) := by
  unfold sx_lst at h
  split at h
  · rename_i x rest
    by_cases hi : i + 1 < nL
    · rw [if_pos hi] at h; cases h; exact ⟨x, rest, rfl, hi, rfl⟩
    · rw [if_neg hi] at h; cases h
  · cases h
theorem sx_ast_inv {pc n nL : Nat} {lv : sx_L} {st : List Value} {w : sx_W} {i : Nat} {r : sx_R} (h : sx_ast pc n nL lv st w i = some r) : ∃ (x : Nat) (rest : List Value), st = .ref x :: rest ∧ i < nL ∧ r = (pc + n, sx_set lv i (.ref x), rest, w, 0, 0) := by
  unfold sx_ast at h
  split at h
  · rename_i x rest
    by_cases hi : i < nL
    · rw [if_pos hi] at h; cases h; exact ⟨x, rest, rfl, hi, rfl⟩
    · rw [if_neg hi] at h; cases h
  · cases h
theorem sx_iinc_inv {pc nL : Nat} {lv : sx_L} {st : List Value} {w : sx_W} {i : Nat} {n : Int} {r : sx_R} (h : sx_iinc pc nL lv st w i n = some r) : ∃ x : Int32, sx_get lv i = some (.int x) ∧ i < nL ∧ r = (pc + 3, sx_set lv i (.int (x + Int32.ofInt n)), st, w, 0, 0) := by
  unfold sx_iinc at h
  split at h
  · rename_i x hx
    by_cases hi : i < nL
    · rw [if_pos hi] at h; cases h; exact ⟨x, hx, hi, rfl⟩
    · rw [if_neg hi] at h; cases h
  · cases h
theorem sx_ix_inv {i : Int32} {n j : Nat} (h : sx_ix i n = some j) : vp_in i n ∧ i.toNatClampNeg = j ∧ j < n := by
  unfold sx_ix at h
  by_cases hi : i < 0 ∨ n ≤ i.toNatClampNeg
  · rw [if_pos hi] at h; cases h
  · rw [if_neg hi] at h; cases h
    exact ⟨hi, rfl, Nat.not_le.mp fun q => hi (Or.inr q)⟩
/-- an object of the world, as the kit's rows have it -/
theorem sx_obj {w : sx_W} {H : Heap} (hH : sx_H P D cA N0 b w H) {a ci : Nat} {fs : List Value} (ha : w[a]? = some (ci, fs)) (hci : ci < 100) : va_P D P.2.1 [(N0 + a, .inr (ci, fs.map (sx_sh N0 b)))] H := by
  intro k q hk
  have h1 := hH.2 a _ ha
  unfold sx_e at h1
  rw [if_pos hci] at h1
  match k, hk with
  | 0, hk => cases hk; exact h1
theorem sx_vec {w : sx_W} {H : Heap} (hH : sx_H P D cA N0 b w H) {a t : Nat} {vs : List Value} (ha : w[a]? = some (100 + t, vs)) : va_P D P.2.1 [(N0 + a, .inl (cA t, sx_arr vs))] H := by
  intro k q hk
  have h1 := hH.2 a _ ha
  unfold sx_e at h1
  rw [if_neg (by show ¬ 100 + t < 100; omega)] at h1
  match k, hk with
  | 0, hk =>
    cases hk
    have e : 100 + t - 100 = t := by omega
    have h2 : va_at D P.2.1 (N0 + a, .inl (cA (100 + t - 100), sx_arr vs)) H := h1
    rw [e] at h2
    exact h2
end SXG
