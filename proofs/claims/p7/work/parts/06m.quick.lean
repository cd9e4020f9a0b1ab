/-! what is asked of an instruction, quick for the kernel (printed by wip/base/quick.py) -/
noncomputable def sx_isCallQ (E : sx_E) : Bool := Instr.rec (motive := fun _ => Nat → Bool)
  (fun _ => false)
  (fun _ => false)
  (fun _ => false)
  (fun _ _ => false)
  (fun _ _ => false)
  (fun _ _ => false)
  (fun _ => false)
  (fun _ => false)
  (fun _ _ => false)
  (fun _ _ => false)
  (fun _ => false)
  (fun _ => false)
  (fun _ => false)
  (fun _ _ => false)
  (fun _ => false)
  (fun _ => false)
  (fun _ _ => false)
  (fun _ => false)
  (fun _ => false)
  (fun _ => false)
  (fun _ => false)
  (fun _ => false)
  (fun _ => false)
  (fun _ _ => false)
  (fun _ _ => false)
  (fun _ => false)
  (fun _ _ => false)
  (fun _ _ => false)
  (fun _ => false)
  (fun _ => false)
  (fun _ => false)
  (fun _ => false)
  (fun _ _ => false)
  (fun _ _ => false)
  (fun _ => false)
  (fun _ => false)
  (fun _ => false)
  (fun _ => false)
  (fun _ => false)
  (fun _ => false)
  (fun _ => false)
  (fun _ => false)
  (fun _ => false)
  (fun _ => false)
  (fun _ => false)
  (fun _ => false)
  (fun _ => false)
  (fun _ _ => false)
  (fun _ _ => false)
  (fun _ => false)
  (fun _ _ => false)
  (fun _ _ => false)
  (fun _ => false)
  (fun _ => false)
  (fun _ => false)
  (fun _ => false)
  (fun _ _ => false)
  (fun _ _ => false)
  (fun _ => false)
  (fun _ _ => false)
  (fun _ _ => false)
  (fun _ _ => false)
  (fun _ _ => false)
  (fun _ => false)
  (fun _ => false)
  (fun _ => false)
  (fun _ => false)
  (fun _ => false)
  (fun _ => false)
  (fun _ => false)
  (fun _ => false)
  (fun _ => false)
  (fun _ => false)
  (fun _ _ => false)
  (fun _ => false)
  (fun _ _ _ => false)
  (fun _ _ _ => false)
  (fun _ _ _ => false)
  (fun _ _ => false)
  (fun _ _ => false)
  (fun _ _ _ => false)
  (fun _ _ => false)
  (fun _ _ => false)
  (fun _ => false)
  (fun _ => false)
  (fun _ _ => false)
  (fun _ _ => false)
  (fun _ _ _ => false)
  (fun _ a => decide (a < 1000))
  (fun _ a => decide (a < 1000))
  (fun _ a => decide (a < 1000))
  (fun _ => false)
  (fun _ => false)
  (fun _ => false)
  (fun _ => false)
  (fun _ => false)
  (fun _ _ => false)
  (fun _ _ => false)
  (fun _ => false)
  (fun _ => false)
  (fun _ => false)
  (fun _ _ => false)
  (fun _ _ => false)
  (fun _ => false)
  (fun _ => false)
  (fun _ => false)
  (fun _ => false)
  (fun _ => false)
  (fun _ => false)
  (fun _ => false)
  (fun _ => false)
  (fun _ _ => false)
  (fun _ _ => false)
  (fun _ _ => false)
  (fun _ _ => false)
  (fun _ => false)
  (fun _ _ => false)
  (fun _ _ => false)
  (fun _ => false)
  (fun _ => false)
  (fun _ _ _ => false)
  (fun _ => false)
  (fun _ => false)
  (fun _ => false)
  (fun _ => false)
  (fun _ => false)
  (fun _ _ => false)
  (fun _ _ => false)
  (fun _ => false)
  (fun _ => false)
  (fun _ => false)
  (fun _ => false)
  (fun _ => false)
  (fun _ _ _ => false)
  (fun _ _ => false)
  (fun _ _ => false)
  (fun _ => false)
  (fun _ => false)
  (fun _ => false)
  (fun _ _ => false)
  (fun _ _ => false)
  (fun _ _ => false)
  (fun _ => false)
  (fun _ => false)
  (fun _ => false)
  (fun _ _ => false)
  (fun _ => false)
  (fun _ _ _ _ _ => false)
  E.2.1 E.2.2.2.1
theorem sx_isCallQ_fn : sx_isCallQ = sx_isCall := by
  funext E
  obtain ⟨pc, I, len, a, k, q, z⟩ := E
  cases I <;> rfl
noncomputable def iCd (I : Instr) : Option (Nat × Int × Int) := Instr.rec (motive := fun _ => Option (Nat × Int × Int))
  (none)
  (none)
  (none)
  (fun v => some (25, (v : Int), 0))
  (fun k => some (42, (k.val : Int), 0))
  (fun _ => none)
  (some (176, 0, 0))
  (some (190, 0, 0))
  (fun v => some (58, (v : Int), 0))
  (fun k => some (75, (k.val : Int), 0))
  (none)
  (some (51, 0, 0))
  (some (84, 0, 0))
  (fun v => some (16, v, 0))
  (none)
  (none)
  (fun _ => none)
  (none)
  (none)
  (none)
  (none)
  (none)
  (none)
  (fun _ => none)
  (fun _ => none)
  (none)
  (fun _ => none)
  (fun _ => none)
  (none)
  (none)
  (none)
  (none)
  (fun _ => none)
  (fun _ => none)
  (none)
  (some (89, 0, 0))
  (some (90, 0, 0))
  (none)
  (some (92, 0, 0))
  (none)
  (none)
  (none)
  (none)
  (none)
  (none)
  (none)
  (none)
  (fun _ => none)
  (fun _ => none)
  (none)
  (fun _ => none)
  (fun _ => none)
  (none)
  (none)
  (none)
  (none)
  (fun _ => none)
  (fun _ => none)
  (none)
  (fun v => some (180, (v : Int), 0))
  (fun _ => none)
  (fun v => some (167, v, 0))
  (fun _ => none)
  (some (145, 0, 0))
  (none)
  (none)
  (none)
  (some (133, 0, 0))
  (none)
  (some (96, 0, 0))
  (some (46, 0, 0))
  (some (126, 0, 0))
  (some (79, 0, 0))
  (fun v => some (3, v, 0))
  (some (108, 0, 0))
  (fun _ _ => none)
  (fun c v => some (159, (fcx c : Int), v))
  (fun c v => some (153, (fcx c : Int), v))
  (fun _ => none)
  (fun _ => none)
  (fun i v => some (132, (i : Int), v))
  (fun v => some (21, (v : Int), 0))
  (fun k => some (26, (k.val : Int), 0))
  (some (104, 0, 0))
  (some (116, 0, 0))
  (fun _ => none)
  (fun _ => none)
  (fun _ _ => none)
  (fun v => some (183, (v : Int), 0))
  (fun v => some (184, (v : Int), 0))
  (fun v => some (182, (v : Int), 0))
  (some (128, 0, 0))
  (some (112, 0, 0))
  (some (172, 0, 0))
  (some (120, 0, 0))
  (some (122, 0, 0))
  (fun v => some (54, (v : Int), 0))
  (fun k => some (59, (k.val : Int), 0))
  (some (100, 0, 0))
  (some (124, 0, 0))
  (some (130, 0, 0))
  (fun _ => none)
  (fun _ => none)
  (none)
  (none)
  (some (136, 0, 0))
  (some (97, 0, 0))
  (none)
  (some (127, 0, 0))
  (none)
  (some (148, 0, 0))
  (fun k => some (9, (k.val : Int), 0))
  (fun v => some (18, (v : Int), 0))
  (fun v => some (19, (v : Int), 0))
  (fun v => some (20, (v : Int), 0))
  (none)
  (fun v => some (22, (v : Int), 0))
  (fun k => some (30, (k.val : Int), 0))
  (some (105, 0, 0))
  (none)
  (fun _ _ => none)
  (some (129, 0, 0))
  (none)
  (some (173, 0, 0))
  (some (121, 0, 0))
  (none)
  (fun v => some (55, (v : Int), 0))
  (fun k => some (63, (k.val : Int), 0))
  (some (101, 0, 0))
  (some (125, 0, 0))
  (some (131, 0, 0))
  (none)
  (none)
  (fun _ _ => none)
  (fun v => some (187, (v : Int), 0))
  (fun _ => none)
  (none)
  (some (87, 0, 0))
  (some (88, 0, 0))
  (fun v => some (181, (v : Int), 0))
  (fun _ => none)
  (fun _ => none)
  (some (177, 0, 0))
  (none)
  (none)
  (fun v => some (17, v, 0))
  (none)
  (fun _ _ _ _ => none)
  I
def iDc (x : Nat × Int × Int) : Option Instr := match x with
  | (46, _, _) => some .iaload
  | (51, _, _) => some .baload
  | (79, _, _) => some .iastore
  | (84, _, _) => some .bastore
  | (87, _, _) => some .pop
  | (88, _, _) => some .pop2
  | (89, _, _) => some .dup
  | (90, _, _) => some .dup_x1
  | (92, _, _) => some .dup2
  | (96, _, _) => some .iadd
  | (97, _, _) => some .ladd
  | (100, _, _) => some .isub
  | (101, _, _) => some .lsub
  | (104, _, _) => some .imul
  | (105, _, _) => some .lmul
  | (108, _, _) => some .idiv
  | (112, _, _) => some .irem
  | (116, _, _) => some .ineg
  | (120, _, _) => some .ishl
  | (121, _, _) => some .lshl
  | (122, _, _) => some .ishr
  | (124, _, _) => some .iushr
  | (125, _, _) => some .lushr
  | (126, _, _) => some .iand
  | (127, _, _) => some .land
  | (128, _, _) => some .ior
  | (129, _, _) => some .lor
  | (130, _, _) => some .ixor
  | (131, _, _) => some .lxor
  | (133, _, _) => some .i2l
  | (136, _, _) => some .l2i
  | (145, _, _) => some .i2b
  | (148, _, _) => some .lcmp
  | (172, _, _) => some .ireturn
  | (173, _, _) => some .lreturn
  | (176, _, _) => some .areturn
  | (177, _, _) => some .return_
  | (190, _, _) => some .arraylength
  | (26, k, _) => (match k.toNat with
    | 0 => some (.iload_n 0)
    | 1 => some (.iload_n 1)
    | 2 => some (.iload_n 2)
    | 3 => some (.iload_n 3)
    | _ => none)
  | (30, k, _) => (match k.toNat with
    | 0 => some (.lload_n 0)
    | 1 => some (.lload_n 1)
    | 2 => some (.lload_n 2)
    | 3 => some (.lload_n 3)
    | _ => none)
  | (42, k, _) => (match k.toNat with
    | 0 => some (.aload_n 0)
    | 1 => some (.aload_n 1)
    | 2 => some (.aload_n 2)
    | 3 => some (.aload_n 3)
    | _ => none)
  | (59, k, _) => (match k.toNat with
    | 0 => some (.istore_n 0)
    | 1 => some (.istore_n 1)
    | 2 => some (.istore_n 2)
    | 3 => some (.istore_n 3)
    | _ => none)
  | (63, k, _) => (match k.toNat with
    | 0 => some (.lstore_n 0)
    | 1 => some (.lstore_n 1)
    | 2 => some (.lstore_n 2)
    | 3 => some (.lstore_n 3)
    | _ => none)
  | (75, k, _) => (match k.toNat with
    | 0 => some (.astore_n 0)
    | 1 => some (.astore_n 1)
    | 2 => some (.astore_n 2)
    | 3 => some (.astore_n 3)
    | _ => none)
  | (9, k, _) => (match k.toNat with
    | 0 => some (.lconst 0)
    | 1 => some (.lconst 1)
    | _ => none)
  | (18, v, _) => some (.ldc v.toNat)
  | (21, v, _) => some (.iload v.toNat)
  | (22, v, _) => some (.lload v.toNat)
  | (25, v, _) => some (.aload v.toNat)
  | (54, v, _) => some (.istore v.toNat)
  | (55, v, _) => some (.lstore v.toNat)
  | (58, v, _) => some (.astore v.toNat)
  | (19, v, _) => some (.ldc_w v.toNat)
  | (20, v, _) => some (.ldc2_w v.toNat)
  | (180, v, _) => some (.getfield v.toNat)
  | (181, v, _) => some (.putfield v.toNat)
  | (182, v, _) => some (.invokevirtual v.toNat)
  | (183, v, _) => some (.invokespecial v.toNat)
  | (184, v, _) => some (.invokestatic v.toNat)
  | (187, v, _) => some (.new v.toNat)
  | (3, v, _) => some (.iconst v)
  | (16, v, _) => some (.bipush v)
  | (17, v, _) => some (.sipush v)
  | (167, v, _) => some (.goto v)
  | (132, i, v) => some (.iinc i.toNat v)
  | (153, c, v) => (match c.toNat with
    | 0 => some (.ifCond .eq v)
    | 1 => some (.ifCond .ne v)
    | 2 => some (.ifCond .lt v)
    | 3 => some (.ifCond .ge v)
    | 4 => some (.ifCond .gt v)
    | 5 => some (.ifCond .le v)
    | _ => none)
  | (159, c, v) => (match c.toNat with
    | 0 => some (.if_icmp .eq v)
    | 1 => some (.if_icmp .ne v)
    | 2 => some (.if_icmp .lt v)
    | 3 => some (.if_icmp .ge v)
    | 4 => some (.if_icmp .gt v)
    | 5 => some (.if_icmp .le v)
    | _ => none)
  | _ => none
theorem iDc_ok {I : Instr} {x : Nat × Int × Int} (h : iCd I = some x) : iDc x = some I := by
  cases I with
  | iaload =>
    have h : some (46, 0, 0) = some x := h
    cases h
    rfl
  | baload =>
    have h : some (51, 0, 0) = some x := h
    cases h
    rfl
  | iastore =>
    have h : some (79, 0, 0) = some x := h
    cases h
    rfl
  | bastore =>
    have h : some (84, 0, 0) = some x := h
    cases h
    rfl
  | pop =>
    have h : some (87, 0, 0) = some x := h
    cases h
    rfl
  | pop2 =>
    have h : some (88, 0, 0) = some x := h
    cases h
    rfl
  | dup =>
    have h : some (89, 0, 0) = some x := h
    cases h
    rfl
  | dup_x1 =>
    have h : some (90, 0, 0) = some x := h
    cases h
    rfl
  | dup2 =>
    have h : some (92, 0, 0) = some x := h
    cases h
    rfl
  | iadd =>
    have h : some (96, 0, 0) = some x := h
    cases h
    rfl
  | ladd =>
    have h : some (97, 0, 0) = some x := h
    cases h
    rfl
  | isub =>
    have h : some (100, 0, 0) = some x := h
    cases h
    rfl
  | lsub =>
    have h : some (101, 0, 0) = some x := h
    cases h
    rfl
  | imul =>
    have h : some (104, 0, 0) = some x := h
    cases h
    rfl
  | lmul =>
    have h : some (105, 0, 0) = some x := h
    cases h
    rfl
  | idiv =>
    have h : some (108, 0, 0) = some x := h
    cases h
    rfl
  | irem =>
    have h : some (112, 0, 0) = some x := h
    cases h
    rfl
  | ineg =>
    have h : some (116, 0, 0) = some x := h
    cases h
    rfl
  | ishl =>
    have h : some (120, 0, 0) = some x := h
    cases h
    rfl
  | lshl =>
    have h : some (121, 0, 0) = some x := h
    cases h
    rfl
  | ishr =>
    have h : some (122, 0, 0) = some x := h
    cases h
    rfl
  | iushr =>
    have h : some (124, 0, 0) = some x := h
    cases h
    rfl
  | lushr =>
    have h : some (125, 0, 0) = some x := h
    cases h
    rfl
  | iand =>
    have h : some (126, 0, 0) = some x := h
    cases h
    rfl
  | land =>
    have h : some (127, 0, 0) = some x := h
    cases h
    rfl
  | ior =>
    have h : some (128, 0, 0) = some x := h
    cases h
    rfl
  | lor =>
    have h : some (129, 0, 0) = some x := h
    cases h
    rfl
  | ixor =>
    have h : some (130, 0, 0) = some x := h
    cases h
    rfl
  | lxor =>
    have h : some (131, 0, 0) = some x := h
    cases h
    rfl
  | i2l =>
    have h : some (133, 0, 0) = some x := h
    cases h
    rfl
  | l2i =>
    have h : some (136, 0, 0) = some x := h
    cases h
    rfl
  | i2b =>
    have h : some (145, 0, 0) = some x := h
    cases h
    rfl
  | lcmp =>
    have h : some (148, 0, 0) = some x := h
    cases h
    rfl
  | ireturn =>
    have h : some (172, 0, 0) = some x := h
    cases h
    rfl
  | lreturn =>
    have h : some (173, 0, 0) = some x := h
    cases h
    rfl
  | areturn =>
    have h : some (176, 0, 0) = some x := h
    cases h
    rfl
  | return_ =>
    have h : some (177, 0, 0) = some x := h
    cases h
    rfl
  | arraylength =>
    have h : some (190, 0, 0) = some x := h
    cases h
    rfl
  | iload_n k =>
    have h : some (26, (k.val : Int), 0) = some x := h
    cases h
    obtain ⟨k, hk⟩ := k
    match k, hk with
    | 0, _ => rfl
    | 1, _ => rfl
    | 2, _ => rfl
    | 3, _ => rfl
    | k + 4, hk => exact absurd hk (by omega)
  | lload_n k =>
    have h : some (30, (k.val : Int), 0) = some x := h
    cases h
    obtain ⟨k, hk⟩ := k
    match k, hk with
    | 0, _ => rfl
    | 1, _ => rfl
    | 2, _ => rfl
    | 3, _ => rfl
    | k + 4, hk => exact absurd hk (by omega)
  | aload_n k =>
    have h : some (42, (k.val : Int), 0) = some x := h
    cases h
    obtain ⟨k, hk⟩ := k
    match k, hk with
    | 0, _ => rfl
    | 1, _ => rfl
    | 2, _ => rfl
    | 3, _ => rfl
    | k + 4, hk => exact absurd hk (by omega)
  | istore_n k =>
    have h : some (59, (k.val : Int), 0) = some x := h
    cases h
    obtain ⟨k, hk⟩ := k
    match k, hk with
    | 0, _ => rfl
    | 1, _ => rfl
    | 2, _ => rfl
    | 3, _ => rfl
    | k + 4, hk => exact absurd hk (by omega)
  | lstore_n k =>
    have h : some (63, (k.val : Int), 0) = some x := h
    cases h
    obtain ⟨k, hk⟩ := k
    match k, hk with
    | 0, _ => rfl
    | 1, _ => rfl
    | 2, _ => rfl
    | 3, _ => rfl
    | k + 4, hk => exact absurd hk (by omega)
  | astore_n k =>
    have h : some (75, (k.val : Int), 0) = some x := h
    cases h
    obtain ⟨k, hk⟩ := k
    match k, hk with
    | 0, _ => rfl
    | 1, _ => rfl
    | 2, _ => rfl
    | 3, _ => rfl
    | k + 4, hk => exact absurd hk (by omega)
  | lconst k =>
    have h : some (9, (k.val : Int), 0) = some x := h
    cases h
    obtain ⟨k, hk⟩ := k
    match k, hk with
    | 0, _ => rfl
    | 1, _ => rfl
    | k + 2, hk => exact absurd hk (by omega)
  | ldc v =>
    have h : some (18, (v : Int), 0) = some x := h
    cases h
    rfl
  | iload v =>
    have h : some (21, (v : Int), 0) = some x := h
    cases h
    rfl
  | lload v =>
    have h : some (22, (v : Int), 0) = some x := h
    cases h
    rfl
  | aload v =>
    have h : some (25, (v : Int), 0) = some x := h
    cases h
    rfl
  | istore v =>
    have h : some (54, (v : Int), 0) = some x := h
    cases h
    rfl
  | lstore v =>
    have h : some (55, (v : Int), 0) = some x := h
    cases h
    rfl
  | astore v =>
    have h : some (58, (v : Int), 0) = some x := h
    cases h
    rfl
  | ldc_w v =>
    have h : some (19, (v : Int), 0) = some x := h
    cases h
    rfl
  | ldc2_w v =>
    have h : some (20, (v : Int), 0) = some x := h
    cases h
    rfl
  | getfield v =>
    have h : some (180, (v : Int), 0) = some x := h
    cases h
    rfl
  | putfield v =>
    have h : some (181, (v : Int), 0) = some x := h
    cases h
    rfl
  | invokevirtual v =>
    have h : some (182, (v : Int), 0) = some x := h
    cases h
    rfl
  | invokespecial v =>
    have h : some (183, (v : Int), 0) = some x := h
    cases h
    rfl
  | invokestatic v =>
    have h : some (184, (v : Int), 0) = some x := h
    cases h
    rfl
  | new v =>
    have h : some (187, (v : Int), 0) = some x := h
    cases h
    rfl
  | iconst v =>
    have h : some (3, v, 0) = some x := h
    cases h
    rfl
  | bipush v =>
    have h : some (16, v, 0) = some x := h
    cases h
    rfl
  | sipush v =>
    have h : some (17, v, 0) = some x := h
    cases h
    rfl
  | goto v =>
    have h : some (167, v, 0) = some x := h
    cases h
    rfl
  | iinc i v =>
    have h : some (132, (i : Int), v) = some x := h
    cases h
    rfl
  | ifCond c v =>
    have h : some (153, (fcx c : Int), v) = some x := h
    cases h
    cases c <;> rfl
  | if_icmp c v =>
    have h : some (159, (fcx c : Int), v) = some x := h
    cases h
    cases c <;> rfl
  | _ =>
    have h : none = some x := h
    cases h
def iEqR (x y : Nat × Int × Int) : Bool := Nat.beq x.1 y.1 && (decide (x.2.1 = y.2.1) && decide (x.2.2 = y.2.2))
noncomputable def iEqQ (I J : Instr) : Bool := match iCd I, iCd J with
  | some x, some y => iEqR x y
  | _, _ => false
theorem iEqQ_ok {I J : Instr} (h : iEqQ I J = true) : I = J := by
  unfold iEqQ at h
  split at h
  · rename_i x y hx hy
    unfold iEqR at h
    rw [Bool.and_eq_true, Bool.and_eq_true, decide_eq_true_eq, decide_eq_true_eq] at h
    have e : x = y := Prod.ext (Nat.eq_of_beq_eq_true h.1) (Prod.ext h.2.1 h.2.2)
    rw [e] at hx
    exact Option.some.inj ((iDc_ok hx).symm.trans (iDc_ok hy))
  · cases h
