/-! code read byte by byte: a quick check that rows are decoded so (printed by wip/gen/fdecgen.py) -/
theorem fd_u1 {code : ByteArray} {p : Nat} {b : UInt8} {t : List UInt8} (h : code.data.toList.drop p = b :: t) : Jvm.ClassFile.Reader.u1 (ε := Jvm.ClassFile.DecodeError) code p = .ok (b.toNat, p + 1) := by
  have hl : p < code.size := by
    have h1 : (code.data.toList.drop p).length = t.length + 1 := by rw [h]; rfl
    rw [List.length_drop, Array.length_toList] at h1
    show p < code.data.size
    omega
  have h2 : code.data.toList[p]? = some b := by
    rw [← List.head?_drop, h]
    rfl
  obtain ⟨hp, e⟩ := List.getElem?_eq_some_iff.mp h2
  have e2 : code[p]'hl = b := e
  show (dite (p < code.size) _ _ : Jvm.ClassFile.Reader Jvm.ClassFile.DecodeError Nat) code p = _
  rw [dif_pos hl]
  show Except.ok ((code[p]'hl).toNat, p + 1) = _
  rw [e2]
theorem fd_dr {l t : List UInt8} {p : Nat} {b : UInt8} (h : l.drop p = b :: t) : l.drop (p + 1) = t := by
  have h1 := congrArg List.tail h
  rw [List.tail_drop] at h1
  exact h1
theorem fd_u2 {code : ByteArray} {p : Nat} {b c : UInt8} {t : List UInt8} (h : code.data.toList.drop p = b :: c :: t) : Jvm.ClassFile.Reader.u2 (ε := Jvm.ClassFile.DecodeError) code p = .ok (b.toNat * 256 + c.toNat, p + 2) := by
  show Except.bind (Jvm.ClassFile.Reader.u1 (ε := Jvm.ClassFile.DecodeError) code p) _ = _
  rw [fd_u1 h]
  show Except.bind (Jvm.ClassFile.Reader.u1 (ε := Jvm.ClassFile.DecodeError) code (p + 1)) _ = _
  rw [fd_u1 (fd_dr h)]
  rfl
theorem fd_s1 {code : ByteArray} {p : Nat} {b : UInt8} {t : List UInt8} (h : code.data.toList.drop p = b :: t) : Jvm.ClassFile.Reader.s1 (ε := Jvm.ClassFile.DecodeError) code p = .ok (Jvm.ClassFile.Reader.signed 8 b.toNat, p + 1) := by
  show Except.bind (Jvm.ClassFile.Reader.u1 (ε := Jvm.ClassFile.DecodeError) code p) _ = _
  rw [fd_u1 h]
  rfl
theorem fd_s2 {code : ByteArray} {p : Nat} {b c : UInt8} {t : List UInt8} (h : code.data.toList.drop p = b :: c :: t) : Jvm.ClassFile.Reader.s2 (ε := Jvm.ClassFile.DecodeError) code p = .ok (Jvm.ClassFile.Reader.signed 16 (b.toNat * 256 + c.toNat), p + 2) := by
  show Except.bind (Jvm.ClassFile.Reader.u2 (ε := Jvm.ClassFile.DecodeError) code p) _ = _
  rw [fd_u2 h]
  rfl
theorem fd_of {code : ByteArray} {p n : Nat} {I : Instr} (h : Jvm.ClassFile.Decoder.instr p code p = .ok (I, p + n)) : decode code p = .ok (I, n) := by
  show Except.bind (Jvm.ClassFile.Decoder.instr p code p) _ = _
  rw [h]
  show Except.ok (I, p + n - p) = _
  rw [Nat.add_sub_cancel_left]
def f1 (o : Nat) (l : List UInt8) (n : Nat) : Bool := match l with
  | b :: _ => Nat.beq b.toNat o && Nat.beq n 1
  | [] => false
def f2 (o v : Nat) (l : List UInt8) (n : Nat) : Bool := match l with
  | b :: c :: _ => Nat.beq b.toNat o && (Nat.beq c.toNat v && Nat.beq n 2)
  | _ => false
def f2s (o : Nat) (v : Int) (l : List UInt8) (n : Nat) : Bool := match l with
  | b :: c :: _ => Nat.beq b.toNat o && (decide (Jvm.ClassFile.Reader.signed 8 c.toNat = v) && Nat.beq n 2)
  | _ => false
def f3 (o v : Nat) (l : List UInt8) (n : Nat) : Bool := match l with
  | b :: c :: d :: _ => Nat.beq b.toNat o && (Nat.beq (c.toNat * 256 + d.toNat) v && Nat.beq n 3)
  | _ => false
def f3s (o : Nat) (v : Int) (l : List UInt8) (n : Nat) : Bool := match l with
  | b :: c :: d :: _ => Nat.beq b.toNat o && (decide (Jvm.ClassFile.Reader.signed 16 (c.toNat * 256 + d.toNat) = v) && Nat.beq n 3)
  | _ => false
def f3i (o i : Nat) (v : Int) (l : List UInt8) (n : Nat) : Bool := match l with
  | b :: c :: d :: _ => Nat.beq b.toNat o && (Nat.beq c.toNat i && (decide (Jvm.ClassFile.Reader.signed 8 d.toNat = v) && Nat.beq n 3))
  | _ => false
section FD
variable {code : ByteArray} {p n o : Nat} {l : List UInt8}
theorem f1_ok {I : Instr} (h : f1 o l n = true) (hd : code.data.toList.drop p = l) (H : Jvm.ClassFile.Reader.u1 (ε := Jvm.ClassFile.DecodeError) code p = .ok (o, p + 1) → Jvm.ClassFile.Decoder.instr p code p = .ok (I, p + 1)) : decode code p = .ok (I, n) := by
  unfold f1 at h
  split at h
  · rename_i b t
    rw [Bool.and_eq_true] at h
    have e := Nat.eq_of_beq_eq_true h.1
    have en := Nat.eq_of_beq_eq_true h.2
    have k := fd_u1 hd
    rw [e] at k
    rw [en]
    exact fd_of (H k)
  · cases h
theorem f2_ok {v : Nat} {I : Instr} (h : f2 o v l n = true) (hd : code.data.toList.drop p = l) (H : Jvm.ClassFile.Reader.u1 (ε := Jvm.ClassFile.DecodeError) code p = .ok (o, p + 1) → Jvm.ClassFile.Reader.u1 (ε := Jvm.ClassFile.DecodeError) code (p + 1) = .ok (v, p + 2) → Jvm.ClassFile.Decoder.instr p code p = .ok (I, p + 2)) : decode code p = .ok (I, n) := by
  unfold f2 at h
  split at h
  · rename_i b c t
    rw [Bool.and_eq_true, Bool.and_eq_true] at h
    have e := Nat.eq_of_beq_eq_true h.1
    have ev := Nat.eq_of_beq_eq_true h.2.1
    have en := Nat.eq_of_beq_eq_true h.2.2
    have k := fd_u1 hd
    have k2 := fd_u1 (fd_dr hd)
    rw [e] at k
    rw [ev] at k2
    rw [en]
    exact fd_of (H k k2)
  · cases h
theorem f2s_ok {v : Int} {I : Instr} (h : f2s o v l n = true) (hd : code.data.toList.drop p = l) (H : Jvm.ClassFile.Reader.u1 (ε := Jvm.ClassFile.DecodeError) code p = .ok (o, p + 1) → Jvm.ClassFile.Reader.s1 (ε := Jvm.ClassFile.DecodeError) code (p + 1) = .ok (v, p + 2) → Jvm.ClassFile.Decoder.instr p code p = .ok (I, p + 2)) : decode code p = .ok (I, n) := by
  unfold f2s at h
  split at h
  · rename_i b c t
    rw [Bool.and_eq_true, Bool.and_eq_true] at h
    have e := Nat.eq_of_beq_eq_true h.1
    have ev := of_decide_eq_true h.2.1
    have en := Nat.eq_of_beq_eq_true h.2.2
    have k := fd_u1 hd
    have k2 := fd_s1 (fd_dr hd)
    rw [e] at k
    rw [ev] at k2
    rw [en]
    exact fd_of (H k k2)
  · cases h
theorem f3_ok {v : Nat} {I : Instr} (h : f3 o v l n = true) (hd : code.data.toList.drop p = l) (H : Jvm.ClassFile.Reader.u1 (ε := Jvm.ClassFile.DecodeError) code p = .ok (o, p + 1) → Jvm.ClassFile.Reader.u2 (ε := Jvm.ClassFile.DecodeError) code (p + 1) = .ok (v, p + 3) → Jvm.ClassFile.Decoder.instr p code p = .ok (I, p + 3)) : decode code p = .ok (I, n) := by
  unfold f3 at h
  split at h
  · rename_i b c d t
    rw [Bool.and_eq_true, Bool.and_eq_true] at h
    have e := Nat.eq_of_beq_eq_true h.1
    have ev := Nat.eq_of_beq_eq_true h.2.1
    have en := Nat.eq_of_beq_eq_true h.2.2
    have k := fd_u1 hd
    have k2 := fd_u2 (fd_dr hd)
    rw [e] at k
    rw [ev] at k2
    rw [en]
    exact fd_of (H k k2)
  · cases h
theorem f3s_ok {v : Int} {I : Instr} (h : f3s o v l n = true) (hd : code.data.toList.drop p = l) (H : Jvm.ClassFile.Reader.u1 (ε := Jvm.ClassFile.DecodeError) code p = .ok (o, p + 1) → Jvm.ClassFile.Reader.s2 (ε := Jvm.ClassFile.DecodeError) code (p + 1) = .ok (v, p + 3) → Jvm.ClassFile.Decoder.instr p code p = .ok (I, p + 3)) : decode code p = .ok (I, n) := by
  unfold f3s at h
  split at h
  · rename_i b c d t
    rw [Bool.and_eq_true, Bool.and_eq_true] at h
    have e := Nat.eq_of_beq_eq_true h.1
    have ev := of_decide_eq_true h.2.1
    have en := Nat.eq_of_beq_eq_true h.2.2
    have k := fd_u1 hd
    have k2 := fd_s2 (fd_dr hd)
    rw [e] at k
    rw [ev] at k2
    rw [en]
    exact fd_of (H k k2)
  · cases h
theorem f3i_ok {i : Nat} {v : Int} {I : Instr} (h : f3i o i v l n = true) (hd : code.data.toList.drop p = l) (H : Jvm.ClassFile.Reader.u1 (ε := Jvm.ClassFile.DecodeError) code p = .ok (o, p + 1) → Jvm.ClassFile.Reader.u1 (ε := Jvm.ClassFile.DecodeError) code (p + 1) = .ok (i, p + 2) → Jvm.ClassFile.Reader.s1 (ε := Jvm.ClassFile.DecodeError) code (p + 2) = .ok (v, p + 3) → Jvm.ClassFile.Decoder.instr p code p = .ok (I, p + 3)) : decode code p = .ok (I, n) := by
  unfold f3i at h
  split at h
  · rename_i b c d t
    rw [Bool.and_eq_true, Bool.and_eq_true, Bool.and_eq_true] at h
    have e := Nat.eq_of_beq_eq_true h.1
    have ei := Nat.eq_of_beq_eq_true h.2.1
    have ev := of_decide_eq_true h.2.2.1
    have en := Nat.eq_of_beq_eq_true h.2.2.2
    have k := fd_u1 hd
    have k2 := fd_u1 (fd_dr hd)
    have k3 := fd_s1 (fd_dr (fd_dr hd))
    rw [e] at k
    rw [ei] at k2
    rw [ev] at k3
    rw [en]
    exact fd_of (H k k2 k3)
  · cases h
theorem fo_iaload (h : Jvm.ClassFile.Reader.u1 (ε := Jvm.ClassFile.DecodeError) code p = .ok (46, p + 1)) : Jvm.ClassFile.Decoder.instr p code p = .ok (.iaload, p + 1) := by
  show Except.bind (Jvm.ClassFile.Reader.u1 (ε := Jvm.ClassFile.DecodeError) code p) _ = _
  rw [h]
  rfl
theorem fo_baload (h : Jvm.ClassFile.Reader.u1 (ε := Jvm.ClassFile.DecodeError) code p = .ok (51, p + 1)) : Jvm.ClassFile.Decoder.instr p code p = .ok (.baload, p + 1) := by
  show Except.bind (Jvm.ClassFile.Reader.u1 (ε := Jvm.ClassFile.DecodeError) code p) _ = _
  rw [h]
  rfl
theorem fo_iastore (h : Jvm.ClassFile.Reader.u1 (ε := Jvm.ClassFile.DecodeError) code p = .ok (79, p + 1)) : Jvm.ClassFile.Decoder.instr p code p = .ok (.iastore, p + 1) := by
  show Except.bind (Jvm.ClassFile.Reader.u1 (ε := Jvm.ClassFile.DecodeError) code p) _ = _
  rw [h]
  rfl
theorem fo_bastore (h : Jvm.ClassFile.Reader.u1 (ε := Jvm.ClassFile.DecodeError) code p = .ok (84, p + 1)) : Jvm.ClassFile.Decoder.instr p code p = .ok (.bastore, p + 1) := by
  show Except.bind (Jvm.ClassFile.Reader.u1 (ε := Jvm.ClassFile.DecodeError) code p) _ = _
  rw [h]
  rfl
theorem fo_pop (h : Jvm.ClassFile.Reader.u1 (ε := Jvm.ClassFile.DecodeError) code p = .ok (87, p + 1)) : Jvm.ClassFile.Decoder.instr p code p = .ok (.pop, p + 1) := by
  show Except.bind (Jvm.ClassFile.Reader.u1 (ε := Jvm.ClassFile.DecodeError) code p) _ = _
  rw [h]
  rfl
theorem fo_pop2 (h : Jvm.ClassFile.Reader.u1 (ε := Jvm.ClassFile.DecodeError) code p = .ok (88, p + 1)) : Jvm.ClassFile.Decoder.instr p code p = .ok (.pop2, p + 1) := by
  show Except.bind (Jvm.ClassFile.Reader.u1 (ε := Jvm.ClassFile.DecodeError) code p) _ = _
  rw [h]
  rfl
theorem fo_dup (h : Jvm.ClassFile.Reader.u1 (ε := Jvm.ClassFile.DecodeError) code p = .ok (89, p + 1)) : Jvm.ClassFile.Decoder.instr p code p = .ok (.dup, p + 1) := by
  show Except.bind (Jvm.ClassFile.Reader.u1 (ε := Jvm.ClassFile.DecodeError) code p) _ = _
  rw [h]
  rfl
theorem fo_dup_x1 (h : Jvm.ClassFile.Reader.u1 (ε := Jvm.ClassFile.DecodeError) code p = .ok (90, p + 1)) : Jvm.ClassFile.Decoder.instr p code p = .ok (.dup_x1, p + 1) := by
  show Except.bind (Jvm.ClassFile.Reader.u1 (ε := Jvm.ClassFile.DecodeError) code p) _ = _
  rw [h]
  rfl
theorem fo_dup2 (h : Jvm.ClassFile.Reader.u1 (ε := Jvm.ClassFile.DecodeError) code p = .ok (92, p + 1)) : Jvm.ClassFile.Decoder.instr p code p = .ok (.dup2, p + 1) := by
  show Except.bind (Jvm.ClassFile.Reader.u1 (ε := Jvm.ClassFile.DecodeError) code p) _ = _
  rw [h]
  rfl
theorem fo_iadd (h : Jvm.ClassFile.Reader.u1 (ε := Jvm.ClassFile.DecodeError) code p = .ok (96, p + 1)) : Jvm.ClassFile.Decoder.instr p code p = .ok (.iadd, p + 1) := by
  show Except.bind (Jvm.ClassFile.Reader.u1 (ε := Jvm.ClassFile.DecodeError) code p) _ = _
  rw [h]
  rfl
theorem fo_ladd (h : Jvm.ClassFile.Reader.u1 (ε := Jvm.ClassFile.DecodeError) code p = .ok (97, p + 1)) : Jvm.ClassFile.Decoder.instr p code p = .ok (.ladd, p + 1) := by
  show Except.bind (Jvm.ClassFile.Reader.u1 (ε := Jvm.ClassFile.DecodeError) code p) _ = _
  rw [h]
  rfl
theorem fo_isub (h : Jvm.ClassFile.Reader.u1 (ε := Jvm.ClassFile.DecodeError) code p = .ok (100, p + 1)) : Jvm.ClassFile.Decoder.instr p code p = .ok (.isub, p + 1) := by
  show Except.bind (Jvm.ClassFile.Reader.u1 (ε := Jvm.ClassFile.DecodeError) code p) _ = _
  rw [h]
  rfl
theorem fo_lsub (h : Jvm.ClassFile.Reader.u1 (ε := Jvm.ClassFile.DecodeError) code p = .ok (101, p + 1)) : Jvm.ClassFile.Decoder.instr p code p = .ok (.lsub, p + 1) := by
  show Except.bind (Jvm.ClassFile.Reader.u1 (ε := Jvm.ClassFile.DecodeError) code p) _ = _
  rw [h]
  rfl
theorem fo_imul (h : Jvm.ClassFile.Reader.u1 (ε := Jvm.ClassFile.DecodeError) code p = .ok (104, p + 1)) : Jvm.ClassFile.Decoder.instr p code p = .ok (.imul, p + 1) := by
  show Except.bind (Jvm.ClassFile.Reader.u1 (ε := Jvm.ClassFile.DecodeError) code p) _ = _
  rw [h]
  rfl
theorem fo_lmul (h : Jvm.ClassFile.Reader.u1 (ε := Jvm.ClassFile.DecodeError) code p = .ok (105, p + 1)) : Jvm.ClassFile.Decoder.instr p code p = .ok (.lmul, p + 1) := by
  show Except.bind (Jvm.ClassFile.Reader.u1 (ε := Jvm.ClassFile.DecodeError) code p) _ = _
  rw [h]
  rfl
theorem fo_idiv (h : Jvm.ClassFile.Reader.u1 (ε := Jvm.ClassFile.DecodeError) code p = .ok (108, p + 1)) : Jvm.ClassFile.Decoder.instr p code p = .ok (.idiv, p + 1) := by
  show Except.bind (Jvm.ClassFile.Reader.u1 (ε := Jvm.ClassFile.DecodeError) code p) _ = _
  rw [h]
  rfl
theorem fo_irem (h : Jvm.ClassFile.Reader.u1 (ε := Jvm.ClassFile.DecodeError) code p = .ok (112, p + 1)) : Jvm.ClassFile.Decoder.instr p code p = .ok (.irem, p + 1) := by
  show Except.bind (Jvm.ClassFile.Reader.u1 (ε := Jvm.ClassFile.DecodeError) code p) _ = _
  rw [h]
  rfl
theorem fo_ineg (h : Jvm.ClassFile.Reader.u1 (ε := Jvm.ClassFile.DecodeError) code p = .ok (116, p + 1)) : Jvm.ClassFile.Decoder.instr p code p = .ok (.ineg, p + 1) := by
  show Except.bind (Jvm.ClassFile.Reader.u1 (ε := Jvm.ClassFile.DecodeError) code p) _ = _
  rw [h]
  rfl
theorem fo_ishl (h : Jvm.ClassFile.Reader.u1 (ε := Jvm.ClassFile.DecodeError) code p = .ok (120, p + 1)) : Jvm.ClassFile.Decoder.instr p code p = .ok (.ishl, p + 1) := by
  show Except.bind (Jvm.ClassFile.Reader.u1 (ε := Jvm.ClassFile.DecodeError) code p) _ = _
  rw [h]
  rfl
theorem fo_lshl (h : Jvm.ClassFile.Reader.u1 (ε := Jvm.ClassFile.DecodeError) code p = .ok (121, p + 1)) : Jvm.ClassFile.Decoder.instr p code p = .ok (.lshl, p + 1) := by
  show Except.bind (Jvm.ClassFile.Reader.u1 (ε := Jvm.ClassFile.DecodeError) code p) _ = _
  rw [h]
  rfl
theorem fo_ishr (h : Jvm.ClassFile.Reader.u1 (ε := Jvm.ClassFile.DecodeError) code p = .ok (122, p + 1)) : Jvm.ClassFile.Decoder.instr p code p = .ok (.ishr, p + 1) := by
  show Except.bind (Jvm.ClassFile.Reader.u1 (ε := Jvm.ClassFile.DecodeError) code p) _ = _
  rw [h]
  rfl
theorem fo_iushr (h : Jvm.ClassFile.Reader.u1 (ε := Jvm.ClassFile.DecodeError) code p = .ok (124, p + 1)) : Jvm.ClassFile.Decoder.instr p code p = .ok (.iushr, p + 1) := by
  show Except.bind (Jvm.ClassFile.Reader.u1 (ε := Jvm.ClassFile.DecodeError) code p) _ = _
  rw [h]
  rfl
theorem fo_lushr (h : Jvm.ClassFile.Reader.u1 (ε := Jvm.ClassFile.DecodeError) code p = .ok (125, p + 1)) : Jvm.ClassFile.Decoder.instr p code p = .ok (.lushr, p + 1) := by
  show Except.bind (Jvm.ClassFile.Reader.u1 (ε := Jvm.ClassFile.DecodeError) code p) _ = _
  rw [h]
  rfl
theorem fo_iand (h : Jvm.ClassFile.Reader.u1 (ε := Jvm.ClassFile.DecodeError) code p = .ok (126, p + 1)) : Jvm.ClassFile.Decoder.instr p code p = .ok (.iand, p + 1) := by
  show Except.bind (Jvm.ClassFile.Reader.u1 (ε := Jvm.ClassFile.DecodeError) code p) _ = _
  rw [h]
  rfl
theorem fo_land (h : Jvm.ClassFile.Reader.u1 (ε := Jvm.ClassFile.DecodeError) code p = .ok (127, p + 1)) : Jvm.ClassFile.Decoder.instr p code p = .ok (.land, p + 1) := by
  show Except.bind (Jvm.ClassFile.Reader.u1 (ε := Jvm.ClassFile.DecodeError) code p) _ = _
  rw [h]
  rfl
theorem fo_ior (h : Jvm.ClassFile.Reader.u1 (ε := Jvm.ClassFile.DecodeError) code p = .ok (128, p + 1)) : Jvm.ClassFile.Decoder.instr p code p = .ok (.ior, p + 1) := by
  show Except.bind (Jvm.ClassFile.Reader.u1 (ε := Jvm.ClassFile.DecodeError) code p) _ = _
  rw [h]
  rfl
theorem fo_lor (h : Jvm.ClassFile.Reader.u1 (ε := Jvm.ClassFile.DecodeError) code p = .ok (129, p + 1)) : Jvm.ClassFile.Decoder.instr p code p = .ok (.lor, p + 1) := by
  show Except.bind (Jvm.ClassFile.Reader.u1 (ε := Jvm.ClassFile.DecodeError) code p) _ = _
  rw [h]
  rfl
theorem fo_ixor (h : Jvm.ClassFile.Reader.u1 (ε := Jvm.ClassFile.DecodeError) code p = .ok (130, p + 1)) : Jvm.ClassFile.Decoder.instr p code p = .ok (.ixor, p + 1) := by
  show Except.bind (Jvm.ClassFile.Reader.u1 (ε := Jvm.ClassFile.DecodeError) code p) _ = _
  rw [h]
  rfl
theorem fo_lxor (h : Jvm.ClassFile.Reader.u1 (ε := Jvm.ClassFile.DecodeError) code p = .ok (131, p + 1)) : Jvm.ClassFile.Decoder.instr p code p = .ok (.lxor, p + 1) := by
  show Except.bind (Jvm.ClassFile.Reader.u1 (ε := Jvm.ClassFile.DecodeError) code p) _ = _
  rw [h]
  rfl
theorem fo_i2l (h : Jvm.ClassFile.Reader.u1 (ε := Jvm.ClassFile.DecodeError) code p = .ok (133, p + 1)) : Jvm.ClassFile.Decoder.instr p code p = .ok (.i2l, p + 1) := by
  show Except.bind (Jvm.ClassFile.Reader.u1 (ε := Jvm.ClassFile.DecodeError) code p) _ = _
  rw [h]
  rfl
theorem fo_l2i (h : Jvm.ClassFile.Reader.u1 (ε := Jvm.ClassFile.DecodeError) code p = .ok (136, p + 1)) : Jvm.ClassFile.Decoder.instr p code p = .ok (.l2i, p + 1) := by
  show Except.bind (Jvm.ClassFile.Reader.u1 (ε := Jvm.ClassFile.DecodeError) code p) _ = _
  rw [h]
  rfl
theorem fo_i2b (h : Jvm.ClassFile.Reader.u1 (ε := Jvm.ClassFile.DecodeError) code p = .ok (145, p + 1)) : Jvm.ClassFile.Decoder.instr p code p = .ok (.i2b, p + 1) := by
  show Except.bind (Jvm.ClassFile.Reader.u1 (ε := Jvm.ClassFile.DecodeError) code p) _ = _
  rw [h]
  rfl
theorem fo_lcmp (h : Jvm.ClassFile.Reader.u1 (ε := Jvm.ClassFile.DecodeError) code p = .ok (148, p + 1)) : Jvm.ClassFile.Decoder.instr p code p = .ok (.lcmp, p + 1) := by
  show Except.bind (Jvm.ClassFile.Reader.u1 (ε := Jvm.ClassFile.DecodeError) code p) _ = _
  rw [h]
  rfl
theorem fo_ireturn (h : Jvm.ClassFile.Reader.u1 (ε := Jvm.ClassFile.DecodeError) code p = .ok (172, p + 1)) : Jvm.ClassFile.Decoder.instr p code p = .ok (.ireturn, p + 1) := by
  show Except.bind (Jvm.ClassFile.Reader.u1 (ε := Jvm.ClassFile.DecodeError) code p) _ = _
  rw [h]
  rfl
theorem fo_lreturn (h : Jvm.ClassFile.Reader.u1 (ε := Jvm.ClassFile.DecodeError) code p = .ok (173, p + 1)) : Jvm.ClassFile.Decoder.instr p code p = .ok (.lreturn, p + 1) := by
  show Except.bind (Jvm.ClassFile.Reader.u1 (ε := Jvm.ClassFile.DecodeError) code p) _ = _
  rw [h]
  rfl
theorem fo_areturn (h : Jvm.ClassFile.Reader.u1 (ε := Jvm.ClassFile.DecodeError) code p = .ok (176, p + 1)) : Jvm.ClassFile.Decoder.instr p code p = .ok (.areturn, p + 1) := by
  show Except.bind (Jvm.ClassFile.Reader.u1 (ε := Jvm.ClassFile.DecodeError) code p) _ = _
  rw [h]
  rfl
theorem fo_return_ (h : Jvm.ClassFile.Reader.u1 (ε := Jvm.ClassFile.DecodeError) code p = .ok (177, p + 1)) : Jvm.ClassFile.Decoder.instr p code p = .ok (.return_, p + 1) := by
  show Except.bind (Jvm.ClassFile.Reader.u1 (ε := Jvm.ClassFile.DecodeError) code p) _ = _
  rw [h]
  rfl
theorem fo_arraylength (h : Jvm.ClassFile.Reader.u1 (ε := Jvm.ClassFile.DecodeError) code p = .ok (190, p + 1)) : Jvm.ClassFile.Decoder.instr p code p = .ok (.arraylength, p + 1) := by
  show Except.bind (Jvm.ClassFile.Reader.u1 (ε := Jvm.ClassFile.DecodeError) code p) _ = _
  rw [h]
  rfl
theorem fo_iload_n0 (h : Jvm.ClassFile.Reader.u1 (ε := Jvm.ClassFile.DecodeError) code p = .ok (26, p + 1)) : Jvm.ClassFile.Decoder.instr p code p = .ok (.iload_n 0, p + 1) := by
  show Except.bind (Jvm.ClassFile.Reader.u1 (ε := Jvm.ClassFile.DecodeError) code p) _ = _
  rw [h]
  rfl
theorem fo_iload_n1 (h : Jvm.ClassFile.Reader.u1 (ε := Jvm.ClassFile.DecodeError) code p = .ok (27, p + 1)) : Jvm.ClassFile.Decoder.instr p code p = .ok (.iload_n 1, p + 1) := by
  show Except.bind (Jvm.ClassFile.Reader.u1 (ε := Jvm.ClassFile.DecodeError) code p) _ = _
  rw [h]
  rfl
theorem fo_iload_n2 (h : Jvm.ClassFile.Reader.u1 (ε := Jvm.ClassFile.DecodeError) code p = .ok (28, p + 1)) : Jvm.ClassFile.Decoder.instr p code p = .ok (.iload_n 2, p + 1) := by
  show Except.bind (Jvm.ClassFile.Reader.u1 (ε := Jvm.ClassFile.DecodeError) code p) _ = _
  rw [h]
  rfl
theorem fo_iload_n3 (h : Jvm.ClassFile.Reader.u1 (ε := Jvm.ClassFile.DecodeError) code p = .ok (29, p + 1)) : Jvm.ClassFile.Decoder.instr p code p = .ok (.iload_n 3, p + 1) := by
  show Except.bind (Jvm.ClassFile.Reader.u1 (ε := Jvm.ClassFile.DecodeError) code p) _ = _
  rw [h]
  rfl
theorem fo_lload_n0 (h : Jvm.ClassFile.Reader.u1 (ε := Jvm.ClassFile.DecodeError) code p = .ok (30, p + 1)) : Jvm.ClassFile.Decoder.instr p code p = .ok (.lload_n 0, p + 1) := by
  show Except.bind (Jvm.ClassFile.Reader.u1 (ε := Jvm.ClassFile.DecodeError) code p) _ = _
  rw [h]
  rfl
theorem fo_lload_n1 (h : Jvm.ClassFile.Reader.u1 (ε := Jvm.ClassFile.DecodeError) code p = .ok (31, p + 1)) : Jvm.ClassFile.Decoder.instr p code p = .ok (.lload_n 1, p + 1) := by
  show Except.bind (Jvm.ClassFile.Reader.u1 (ε := Jvm.ClassFile.DecodeError) code p) _ = _
  rw [h]
  rfl
theorem fo_lload_n2 (h : Jvm.ClassFile.Reader.u1 (ε := Jvm.ClassFile.DecodeError) code p = .ok (32, p + 1)) : Jvm.ClassFile.Decoder.instr p code p = .ok (.lload_n 2, p + 1) := by
  show Except.bind (Jvm.ClassFile.Reader.u1 (ε := Jvm.ClassFile.DecodeError) code p) _ = _
  rw [h]
  rfl
theorem fo_lload_n3 (h : Jvm.ClassFile.Reader.u1 (ε := Jvm.ClassFile.DecodeError) code p = .ok (33, p + 1)) : Jvm.ClassFile.Decoder.instr p code p = .ok (.lload_n 3, p + 1) := by
  show Except.bind (Jvm.ClassFile.Reader.u1 (ε := Jvm.ClassFile.DecodeError) code p) _ = _
  rw [h]
  rfl
theorem fo_aload_n0 (h : Jvm.ClassFile.Reader.u1 (ε := Jvm.ClassFile.DecodeError) code p = .ok (42, p + 1)) : Jvm.ClassFile.Decoder.instr p code p = .ok (.aload_n 0, p + 1) := by
  show Except.bind (Jvm.ClassFile.Reader.u1 (ε := Jvm.ClassFile.DecodeError) code p) _ = _
  rw [h]
  rfl
theorem fo_aload_n1 (h : Jvm.ClassFile.Reader.u1 (ε := Jvm.ClassFile.DecodeError) code p = .ok (43, p + 1)) : Jvm.ClassFile.Decoder.instr p code p = .ok (.aload_n 1, p + 1) := by
  show Except.bind (Jvm.ClassFile.Reader.u1 (ε := Jvm.ClassFile.DecodeError) code p) _ = _
  rw [h]
  rfl
theorem fo_aload_n2 (h : Jvm.ClassFile.Reader.u1 (ε := Jvm.ClassFile.DecodeError) code p = .ok (44, p + 1)) : Jvm.ClassFile.Decoder.instr p code p = .ok (.aload_n 2, p + 1) := by
  show Except.bind (Jvm.ClassFile.Reader.u1 (ε := Jvm.ClassFile.DecodeError) code p) _ = _
  rw [h]
  rfl
theorem fo_aload_n3 (h : Jvm.ClassFile.Reader.u1 (ε := Jvm.ClassFile.DecodeError) code p = .ok (45, p + 1)) : Jvm.ClassFile.Decoder.instr p code p = .ok (.aload_n 3, p + 1) := by
  show Except.bind (Jvm.ClassFile.Reader.u1 (ε := Jvm.ClassFile.DecodeError) code p) _ = _
  rw [h]
  rfl
theorem fo_istore_n0 (h : Jvm.ClassFile.Reader.u1 (ε := Jvm.ClassFile.DecodeError) code p = .ok (59, p + 1)) : Jvm.ClassFile.Decoder.instr p code p = .ok (.istore_n 0, p + 1) := by
  show Except.bind (Jvm.ClassFile.Reader.u1 (ε := Jvm.ClassFile.DecodeError) code p) _ = _
  rw [h]
  rfl
theorem fo_istore_n1 (h : Jvm.ClassFile.Reader.u1 (ε := Jvm.ClassFile.DecodeError) code p = .ok (60, p + 1)) : Jvm.ClassFile.Decoder.instr p code p = .ok (.istore_n 1, p + 1) := by
  show Except.bind (Jvm.ClassFile.Reader.u1 (ε := Jvm.ClassFile.DecodeError) code p) _ = _
  rw [h]
  rfl
theorem fo_istore_n2 (h : Jvm.ClassFile.Reader.u1 (ε := Jvm.ClassFile.DecodeError) code p = .ok (61, p + 1)) : Jvm.ClassFile.Decoder.instr p code p = .ok (.istore_n 2, p + 1) := by
  show Except.bind (Jvm.ClassFile.Reader.u1 (ε := Jvm.ClassFile.DecodeError) code p) _ = _
  rw [h]
  rfl
theorem fo_istore_n3 (h : Jvm.ClassFile.Reader.u1 (ε := Jvm.ClassFile.DecodeError) code p = .ok (62, p + 1)) : Jvm.ClassFile.Decoder.instr p code p = .ok (.istore_n 3, p + 1) := by
  show Except.bind (Jvm.ClassFile.Reader.u1 (ε := Jvm.ClassFile.DecodeError) code p) _ = _
  rw [h]
  rfl
theorem fo_lstore_n0 (h : Jvm.ClassFile.Reader.u1 (ε := Jvm.ClassFile.DecodeError) code p = .ok (63, p + 1)) : Jvm.ClassFile.Decoder.instr p code p = .ok (.lstore_n 0, p + 1) := by
  show Except.bind (Jvm.ClassFile.Reader.u1 (ε := Jvm.ClassFile.DecodeError) code p) _ = _
  rw [h]
  rfl
theorem fo_lstore_n1 (h : Jvm.ClassFile.Reader.u1 (ε := Jvm.ClassFile.DecodeError) code p = .ok (64, p + 1)) : Jvm.ClassFile.Decoder.instr p code p = .ok (.lstore_n 1, p + 1) := by
  show Except.bind (Jvm.ClassFile.Reader.u1 (ε := Jvm.ClassFile.DecodeError) code p) _ = _
  rw [h]
  rfl
theorem fo_lstore_n2 (h : Jvm.ClassFile.Reader.u1 (ε := Jvm.ClassFile.DecodeError) code p = .ok (65, p + 1)) : Jvm.ClassFile.Decoder.instr p code p = .ok (.lstore_n 2, p + 1) := by
  show Except.bind (Jvm.ClassFile.Reader.u1 (ε := Jvm.ClassFile.DecodeError) code p) _ = _
  rw [h]
  rfl
theorem fo_lstore_n3 (h : Jvm.ClassFile.Reader.u1 (ε := Jvm.ClassFile.DecodeError) code p = .ok (66, p + 1)) : Jvm.ClassFile.Decoder.instr p code p = .ok (.lstore_n 3, p + 1) := by
  show Except.bind (Jvm.ClassFile.Reader.u1 (ε := Jvm.ClassFile.DecodeError) code p) _ = _
  rw [h]
  rfl
theorem fo_astore_n0 (h : Jvm.ClassFile.Reader.u1 (ε := Jvm.ClassFile.DecodeError) code p = .ok (75, p + 1)) : Jvm.ClassFile.Decoder.instr p code p = .ok (.astore_n 0, p + 1) := by
  show Except.bind (Jvm.ClassFile.Reader.u1 (ε := Jvm.ClassFile.DecodeError) code p) _ = _
  rw [h]
  rfl
theorem fo_astore_n1 (h : Jvm.ClassFile.Reader.u1 (ε := Jvm.ClassFile.DecodeError) code p = .ok (76, p + 1)) : Jvm.ClassFile.Decoder.instr p code p = .ok (.astore_n 1, p + 1) := by
  show Except.bind (Jvm.ClassFile.Reader.u1 (ε := Jvm.ClassFile.DecodeError) code p) _ = _
  rw [h]
  rfl
theorem fo_astore_n2 (h : Jvm.ClassFile.Reader.u1 (ε := Jvm.ClassFile.DecodeError) code p = .ok (77, p + 1)) : Jvm.ClassFile.Decoder.instr p code p = .ok (.astore_n 2, p + 1) := by
  show Except.bind (Jvm.ClassFile.Reader.u1 (ε := Jvm.ClassFile.DecodeError) code p) _ = _
  rw [h]
  rfl
theorem fo_astore_n3 (h : Jvm.ClassFile.Reader.u1 (ε := Jvm.ClassFile.DecodeError) code p = .ok (78, p + 1)) : Jvm.ClassFile.Decoder.instr p code p = .ok (.astore_n 3, p + 1) := by
  show Except.bind (Jvm.ClassFile.Reader.u1 (ε := Jvm.ClassFile.DecodeError) code p) _ = _
  rw [h]
  rfl
theorem fo_iconst0 (h : Jvm.ClassFile.Reader.u1 (ε := Jvm.ClassFile.DecodeError) code p = .ok (2, p + 1)) : Jvm.ClassFile.Decoder.instr p code p = .ok (.iconst (-1), p + 1) := by
  show Except.bind (Jvm.ClassFile.Reader.u1 (ε := Jvm.ClassFile.DecodeError) code p) _ = _
  rw [h]
  rfl
theorem fo_iconst1 (h : Jvm.ClassFile.Reader.u1 (ε := Jvm.ClassFile.DecodeError) code p = .ok (3, p + 1)) : Jvm.ClassFile.Decoder.instr p code p = .ok (.iconst 0, p + 1) := by
  show Except.bind (Jvm.ClassFile.Reader.u1 (ε := Jvm.ClassFile.DecodeError) code p) _ = _
  rw [h]
  rfl
theorem fo_iconst2 (h : Jvm.ClassFile.Reader.u1 (ε := Jvm.ClassFile.DecodeError) code p = .ok (4, p + 1)) : Jvm.ClassFile.Decoder.instr p code p = .ok (.iconst 1, p + 1) := by
  show Except.bind (Jvm.ClassFile.Reader.u1 (ε := Jvm.ClassFile.DecodeError) code p) _ = _
  rw [h]
  rfl
theorem fo_iconst3 (h : Jvm.ClassFile.Reader.u1 (ε := Jvm.ClassFile.DecodeError) code p = .ok (5, p + 1)) : Jvm.ClassFile.Decoder.instr p code p = .ok (.iconst 2, p + 1) := by
  show Except.bind (Jvm.ClassFile.Reader.u1 (ε := Jvm.ClassFile.DecodeError) code p) _ = _
  rw [h]
  rfl
theorem fo_iconst4 (h : Jvm.ClassFile.Reader.u1 (ε := Jvm.ClassFile.DecodeError) code p = .ok (6, p + 1)) : Jvm.ClassFile.Decoder.instr p code p = .ok (.iconst 3, p + 1) := by
  show Except.bind (Jvm.ClassFile.Reader.u1 (ε := Jvm.ClassFile.DecodeError) code p) _ = _
  rw [h]
  rfl
theorem fo_iconst5 (h : Jvm.ClassFile.Reader.u1 (ε := Jvm.ClassFile.DecodeError) code p = .ok (7, p + 1)) : Jvm.ClassFile.Decoder.instr p code p = .ok (.iconst 4, p + 1) := by
  show Except.bind (Jvm.ClassFile.Reader.u1 (ε := Jvm.ClassFile.DecodeError) code p) _ = _
  rw [h]
  rfl
theorem fo_iconst6 (h : Jvm.ClassFile.Reader.u1 (ε := Jvm.ClassFile.DecodeError) code p = .ok (8, p + 1)) : Jvm.ClassFile.Decoder.instr p code p = .ok (.iconst 5, p + 1) := by
  show Except.bind (Jvm.ClassFile.Reader.u1 (ε := Jvm.ClassFile.DecodeError) code p) _ = _
  rw [h]
  rfl
theorem fo_lconst0 (h : Jvm.ClassFile.Reader.u1 (ε := Jvm.ClassFile.DecodeError) code p = .ok (9, p + 1)) : Jvm.ClassFile.Decoder.instr p code p = .ok (.lconst 0, p + 1) := by
  show Except.bind (Jvm.ClassFile.Reader.u1 (ε := Jvm.ClassFile.DecodeError) code p) _ = _
  rw [h]
  rfl
theorem fo_lconst1 (h : Jvm.ClassFile.Reader.u1 (ε := Jvm.ClassFile.DecodeError) code p = .ok (10, p + 1)) : Jvm.ClassFile.Decoder.instr p code p = .ok (.lconst 1, p + 1) := by
  show Except.bind (Jvm.ClassFile.Reader.u1 (ε := Jvm.ClassFile.DecodeError) code p) _ = _
  rw [h]
  rfl
theorem fo_ldc {v : Nat} (h : Jvm.ClassFile.Reader.u1 (ε := Jvm.ClassFile.DecodeError) code p = .ok (18, p + 1)) (h2 : Jvm.ClassFile.Reader.u1 (ε := Jvm.ClassFile.DecodeError) code (p + 1) = .ok (v, p + 2)) : Jvm.ClassFile.Decoder.instr p code p = .ok (.ldc v, p + 2) := by
  show Except.bind (Jvm.ClassFile.Reader.u1 (ε := Jvm.ClassFile.DecodeError) code p) _ = _
  rw [h]
  show Except.bind (Jvm.ClassFile.Reader.u1 (ε := Jvm.ClassFile.DecodeError) code (p + 1)) _ = _
  rw [h2]
  rfl
theorem fo_iload {v : Nat} (h : Jvm.ClassFile.Reader.u1 (ε := Jvm.ClassFile.DecodeError) code p = .ok (21, p + 1)) (h2 : Jvm.ClassFile.Reader.u1 (ε := Jvm.ClassFile.DecodeError) code (p + 1) = .ok (v, p + 2)) : Jvm.ClassFile.Decoder.instr p code p = .ok (.iload v, p + 2) := by
  show Except.bind (Jvm.ClassFile.Reader.u1 (ε := Jvm.ClassFile.DecodeError) code p) _ = _
  rw [h]
  show Except.bind (Jvm.ClassFile.Reader.u1 (ε := Jvm.ClassFile.DecodeError) code (p + 1)) _ = _
  rw [h2]
  rfl
theorem fo_lload {v : Nat} (h : Jvm.ClassFile.Reader.u1 (ε := Jvm.ClassFile.DecodeError) code p = .ok (22, p + 1)) (h2 : Jvm.ClassFile.Reader.u1 (ε := Jvm.ClassFile.DecodeError) code (p + 1) = .ok (v, p + 2)) : Jvm.ClassFile.Decoder.instr p code p = .ok (.lload v, p + 2) := by
  show Except.bind (Jvm.ClassFile.Reader.u1 (ε := Jvm.ClassFile.DecodeError) code p) _ = _
  rw [h]
  show Except.bind (Jvm.ClassFile.Reader.u1 (ε := Jvm.ClassFile.DecodeError) code (p + 1)) _ = _
  rw [h2]
  rfl
theorem fo_aload {v : Nat} (h : Jvm.ClassFile.Reader.u1 (ε := Jvm.ClassFile.DecodeError) code p = .ok (25, p + 1)) (h2 : Jvm.ClassFile.Reader.u1 (ε := Jvm.ClassFile.DecodeError) code (p + 1) = .ok (v, p + 2)) : Jvm.ClassFile.Decoder.instr p code p = .ok (.aload v, p + 2) := by
  show Except.bind (Jvm.ClassFile.Reader.u1 (ε := Jvm.ClassFile.DecodeError) code p) _ = _
  rw [h]
  show Except.bind (Jvm.ClassFile.Reader.u1 (ε := Jvm.ClassFile.DecodeError) code (p + 1)) _ = _
  rw [h2]
  rfl
theorem fo_istore {v : Nat} (h : Jvm.ClassFile.Reader.u1 (ε := Jvm.ClassFile.DecodeError) code p = .ok (54, p + 1)) (h2 : Jvm.ClassFile.Reader.u1 (ε := Jvm.ClassFile.DecodeError) code (p + 1) = .ok (v, p + 2)) : Jvm.ClassFile.Decoder.instr p code p = .ok (.istore v, p + 2) := by
  show Except.bind (Jvm.ClassFile.Reader.u1 (ε := Jvm.ClassFile.DecodeError) code p) _ = _
  rw [h]
  show Except.bind (Jvm.ClassFile.Reader.u1 (ε := Jvm.ClassFile.DecodeError) code (p + 1)) _ = _
  rw [h2]
  rfl
theorem fo_lstore {v : Nat} (h : Jvm.ClassFile.Reader.u1 (ε := Jvm.ClassFile.DecodeError) code p = .ok (55, p + 1)) (h2 : Jvm.ClassFile.Reader.u1 (ε := Jvm.ClassFile.DecodeError) code (p + 1) = .ok (v, p + 2)) : Jvm.ClassFile.Decoder.instr p code p = .ok (.lstore v, p + 2) := by
  show Except.bind (Jvm.ClassFile.Reader.u1 (ε := Jvm.ClassFile.DecodeError) code p) _ = _
  rw [h]
  show Except.bind (Jvm.ClassFile.Reader.u1 (ε := Jvm.ClassFile.DecodeError) code (p + 1)) _ = _
  rw [h2]
  rfl
theorem fo_astore {v : Nat} (h : Jvm.ClassFile.Reader.u1 (ε := Jvm.ClassFile.DecodeError) code p = .ok (58, p + 1)) (h2 : Jvm.ClassFile.Reader.u1 (ε := Jvm.ClassFile.DecodeError) code (p + 1) = .ok (v, p + 2)) : Jvm.ClassFile.Decoder.instr p code p = .ok (.astore v, p + 2) := by
  show Except.bind (Jvm.ClassFile.Reader.u1 (ε := Jvm.ClassFile.DecodeError) code p) _ = _
  rw [h]
  show Except.bind (Jvm.ClassFile.Reader.u1 (ε := Jvm.ClassFile.DecodeError) code (p + 1)) _ = _
  rw [h2]
  rfl
theorem fo_ldc_w {v : Nat} (h : Jvm.ClassFile.Reader.u1 (ε := Jvm.ClassFile.DecodeError) code p = .ok (19, p + 1)) (h2 : Jvm.ClassFile.Reader.u2 (ε := Jvm.ClassFile.DecodeError) code (p + 1) = .ok (v, p + 3)) : Jvm.ClassFile.Decoder.instr p code p = .ok (.ldc_w v, p + 3) := by
  show Except.bind (Jvm.ClassFile.Reader.u1 (ε := Jvm.ClassFile.DecodeError) code p) _ = _
  rw [h]
  show Except.bind (Jvm.ClassFile.Reader.u2 (ε := Jvm.ClassFile.DecodeError) code (p + 1)) _ = _
  rw [h2]
  rfl
theorem fo_ldc2_w {v : Nat} (h : Jvm.ClassFile.Reader.u1 (ε := Jvm.ClassFile.DecodeError) code p = .ok (20, p + 1)) (h2 : Jvm.ClassFile.Reader.u2 (ε := Jvm.ClassFile.DecodeError) code (p + 1) = .ok (v, p + 3)) : Jvm.ClassFile.Decoder.instr p code p = .ok (.ldc2_w v, p + 3) := by
  show Except.bind (Jvm.ClassFile.Reader.u1 (ε := Jvm.ClassFile.DecodeError) code p) _ = _
  rw [h]
  show Except.bind (Jvm.ClassFile.Reader.u2 (ε := Jvm.ClassFile.DecodeError) code (p + 1)) _ = _
  rw [h2]
  rfl
theorem fo_getfield {v : Nat} (h : Jvm.ClassFile.Reader.u1 (ε := Jvm.ClassFile.DecodeError) code p = .ok (180, p + 1)) (h2 : Jvm.ClassFile.Reader.u2 (ε := Jvm.ClassFile.DecodeError) code (p + 1) = .ok (v, p + 3)) : Jvm.ClassFile.Decoder.instr p code p = .ok (.getfield v, p + 3) := by
  show Except.bind (Jvm.ClassFile.Reader.u1 (ε := Jvm.ClassFile.DecodeError) code p) _ = _
  rw [h]
  show Except.bind (Jvm.ClassFile.Reader.u2 (ε := Jvm.ClassFile.DecodeError) code (p + 1)) _ = _
  rw [h2]
  rfl
theorem fo_putfield {v : Nat} (h : Jvm.ClassFile.Reader.u1 (ε := Jvm.ClassFile.DecodeError) code p = .ok (181, p + 1)) (h2 : Jvm.ClassFile.Reader.u2 (ε := Jvm.ClassFile.DecodeError) code (p + 1) = .ok (v, p + 3)) : Jvm.ClassFile.Decoder.instr p code p = .ok (.putfield v, p + 3) := by
  show Except.bind (Jvm.ClassFile.Reader.u1 (ε := Jvm.ClassFile.DecodeError) code p) _ = _
  rw [h]
  show Except.bind (Jvm.ClassFile.Reader.u2 (ε := Jvm.ClassFile.DecodeError) code (p + 1)) _ = _
  rw [h2]
  rfl
theorem fo_invokevirtual {v : Nat} (h : Jvm.ClassFile.Reader.u1 (ε := Jvm.ClassFile.DecodeError) code p = .ok (182, p + 1)) (h2 : Jvm.ClassFile.Reader.u2 (ε := Jvm.ClassFile.DecodeError) code (p + 1) = .ok (v, p + 3)) : Jvm.ClassFile.Decoder.instr p code p = .ok (.invokevirtual v, p + 3) := by
  show Except.bind (Jvm.ClassFile.Reader.u1 (ε := Jvm.ClassFile.DecodeError) code p) _ = _
  rw [h]
  show Except.bind (Jvm.ClassFile.Reader.u2 (ε := Jvm.ClassFile.DecodeError) code (p + 1)) _ = _
  rw [h2]
  rfl
theorem fo_invokespecial {v : Nat} (h : Jvm.ClassFile.Reader.u1 (ε := Jvm.ClassFile.DecodeError) code p = .ok (183, p + 1)) (h2 : Jvm.ClassFile.Reader.u2 (ε := Jvm.ClassFile.DecodeError) code (p + 1) = .ok (v, p + 3)) : Jvm.ClassFile.Decoder.instr p code p = .ok (.invokespecial v, p + 3) := by
  show Except.bind (Jvm.ClassFile.Reader.u1 (ε := Jvm.ClassFile.DecodeError) code p) _ = _
  rw [h]
  show Except.bind (Jvm.ClassFile.Reader.u2 (ε := Jvm.ClassFile.DecodeError) code (p + 1)) _ = _
  rw [h2]
  rfl
theorem fo_invokestatic {v : Nat} (h : Jvm.ClassFile.Reader.u1 (ε := Jvm.ClassFile.DecodeError) code p = .ok (184, p + 1)) (h2 : Jvm.ClassFile.Reader.u2 (ε := Jvm.ClassFile.DecodeError) code (p + 1) = .ok (v, p + 3)) : Jvm.ClassFile.Decoder.instr p code p = .ok (.invokestatic v, p + 3) := by
  show Except.bind (Jvm.ClassFile.Reader.u1 (ε := Jvm.ClassFile.DecodeError) code p) _ = _
  rw [h]
  show Except.bind (Jvm.ClassFile.Reader.u2 (ε := Jvm.ClassFile.DecodeError) code (p + 1)) _ = _
  rw [h2]
  rfl
theorem fo_new {v : Nat} (h : Jvm.ClassFile.Reader.u1 (ε := Jvm.ClassFile.DecodeError) code p = .ok (187, p + 1)) (h2 : Jvm.ClassFile.Reader.u2 (ε := Jvm.ClassFile.DecodeError) code (p + 1) = .ok (v, p + 3)) : Jvm.ClassFile.Decoder.instr p code p = .ok (.new v, p + 3) := by
  show Except.bind (Jvm.ClassFile.Reader.u1 (ε := Jvm.ClassFile.DecodeError) code p) _ = _
  rw [h]
  show Except.bind (Jvm.ClassFile.Reader.u2 (ε := Jvm.ClassFile.DecodeError) code (p + 1)) _ = _
  rw [h2]
  rfl
theorem fo_bipush {v : Int} (h : Jvm.ClassFile.Reader.u1 (ε := Jvm.ClassFile.DecodeError) code p = .ok (16, p + 1)) (h2 : Jvm.ClassFile.Reader.s1 (ε := Jvm.ClassFile.DecodeError) code (p + 1) = .ok (v, p + 2)) : Jvm.ClassFile.Decoder.instr p code p = .ok (.bipush v, p + 2) := by
  show Except.bind (Jvm.ClassFile.Reader.u1 (ε := Jvm.ClassFile.DecodeError) code p) _ = _
  rw [h]
  show Except.bind (Jvm.ClassFile.Reader.s1 (ε := Jvm.ClassFile.DecodeError) code (p + 1)) _ = _
  rw [h2]
  rfl
theorem fo_sipush {v : Int} (h : Jvm.ClassFile.Reader.u1 (ε := Jvm.ClassFile.DecodeError) code p = .ok (17, p + 1)) (h2 : Jvm.ClassFile.Reader.s2 (ε := Jvm.ClassFile.DecodeError) code (p + 1) = .ok (v, p + 3)) : Jvm.ClassFile.Decoder.instr p code p = .ok (.sipush v, p + 3) := by
  show Except.bind (Jvm.ClassFile.Reader.u1 (ε := Jvm.ClassFile.DecodeError) code p) _ = _
  rw [h]
  show Except.bind (Jvm.ClassFile.Reader.s2 (ε := Jvm.ClassFile.DecodeError) code (p + 1)) _ = _
  rw [h2]
  rfl
theorem fo_goto {v : Int} (h : Jvm.ClassFile.Reader.u1 (ε := Jvm.ClassFile.DecodeError) code p = .ok (167, p + 1)) (h2 : Jvm.ClassFile.Reader.s2 (ε := Jvm.ClassFile.DecodeError) code (p + 1) = .ok (v, p + 3)) : Jvm.ClassFile.Decoder.instr p code p = .ok (.goto v, p + 3) := by
  show Except.bind (Jvm.ClassFile.Reader.u1 (ε := Jvm.ClassFile.DecodeError) code p) _ = _
  rw [h]
  show Except.bind (Jvm.ClassFile.Reader.s2 (ε := Jvm.ClassFile.DecodeError) code (p + 1)) _ = _
  rw [h2]
  rfl
theorem fo_ifeq {v : Int} (h : Jvm.ClassFile.Reader.u1 (ε := Jvm.ClassFile.DecodeError) code p = .ok (153, p + 1)) (h2 : Jvm.ClassFile.Reader.s2 (ε := Jvm.ClassFile.DecodeError) code (p + 1) = .ok (v, p + 3)) : Jvm.ClassFile.Decoder.instr p code p = .ok (.ifCond .eq v, p + 3) := by
  show Except.bind (Jvm.ClassFile.Reader.u1 (ε := Jvm.ClassFile.DecodeError) code p) _ = _
  rw [h]
  show Except.bind (Jvm.ClassFile.Reader.s2 (ε := Jvm.ClassFile.DecodeError) code (p + 1)) _ = _
  rw [h2]
  rfl
theorem fo_icmpeq {v : Int} (h : Jvm.ClassFile.Reader.u1 (ε := Jvm.ClassFile.DecodeError) code p = .ok (159, p + 1)) (h2 : Jvm.ClassFile.Reader.s2 (ε := Jvm.ClassFile.DecodeError) code (p + 1) = .ok (v, p + 3)) : Jvm.ClassFile.Decoder.instr p code p = .ok (.if_icmp .eq v, p + 3) := by
  show Except.bind (Jvm.ClassFile.Reader.u1 (ε := Jvm.ClassFile.DecodeError) code p) _ = _
  rw [h]
  show Except.bind (Jvm.ClassFile.Reader.s2 (ε := Jvm.ClassFile.DecodeError) code (p + 1)) _ = _
  rw [h2]
  rfl
theorem fo_ifne {v : Int} (h : Jvm.ClassFile.Reader.u1 (ε := Jvm.ClassFile.DecodeError) code p = .ok (154, p + 1)) (h2 : Jvm.ClassFile.Reader.s2 (ε := Jvm.ClassFile.DecodeError) code (p + 1) = .ok (v, p + 3)) : Jvm.ClassFile.Decoder.instr p code p = .ok (.ifCond .ne v, p + 3) := by
  show Except.bind (Jvm.ClassFile.Reader.u1 (ε := Jvm.ClassFile.DecodeError) code p) _ = _
  rw [h]
  show Except.bind (Jvm.ClassFile.Reader.s2 (ε := Jvm.ClassFile.DecodeError) code (p + 1)) _ = _
  rw [h2]
  rfl
theorem fo_icmpne {v : Int} (h : Jvm.ClassFile.Reader.u1 (ε := Jvm.ClassFile.DecodeError) code p = .ok (160, p + 1)) (h2 : Jvm.ClassFile.Reader.s2 (ε := Jvm.ClassFile.DecodeError) code (p + 1) = .ok (v, p + 3)) : Jvm.ClassFile.Decoder.instr p code p = .ok (.if_icmp .ne v, p + 3) := by
  show Except.bind (Jvm.ClassFile.Reader.u1 (ε := Jvm.ClassFile.DecodeError) code p) _ = _
  rw [h]
  show Except.bind (Jvm.ClassFile.Reader.s2 (ε := Jvm.ClassFile.DecodeError) code (p + 1)) _ = _
  rw [h2]
  rfl
theorem fo_iflt {v : Int} (h : Jvm.ClassFile.Reader.u1 (ε := Jvm.ClassFile.DecodeError) code p = .ok (155, p + 1)) (h2 : Jvm.ClassFile.Reader.s2 (ε := Jvm.ClassFile.DecodeError) code (p + 1) = .ok (v, p + 3)) : Jvm.ClassFile.Decoder.instr p code p = .ok (.ifCond .lt v, p + 3) := by
  show Except.bind (Jvm.ClassFile.Reader.u1 (ε := Jvm.ClassFile.DecodeError) code p) _ = _
  rw [h]
  show Except.bind (Jvm.ClassFile.Reader.s2 (ε := Jvm.ClassFile.DecodeError) code (p + 1)) _ = _
  rw [h2]
  rfl
theorem fo_icmplt {v : Int} (h : Jvm.ClassFile.Reader.u1 (ε := Jvm.ClassFile.DecodeError) code p = .ok (161, p + 1)) (h2 : Jvm.ClassFile.Reader.s2 (ε := Jvm.ClassFile.DecodeError) code (p + 1) = .ok (v, p + 3)) : Jvm.ClassFile.Decoder.instr p code p = .ok (.if_icmp .lt v, p + 3) := by
  show Except.bind (Jvm.ClassFile.Reader.u1 (ε := Jvm.ClassFile.DecodeError) code p) _ = _
  rw [h]
  show Except.bind (Jvm.ClassFile.Reader.s2 (ε := Jvm.ClassFile.DecodeError) code (p + 1)) _ = _
  rw [h2]
  rfl
theorem fo_ifge {v : Int} (h : Jvm.ClassFile.Reader.u1 (ε := Jvm.ClassFile.DecodeError) code p = .ok (156, p + 1)) (h2 : Jvm.ClassFile.Reader.s2 (ε := Jvm.ClassFile.DecodeError) code (p + 1) = .ok (v, p + 3)) : Jvm.ClassFile.Decoder.instr p code p = .ok (.ifCond .ge v, p + 3) := by
  show Except.bind (Jvm.ClassFile.Reader.u1 (ε := Jvm.ClassFile.DecodeError) code p) _ = _
  rw [h]
  show Except.bind (Jvm.ClassFile.Reader.s2 (ε := Jvm.ClassFile.DecodeError) code (p + 1)) _ = _
  rw [h2]
  rfl
theorem fo_icmpge {v : Int} (h : Jvm.ClassFile.Reader.u1 (ε := Jvm.ClassFile.DecodeError) code p = .ok (162, p + 1)) (h2 : Jvm.ClassFile.Reader.s2 (ε := Jvm.ClassFile.DecodeError) code (p + 1) = .ok (v, p + 3)) : Jvm.ClassFile.Decoder.instr p code p = .ok (.if_icmp .ge v, p + 3) := by
  show Except.bind (Jvm.ClassFile.Reader.u1 (ε := Jvm.ClassFile.DecodeError) code p) _ = _
  rw [h]
  show Except.bind (Jvm.ClassFile.Reader.s2 (ε := Jvm.ClassFile.DecodeError) code (p + 1)) _ = _
  rw [h2]
  rfl
theorem fo_ifgt {v : Int} (h : Jvm.ClassFile.Reader.u1 (ε := Jvm.ClassFile.DecodeError) code p = .ok (157, p + 1)) (h2 : Jvm.ClassFile.Reader.s2 (ε := Jvm.ClassFile.DecodeError) code (p + 1) = .ok (v, p + 3)) : Jvm.ClassFile.Decoder.instr p code p = .ok (.ifCond .gt v, p + 3) := by
  show Except.bind (Jvm.ClassFile.Reader.u1 (ε := Jvm.ClassFile.DecodeError) code p) _ = _
  rw [h]
  show Except.bind (Jvm.ClassFile.Reader.s2 (ε := Jvm.ClassFile.DecodeError) code (p + 1)) _ = _
  rw [h2]
  rfl
theorem fo_icmpgt {v : Int} (h : Jvm.ClassFile.Reader.u1 (ε := Jvm.ClassFile.DecodeError) code p = .ok (163, p + 1)) (h2 : Jvm.ClassFile.Reader.s2 (ε := Jvm.ClassFile.DecodeError) code (p + 1) = .ok (v, p + 3)) : Jvm.ClassFile.Decoder.instr p code p = .ok (.if_icmp .gt v, p + 3) := by
  show Except.bind (Jvm.ClassFile.Reader.u1 (ε := Jvm.ClassFile.DecodeError) code p) _ = _
  rw [h]
  show Except.bind (Jvm.ClassFile.Reader.s2 (ε := Jvm.ClassFile.DecodeError) code (p + 1)) _ = _
  rw [h2]
  rfl
theorem fo_ifle {v : Int} (h : Jvm.ClassFile.Reader.u1 (ε := Jvm.ClassFile.DecodeError) code p = .ok (158, p + 1)) (h2 : Jvm.ClassFile.Reader.s2 (ε := Jvm.ClassFile.DecodeError) code (p + 1) = .ok (v, p + 3)) : Jvm.ClassFile.Decoder.instr p code p = .ok (.ifCond .le v, p + 3) := by
  show Except.bind (Jvm.ClassFile.Reader.u1 (ε := Jvm.ClassFile.DecodeError) code p) _ = _
  rw [h]
  show Except.bind (Jvm.ClassFile.Reader.s2 (ε := Jvm.ClassFile.DecodeError) code (p + 1)) _ = _
  rw [h2]
  rfl
theorem fo_icmple {v : Int} (h : Jvm.ClassFile.Reader.u1 (ε := Jvm.ClassFile.DecodeError) code p = .ok (164, p + 1)) (h2 : Jvm.ClassFile.Reader.s2 (ε := Jvm.ClassFile.DecodeError) code (p + 1) = .ok (v, p + 3)) : Jvm.ClassFile.Decoder.instr p code p = .ok (.if_icmp .le v, p + 3) := by
  show Except.bind (Jvm.ClassFile.Reader.u1 (ε := Jvm.ClassFile.DecodeError) code p) _ = _
  rw [h]
  show Except.bind (Jvm.ClassFile.Reader.s2 (ε := Jvm.ClassFile.DecodeError) code (p + 1)) _ = _
  rw [h2]
  rfl
theorem fo_iinc {i : Nat} {v : Int} (h : Jvm.ClassFile.Reader.u1 (ε := Jvm.ClassFile.DecodeError) code p = .ok (132, p + 1)) (h2 : Jvm.ClassFile.Reader.u1 (ε := Jvm.ClassFile.DecodeError) code (p + 1) = .ok (i, p + 2)) (h3 : Jvm.ClassFile.Reader.s1 (ε := Jvm.ClassFile.DecodeError) code (p + 2) = .ok (v, p + 3)) : Jvm.ClassFile.Decoder.instr p code p = .ok (.iinc i v, p + 3) := by
  show Except.bind (Jvm.ClassFile.Reader.u1 (ε := Jvm.ClassFile.DecodeError) code p) _ = _
  rw [h]
  show Except.bind (Jvm.ClassFile.Reader.u1 (ε := Jvm.ClassFile.DecodeError) code (p + 1)) _ = _
  rw [h2]
  show Except.bind (Jvm.ClassFile.Reader.s1 (ε := Jvm.ClassFile.DecodeError) code (p + 2)) _ = _
  rw [h3]
  rfl
def fcon (v : Int) (l : List UInt8) (n : Nat) : Bool := match v with
  | .ofNat 0 => f1 3 l n
  | .ofNat 1 => f1 4 l n
  | .ofNat 2 => f1 5 l n
  | .ofNat 3 => f1 6 l n
  | .ofNat 4 => f1 7 l n
  | .ofNat 5 => f1 8 l n
  | .negSucc 0 => f1 2 l n
  | _ => false
theorem fcon_ok {v : Int} (h : fcon v l n = true) (hd : code.data.toList.drop p = l) : decode code p = .ok (.iconst v, n) := by
  unfold fcon at h
  split at h
  · exact f1_ok h hd fo_iconst1
  · exact f1_ok h hd fo_iconst2
  · exact f1_ok h hd fo_iconst3
  · exact f1_ok h hd fo_iconst4
  · exact f1_ok h hd fo_iconst5
  · exact f1_ok h hd fo_iconst6
  · exact f1_ok h hd fo_iconst0
  · cases h
def fcx (c : ClassFile.Cond) : Nat := match c with
  | .eq => 0
  | .ne => 1
  | .lt => 2
  | .ge => 3
  | .gt => 4
  | .le => 5
noncomputable def fchk (cc : ByteArray) (p : Nat) (l : List UInt8) (I : Instr) (n : Nat) : Bool := Instr.rec (motive := fun _ => ByteArray → Nat → List UInt8 → Nat → Bool)
  (fun cc p _ n => decide (decode cc p = .ok (.aaload, n)))
  (fun cc p _ n => decide (decode cc p = .ok (.aastore, n)))
  (fun cc p _ n => decide (decode cc p = .ok (.aconst_null, n)))
  (fun v _ _ l n => f2 25 v l n)
  (fun k _ _ l n => f1 (42 + k.val) l n)
  (fun x0 cc p _ n => decide (decode cc p = .ok (.anewarray x0, n)))
  (fun _ _ l n => f1 176 l n)
  (fun _ _ l n => f1 190 l n)
  (fun v _ _ l n => f2 58 v l n)
  (fun k _ _ l n => f1 (75 + k.val) l n)
  (fun cc p _ n => decide (decode cc p = .ok (.athrow, n)))
  (fun _ _ l n => f1 51 l n)
  (fun _ _ l n => f1 84 l n)
  (fun v _ _ l n => f2s 16 v l n)
  (fun cc p _ n => decide (decode cc p = .ok (.caload, n)))
  (fun cc p _ n => decide (decode cc p = .ok (.castore, n)))
  (fun x0 cc p _ n => decide (decode cc p = .ok (.checkcast x0, n)))
  (fun cc p _ n => decide (decode cc p = .ok (.d2f, n)))
  (fun cc p _ n => decide (decode cc p = .ok (.d2i, n)))
  (fun cc p _ n => decide (decode cc p = .ok (.d2l, n)))
  (fun cc p _ n => decide (decode cc p = .ok (.dadd, n)))
  (fun cc p _ n => decide (decode cc p = .ok (.daload, n)))
  (fun cc p _ n => decide (decode cc p = .ok (.dastore, n)))
  (fun x0 cc p _ n => decide (decode cc p = .ok (.dcmp x0, n)))
  (fun x0 cc p _ n => decide (decode cc p = .ok (.dconst x0, n)))
  (fun cc p _ n => decide (decode cc p = .ok (.ddiv, n)))
  (fun x0 cc p _ n => decide (decode cc p = .ok (.dload x0, n)))
  (fun x0 cc p _ n => decide (decode cc p = .ok (.dload_n x0, n)))
  (fun cc p _ n => decide (decode cc p = .ok (.dmul, n)))
  (fun cc p _ n => decide (decode cc p = .ok (.dneg, n)))
  (fun cc p _ n => decide (decode cc p = .ok (.drem, n)))
  (fun cc p _ n => decide (decode cc p = .ok (.dreturn, n)))
  (fun x0 cc p _ n => decide (decode cc p = .ok (.dstore x0, n)))
  (fun x0 cc p _ n => decide (decode cc p = .ok (.dstore_n x0, n)))
  (fun cc p _ n => decide (decode cc p = .ok (.dsub, n)))
  (fun _ _ l n => f1 89 l n)
  (fun _ _ l n => f1 90 l n)
  (fun cc p _ n => decide (decode cc p = .ok (.dup_x2, n)))
  (fun _ _ l n => f1 92 l n)
  (fun cc p _ n => decide (decode cc p = .ok (.dup2_x1, n)))
  (fun cc p _ n => decide (decode cc p = .ok (.dup2_x2, n)))
  (fun cc p _ n => decide (decode cc p = .ok (.f2d, n)))
  (fun cc p _ n => decide (decode cc p = .ok (.f2i, n)))
  (fun cc p _ n => decide (decode cc p = .ok (.f2l, n)))
  (fun cc p _ n => decide (decode cc p = .ok (.fadd, n)))
  (fun cc p _ n => decide (decode cc p = .ok (.faload, n)))
  (fun cc p _ n => decide (decode cc p = .ok (.fastore, n)))
  (fun x0 cc p _ n => decide (decode cc p = .ok (.fcmp x0, n)))
  (fun x0 cc p _ n => decide (decode cc p = .ok (.fconst x0, n)))
  (fun cc p _ n => decide (decode cc p = .ok (.fdiv, n)))
  (fun x0 cc p _ n => decide (decode cc p = .ok (.fload x0, n)))
  (fun x0 cc p _ n => decide (decode cc p = .ok (.fload_n x0, n)))
  (fun cc p _ n => decide (decode cc p = .ok (.fmul, n)))
  (fun cc p _ n => decide (decode cc p = .ok (.fneg, n)))
  (fun cc p _ n => decide (decode cc p = .ok (.frem, n)))
  (fun cc p _ n => decide (decode cc p = .ok (.freturn, n)))
  (fun x0 cc p _ n => decide (decode cc p = .ok (.fstore x0, n)))
  (fun x0 cc p _ n => decide (decode cc p = .ok (.fstore_n x0, n)))
  (fun cc p _ n => decide (decode cc p = .ok (.fsub, n)))
  (fun v _ _ l n => f3 180 v l n)
  (fun x0 cc p _ n => decide (decode cc p = .ok (.getstatic x0, n)))
  (fun v _ _ l n => f3s 167 v l n)
  (fun x0 cc p _ n => decide (decode cc p = .ok (.goto_w x0, n)))
  (fun _ _ l n => f1 145 l n)
  (fun cc p _ n => decide (decode cc p = .ok (.i2c, n)))
  (fun cc p _ n => decide (decode cc p = .ok (.i2d, n)))
  (fun cc p _ n => decide (decode cc p = .ok (.i2f, n)))
  (fun _ _ l n => f1 133 l n)
  (fun cc p _ n => decide (decode cc p = .ok (.i2s, n)))
  (fun _ _ l n => f1 96 l n)
  (fun _ _ l n => f1 46 l n)
  (fun _ _ l n => f1 126 l n)
  (fun _ _ l n => f1 79 l n)
  (fun v _ _ l n => fcon v l n)
  (fun _ _ l n => f1 108 l n)
  (fun x0 x1 cc p _ n => decide (decode cc p = .ok (.if_acmp x0 x1, n)))
  (fun c v _ _ l n => f3s (159 + fcx c) v l n)
  (fun c v _ _ l n => f3s (153 + fcx c) v l n)
  (fun x0 cc p _ n => decide (decode cc p = .ok (.ifnonnull x0, n)))
  (fun x0 cc p _ n => decide (decode cc p = .ok (.ifnull x0, n)))
  (fun i v _ _ l n => f3i 132 i v l n)
  (fun v _ _ l n => f2 21 v l n)
  (fun k _ _ l n => f1 (26 + k.val) l n)
  (fun _ _ l n => f1 104 l n)
  (fun _ _ l n => f1 116 l n)
  (fun x0 cc p _ n => decide (decode cc p = .ok (.instanceof x0, n)))
  (fun x0 cc p _ n => decide (decode cc p = .ok (.invokedynamic x0, n)))
  (fun x0 x1 cc p _ n => decide (decode cc p = .ok (.invokeinterface x0 x1, n)))
  (fun v _ _ l n => f3 183 v l n)
  (fun v _ _ l n => f3 184 v l n)
  (fun v _ _ l n => f3 182 v l n)
  (fun _ _ l n => f1 128 l n)
  (fun _ _ l n => f1 112 l n)
  (fun _ _ l n => f1 172 l n)
  (fun _ _ l n => f1 120 l n)
  (fun _ _ l n => f1 122 l n)
  (fun v _ _ l n => f2 54 v l n)
  (fun k _ _ l n => f1 (59 + k.val) l n)
  (fun _ _ l n => f1 100 l n)
  (fun _ _ l n => f1 124 l n)
  (fun _ _ l n => f1 130 l n)
  (fun x0 cc p _ n => decide (decode cc p = .ok (.jsr x0, n)))
  (fun x0 cc p _ n => decide (decode cc p = .ok (.jsr_w x0, n)))
  (fun cc p _ n => decide (decode cc p = .ok (.l2d, n)))
  (fun cc p _ n => decide (decode cc p = .ok (.l2f, n)))
  (fun _ _ l n => f1 136 l n)
  (fun _ _ l n => f1 97 l n)
  (fun cc p _ n => decide (decode cc p = .ok (.laload, n)))
  (fun _ _ l n => f1 127 l n)
  (fun cc p _ n => decide (decode cc p = .ok (.lastore, n)))
  (fun _ _ l n => f1 148 l n)
  (fun k _ _ l n => f1 (9 + k.val) l n)
  (fun v _ _ l n => f2 18 v l n)
  (fun v _ _ l n => f3 19 v l n)
  (fun v _ _ l n => f3 20 v l n)
  (fun cc p _ n => decide (decode cc p = .ok (.ldiv, n)))
  (fun v _ _ l n => f2 22 v l n)
  (fun k _ _ l n => f1 (30 + k.val) l n)
  (fun _ _ l n => f1 105 l n)
  (fun cc p _ n => decide (decode cc p = .ok (.lneg, n)))
  (fun x0 x1 cc p _ n => decide (decode cc p = .ok (.lookupswitch x0 x1, n)))
  (fun _ _ l n => f1 129 l n)
  (fun cc p _ n => decide (decode cc p = .ok (.lrem, n)))
  (fun _ _ l n => f1 173 l n)
  (fun _ _ l n => f1 121 l n)
  (fun cc p _ n => decide (decode cc p = .ok (.lshr, n)))
  (fun v _ _ l n => f2 55 v l n)
  (fun k _ _ l n => f1 (63 + k.val) l n)
  (fun _ _ l n => f1 101 l n)
  (fun _ _ l n => f1 125 l n)
  (fun _ _ l n => f1 131 l n)
  (fun cc p _ n => decide (decode cc p = .ok (.monitorenter, n)))
  (fun cc p _ n => decide (decode cc p = .ok (.monitorexit, n)))
  (fun x0 x1 cc p _ n => decide (decode cc p = .ok (.multianewarray x0 x1, n)))
  (fun v _ _ l n => f3 187 v l n)
  (fun x0 cc p _ n => decide (decode cc p = .ok (.newarray x0, n)))
  (fun cc p _ n => decide (decode cc p = .ok (.nop, n)))
  (fun _ _ l n => f1 87 l n)
  (fun _ _ l n => f1 88 l n)
  (fun v _ _ l n => f3 181 v l n)
  (fun x0 cc p _ n => decide (decode cc p = .ok (.putstatic x0, n)))
  (fun x0 cc p _ n => decide (decode cc p = .ok (.ret x0, n)))
  (fun _ _ l n => f1 177 l n)
  (fun cc p _ n => decide (decode cc p = .ok (.saload, n)))
  (fun cc p _ n => decide (decode cc p = .ok (.sastore, n)))
  (fun v _ _ l n => f3s 17 v l n)
  (fun cc p _ n => decide (decode cc p = .ok (.swap, n)))
  (fun x0 x1 x2 x3 cc p _ n => decide (decode cc p = .ok (.tableswitch x0 x1 x2 x3, n)))
  I cc p l n
noncomputable def lnQ (I : Instr) : Nat := Instr.rec (motive := fun _ => Nat)
  (3)
  (3)
  (3)
  (fun _ => 2)
  (fun _ => 1)
  (fun _ => 3)
  (1)
  (1)
  (fun _ => 2)
  (fun _ => 1)
  (3)
  (1)
  (1)
  (fun _ => 2)
  (3)
  (3)
  (fun _ => 3)
  (3)
  (3)
  (3)
  (3)
  (3)
  (3)
  (fun _ => 3)
  (fun _ => 3)
  (3)
  (fun _ => 3)
  (fun _ => 3)
  (3)
  (3)
  (3)
  (3)
  (fun _ => 3)
  (fun _ => 3)
  (3)
  (1)
  (1)
  (3)
  (1)
  (3)
  (3)
  (3)
  (3)
  (3)
  (3)
  (3)
  (3)
  (fun _ => 3)
  (fun _ => 3)
  (3)
  (fun _ => 3)
  (fun _ => 3)
  (3)
  (3)
  (3)
  (3)
  (fun _ => 3)
  (fun _ => 3)
  (3)
  (fun _ => 3)
  (fun _ => 3)
  (fun _ => 3)
  (fun _ => 3)
  (1)
  (3)
  (3)
  (3)
  (1)
  (3)
  (1)
  (1)
  (1)
  (1)
  (fun _ => 1)
  (1)
  (fun _ _ => 3)
  (fun _ _ => 3)
  (fun _ _ => 3)
  (fun _ => 3)
  (fun _ => 3)
  (fun _ _ => 3)
  (fun _ => 2)
  (fun _ => 1)
  (1)
  (1)
  (fun _ => 3)
  (fun _ => 3)
  (fun _ _ => 3)
  (fun _ => 3)
  (fun _ => 3)
  (fun _ => 3)
  (1)
  (1)
  (1)
  (1)
  (1)
  (fun _ => 2)
  (fun _ => 1)
  (1)
  (1)
  (1)
  (fun _ => 3)
  (fun _ => 3)
  (3)
  (3)
  (1)
  (1)
  (3)
  (1)
  (3)
  (1)
  (fun _ => 1)
  (fun _ => 2)
  (fun _ => 3)
  (fun _ => 3)
  (3)
  (fun _ => 2)
  (fun _ => 1)
  (1)
  (3)
  (fun _ _ => 9)
  (1)
  (3)
  (1)
  (1)
  (3)
  (fun _ => 2)
  (fun _ => 1)
  (1)
  (1)
  (1)
  (3)
  (3)
  (fun _ _ => 3)
  (fun _ => 3)
  (fun _ => 2)
  (3)
  (1)
  (1)
  (fun _ => 3)
  (fun _ => 3)
  (fun _ => 3)
  (1)
  (3)
  (3)
  (fun _ => 3)
  (3)
  (fun _ _ _ _ => 9)
  I
theorem lnQ_ok {I : Instr} {n : Nat} (h : (Nat.beq (lnQ I) 9 || Nat.beq (lnQ I) n) = true) : (sx_isSw I || Nat.beq (sx_len I) n) = true := by
  cases I <;> first | rfl | exact h
theorem fchk_ok {I : Instr} (h : fchk code p l I n = true) (hd : code.data.toList.drop p = l) : decode code p = .ok (I, n) := by
  cases I with
  | iaload => exact f1_ok h hd fo_iaload
  | baload => exact f1_ok h hd fo_baload
  | iastore => exact f1_ok h hd fo_iastore
  | bastore => exact f1_ok h hd fo_bastore
  | pop => exact f1_ok h hd fo_pop
  | pop2 => exact f1_ok h hd fo_pop2
  | dup => exact f1_ok h hd fo_dup
  | dup_x1 => exact f1_ok h hd fo_dup_x1
  | dup2 => exact f1_ok h hd fo_dup2
  | iadd => exact f1_ok h hd fo_iadd
  | ladd => exact f1_ok h hd fo_ladd
  | isub => exact f1_ok h hd fo_isub
  | lsub => exact f1_ok h hd fo_lsub
  | imul => exact f1_ok h hd fo_imul
  | lmul => exact f1_ok h hd fo_lmul
  | idiv => exact f1_ok h hd fo_idiv
  | irem => exact f1_ok h hd fo_irem
  | ineg => exact f1_ok h hd fo_ineg
  | ishl => exact f1_ok h hd fo_ishl
  | lshl => exact f1_ok h hd fo_lshl
  | ishr => exact f1_ok h hd fo_ishr
  | iushr => exact f1_ok h hd fo_iushr
  | lushr => exact f1_ok h hd fo_lushr
  | iand => exact f1_ok h hd fo_iand
  | land => exact f1_ok h hd fo_land
  | ior => exact f1_ok h hd fo_ior
  | lor => exact f1_ok h hd fo_lor
  | ixor => exact f1_ok h hd fo_ixor
  | lxor => exact f1_ok h hd fo_lxor
  | i2l => exact f1_ok h hd fo_i2l
  | l2i => exact f1_ok h hd fo_l2i
  | i2b => exact f1_ok h hd fo_i2b
  | lcmp => exact f1_ok h hd fo_lcmp
  | ireturn => exact f1_ok h hd fo_ireturn
  | lreturn => exact f1_ok h hd fo_lreturn
  | areturn => exact f1_ok h hd fo_areturn
  | return_ => exact f1_ok h hd fo_return_
  | arraylength => exact f1_ok h hd fo_arraylength
  | iload_n k =>
    obtain ⟨k, hk⟩ := k
    match k, hk, h with
    | 0, _, h => exact f1_ok h hd fo_iload_n0
    | 1, _, h => exact f1_ok h hd fo_iload_n1
    | 2, _, h => exact f1_ok h hd fo_iload_n2
    | 3, _, h => exact f1_ok h hd fo_iload_n3
    | k + 4, hk, _ => exact absurd hk (by omega)
  | lload_n k =>
    obtain ⟨k, hk⟩ := k
    match k, hk, h with
    | 0, _, h => exact f1_ok h hd fo_lload_n0
    | 1, _, h => exact f1_ok h hd fo_lload_n1
    | 2, _, h => exact f1_ok h hd fo_lload_n2
    | 3, _, h => exact f1_ok h hd fo_lload_n3
    | k + 4, hk, _ => exact absurd hk (by omega)
  | aload_n k =>
    obtain ⟨k, hk⟩ := k
    match k, hk, h with
    | 0, _, h => exact f1_ok h hd fo_aload_n0
    | 1, _, h => exact f1_ok h hd fo_aload_n1
    | 2, _, h => exact f1_ok h hd fo_aload_n2
    | 3, _, h => exact f1_ok h hd fo_aload_n3
    | k + 4, hk, _ => exact absurd hk (by omega)
  | istore_n k =>
    obtain ⟨k, hk⟩ := k
    match k, hk, h with
    | 0, _, h => exact f1_ok h hd fo_istore_n0
    | 1, _, h => exact f1_ok h hd fo_istore_n1
    | 2, _, h => exact f1_ok h hd fo_istore_n2
    | 3, _, h => exact f1_ok h hd fo_istore_n3
    | k + 4, hk, _ => exact absurd hk (by omega)
  | lstore_n k =>
    obtain ⟨k, hk⟩ := k
    match k, hk, h with
    | 0, _, h => exact f1_ok h hd fo_lstore_n0
    | 1, _, h => exact f1_ok h hd fo_lstore_n1
    | 2, _, h => exact f1_ok h hd fo_lstore_n2
    | 3, _, h => exact f1_ok h hd fo_lstore_n3
    | k + 4, hk, _ => exact absurd hk (by omega)
  | astore_n k =>
    obtain ⟨k, hk⟩ := k
    match k, hk, h with
    | 0, _, h => exact f1_ok h hd fo_astore_n0
    | 1, _, h => exact f1_ok h hd fo_astore_n1
    | 2, _, h => exact f1_ok h hd fo_astore_n2
    | 3, _, h => exact f1_ok h hd fo_astore_n3
    | k + 4, hk, _ => exact absurd hk (by omega)
  | lconst k =>
    obtain ⟨k, hk⟩ := k
    match k, hk, h with
    | 0, _, h => exact f1_ok h hd fo_lconst0
    | 1, _, h => exact f1_ok h hd fo_lconst1
    | k + 2, hk, _ => exact absurd hk (by omega)
  | ldc v => exact f2_ok h hd fo_ldc
  | iload v => exact f2_ok h hd fo_iload
  | lload v => exact f2_ok h hd fo_lload
  | aload v => exact f2_ok h hd fo_aload
  | istore v => exact f2_ok h hd fo_istore
  | lstore v => exact f2_ok h hd fo_lstore
  | astore v => exact f2_ok h hd fo_astore
  | ldc_w v => exact f3_ok h hd fo_ldc_w
  | ldc2_w v => exact f3_ok h hd fo_ldc2_w
  | getfield v => exact f3_ok h hd fo_getfield
  | putfield v => exact f3_ok h hd fo_putfield
  | invokevirtual v => exact f3_ok h hd fo_invokevirtual
  | invokespecial v => exact f3_ok h hd fo_invokespecial
  | invokestatic v => exact f3_ok h hd fo_invokestatic
  | new v => exact f3_ok h hd fo_new
  | bipush v => exact f2s_ok h hd fo_bipush
  | sipush v => exact f3s_ok h hd fo_sipush
  | goto v => exact f3s_ok h hd fo_goto
  | iinc i v => exact f3i_ok h hd fo_iinc
  | ifCond c v =>
    cases c with
    | eq => exact f3s_ok h hd fo_ifeq
    | ne => exact f3s_ok h hd fo_ifne
    | lt => exact f3s_ok h hd fo_iflt
    | ge => exact f3s_ok h hd fo_ifge
    | gt => exact f3s_ok h hd fo_ifgt
    | le => exact f3s_ok h hd fo_ifle
  | if_icmp c v =>
    cases c with
    | eq => exact f3s_ok h hd fo_icmpeq
    | ne => exact f3s_ok h hd fo_icmpne
    | lt => exact f3s_ok h hd fo_icmplt
    | ge => exact f3s_ok h hd fo_icmpge
    | gt => exact f3s_ok h hd fo_icmpgt
    | le => exact f3s_ok h hd fo_icmple
  | iconst v => exact fcon_ok h hd
  | _ => exact of_decide_eq_true h
/-- rows of code, one behind the other -/
noncomputable def fwalk (cc : ByteArray) (l : List UInt8) (p : Nat) : List sx_E → Bool
  | [] => true
  | E :: t => Nat.beq E.1 p && (fchk cc p l E.2.1 E.2.2.1 && ((Nat.beq (lnQ E.2.1) 9 || Nat.beq (lnQ E.2.1) E.2.2.1) && fwalk cc (l.drop E.2.2.1) (p + E.2.2.1) t))
theorem fwalk_ok : ∀ (t : List sx_E) (l : List UInt8) (p : Nat), fwalk code l p t = true → code.data.toList.drop p = l → ∀ E ∈ t, sx_dec code E = true
  | [], _, _, _, _, E, hE => by cases hE
  | F :: t, l, p, h, hd, E, hE => by
    unfold fwalk at h
    rw [Bool.and_eq_true, Bool.and_eq_true, Bool.and_eq_true] at h
    obtain ⟨h1, h2, h3', h4⟩ := h
    have h3 := lnQ_ok h3'
    have e1 := Nat.eq_of_beq_eq_true h1
    rcases List.mem_cons.mp hE with rfl | hE
    · unfold sx_dec
      rw [e1, fchk_ok h2 hd, decide_eq_true rfl, Bool.true_and]
      rw [Bool.or_eq_true] at h3 ⊢
      exact h3.imp id (fun q => decide_eq_true (Nat.eq_of_beq_eq_true q))
    · refine fwalk_ok t _ _ h4 ?_ E hE
      rw [← hd, List.drop_drop]
end FD
