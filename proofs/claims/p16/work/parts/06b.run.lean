/-! the reader's steps and runs -/
def ax_nofp (t : FieldType) : Bool := match t with
  | .float => false
  | .double => false
  | _ => true
def ax_1 (env : ax_N) (pc : Nat) (l : ax_L) (st : List ax_V) (w : ax_W) (c s : Nat) : Option (List ax_S) := some [(env, pc, l, st, w, c, s)]
def ax_b2 (g : ax_N → ax_V → ax_V → Option ax_V) (env : ax_N) (pc : Nat) (l : ax_L) (st : List ax_V) (w : ax_W) (c s : Nat) : Option (List ax_S) := match st with
  | b :: a :: r => match g env a b with
    | some x => ax_1 env (pc + 1) l (x :: r) w c s
    | none => none
  | _ => none
def ax_ld (t : Nat) (n i : Nat) (env : ax_N) (pc : Nat) (l : ax_L) (st : List ax_V) (w : ax_W) (c s : Nat) : Option (List ax_S) := match ax_get l i with
  | some a => if (t = 0 ∧ (a.1 = 0 ∨ a.1 = 4)) ∨ (t = 1 ∧ a.1 = 1) ∨ (t = 2 ∧ (a.1 = 2 ∨ a.1 = 3)) then ax_1 env (pc + n) l (a :: st) w c s else none
  | none => none
def ax_sto (t : Nat) (n nL i : Nat) (env : ax_N) (pc : Nat) (l : ax_L) (st : List ax_V) (w : ax_W) (c s : Nat) : Option (List ax_S) := match st with
  | a :: r => if t = 1 then (if a.1 = 1 ∧ i + 1 < nL then ax_1 env (pc + n) (ax_set2 l i a) r w c s else none)
    else if i < nL ∧ ((t = 0 ∧ (a.1 = 0 ∨ a.1 = 4)) ∨ (t = 2 ∧ a.1 = 2)) then ax_1 env (pc + n) (ax_set l i a) r w c s else none
  | _ => none
def ax_tsw1 (pc : Nat) (off : Int) (env : ax_N) (l : ax_L) (st : List ax_V) (w : ax_W) (c s : Nat) : Option ax_S := if 0 ≤ (pc : Int) + off then some (env, ((pc : Int) + off).toNat, l, st, w, c, s) else none
/-- the ways of a table: each number between, from j on -/
def ax_tswG (p : Int × Int) (lo : Int) (offs : List Int) (a : ax_V) (env : ax_N) (pc : Nat) (l : ax_L) (st : List ax_V) (w : ax_W) (c s : Nat) : Option (List ax_S) := match offs with
  | [] => some []
  | o :: r => match ax_tswG p (lo + 1) r a env pc l st w c s with
    | some ys => if p.1 ≤ lo ∧ lo ≤ p.2 then (match ax_tsw1 pc o (ax_upd env a (lo, lo)) l st w c s with
      | some y => some (y :: ys)
      | none => none) else some ys
    | none => none
def ax_tsw (d lo hi : Int) (offs : Array Int) (a : ax_V) (env : ax_N) (pc : Nat) (l : ax_L) (st : List ax_V) (w : ax_W) (c s : Nat) : Option (List ax_S) := match ax_iv env a with
  | some p => if lo + (offs.toList.length : Int) = hi + 1 then (match ax_tswG p lo offs.toList a env pc l st w c s with
    | some ys => match ax_tsw1 pc d (ax_upd env a (p.1, min p.2 (lo - 1))) l st w c s, ax_tsw1 pc d (ax_upd env a (max p.1 (hi + 1), p.2)) l st w c s with
      | some y1, some y2 => some ((if p.1 < lo then [y1] else []) ++ ((if hi < p.2 then [y2] else []) ++ ys))
      | _, _ => none
    | none => none) else none
  | none => none
def ax_lswG (p : Int × Int) (ps : List (Int × Int)) (a : ax_V) (env : ax_N) (pc : Nat) (l : ax_L) (st : List ax_V) (w : ax_W) (c s : Nat) : Option (List ax_S) := match ps with
  | [] => some []
  | (x, o) :: r => match ax_lswG p r a env pc l st w c s with
    | some ys => if p.1 ≤ x ∧ x ≤ p.2 then (match ax_tsw1 pc o (ax_upd env a (x, x)) l st w c s with
      | some y => some (y :: ys)
      | none => none) else some ys
    | none => none
def ax_lsw (d : Int) (ps : Array (Int × Int)) (a : ax_V) (env : ax_N) (pc : Nat) (l : ax_L) (st : List ax_V) (w : ax_W) (c s : Nat) : Option (List ax_S) := match ax_iv env a with
  | some p => if (ps.toList.zip (ps.toList.drop 1)).all (fun (a, next) => a.1 < next.1) = true then (match ax_lswG p ps.toList a env pc l st w c s, ax_tsw1 pc d env l st w c s with
    | some ys, some y => some (if p.1 = p.2 ∧ ps.toList.any (fun q => q.1 == p.1) = true then ys else y :: ys)
    | _, _ => none) else none
  | none => none
def ax_aget (t : Nat) (env : ax_N) (pc : Nat) (l : ax_L) (st : List ax_V) (w : ax_W) (c s : Nat) : Option (List ax_S) := match st with
  | i :: x :: r => match ax_iv env i with
    | some p => if x.1 = 2 then (match w[x.2.1.toNat]? with
      | some (t', vs) => if t' = t ∧ 0 ≤ p.1 ∧ p.2 < (ax_len vs : Int) then (if p.1 = p.2 then (match ax_nth vs p.1.toNat with
          | some y => if (ax_iv env y).isSome then ax_1 env (pc + 1) l (y :: r) w c s else none
          | none => none) else (match ax_jall env (ax_take (ax_drop vs p.1.toNat) (p.2.toNat + 1 - p.1.toNat)) with
          | some y => if (ax_iv env y).isSome then ax_1 env (pc + 1) l (y :: r) w c s else none
          | none => none)) else none
      | none => none) else if x.1 = 3 ∧ t = 100 then (match env[8]? with
        | some q => if p.1 = p.2 ∧ 0 ≤ p.1 ∧ p.1 < 8 ∧ p.1 < q.1 ∧ p.1.toNat < env.length then ax_1 env (pc + 1) l ((4, p.1, 0) :: r) w c s else none
        | none => none) else none
    | none => none
  | _ => none
def ax_nar (t : Nat) (p : Int × Int) (a : ax_V) : ax_V := if t = 100 then a else if p.1 = p.2 then (0, (vp_nar .byte (Int32.ofInt p.1)).toInt, (vp_nar .byte (Int32.ofInt p.1)).toInt) else (0, -128, 127)
def ax_aput (t : Nat) (env : ax_N) (pc : Nat) (l : ax_L) (st : List ax_V) (w : ax_W) (c s : Nat) : Option (List ax_S) := match st with
  | v :: i :: x :: r => match ax_iv env i, ax_iv env v with
    | some p, some q => if x.1 = 2 then (match w[x.2.1.toNat]? with
      | some (t', vs) => if t' = t ∧ 0 ≤ p.1 ∧ p.2 < (ax_len vs : Int) then (if p.1 = p.2 then ax_1 env (pc + 1) l r (w.set x.2.1.toNat (t', ax_put vs p.1.toNat (ax_nar t q v))) c s
          else (match ax_weak env vs p.1.toNat p.2.toNat (ax_nar t q v) with
          | some vs' => ax_1 env (pc + 1) l r (w.set x.2.1.toNat (t', vs')) c s
          | none => none)) else none
      | none => none) else none
    | _, _ => none
  | _ => none
def ax_sg (env : ax_N) (a : ax_V) : Option Nat := match ax_iv env a with
  | some p => if p.1 = p.2 ∧ 0 ≤ p.1 then some p.1.toNat else none
  | none => none
def ax_copy (env : ax_N) (pc : Nat) (l : ax_L) (st : List ax_V) (w : ax_W) (c s : Nat) : Option (List ax_S) := match st with
  | n :: dp :: x1 :: sp :: x0 :: r => match ax_sg env n, ax_sg env dp, ax_sg env sp with
    | some n, some dp, some sp => if x0.1 = 2 ∧ x1.1 = 2 ∧ ax_csum r ≤ 8 then (match w[x0.2.1.toNat]?, w[x1.2.1.toNat]? with
      | some (t0, f), some (t1, g) => if t0 = 100 ∧ t1 = 100 ∧ sp + n ≤ ax_len f ∧ dp + n ≤ ax_len g then ax_1 env (pc + 3) l r (w.set x1.2.1.toNat (t1, ax_app (ax_take g dp) (ax_app (ax_take (ax_drop f sp) n) (ax_drop g (dp + n))))) c s else none
      | _, _ => none) else none
    | _, _, _ => none
  | _ => none
def ax_mm (up : Bool) (env : ax_N) (pc : Nat) (l : ax_L) (st : List ax_V) (w : ax_W) (c s : Nat) : Option (List ax_S) := match st with
  | b :: a :: r => match ax_iv env a, ax_iv env b with
    | some p, some q => if ax_csum r ≤ 8 then ax_1 env (pc + 3) l ((0, if up then max p.1 q.1 else min p.1 q.1, if up then max p.2 q.2 else min p.2 q.2) :: r) w c s else none
    | _, _ => none
  | _ => none
def ax_step (P : sx_P) (nL : Nat) (E : sx_E) (S : ax_S) : Option (List ax_S) := match S with
  | (env, pc, l, st, w, c, s) => match E with
  | (_, I, _, a, k, _, z) => match I with
    | .iconst n => ax_1 env (pc + 1) l ((0, (Int32.ofInt n).toInt, (Int32.ofInt n).toInt) :: st) w c s
    | .bipush n => ax_1 env (pc + 2) l ((0, (Int8.ofInt n).toInt32.toInt, (Int8.ofInt n).toInt32.toInt) :: st) w c s
    | .sipush n => ax_1 env (pc + 3) l ((0, (Int16.ofInt n).toInt32.toInt, (Int16.ofInt n).toInt32.toInt) :: st) w c s
    | .lconst n => ax_1 env (pc + 1) l ((1, (Int64.ofNat (n : Nat)).toInt, (Int64.ofNat (n : Nat)).toInt) :: st) w c s
    | .ldc _ => ax_1 env (pc + 2) l ((0, (Int32.ofInt z).toInt, (Int32.ofInt z).toInt) :: st) w c s
    | .ldc_w _ => ax_1 env (pc + 3) l ((0, (Int32.ofInt z).toInt, (Int32.ofInt z).toInt) :: st) w c s
    | .ldc2_w _ => ax_1 env (pc + 3) l ((1, (Int64.ofInt z).toInt, (Int64.ofInt z).toInt) :: st) w c s
    | .iload_n i => ax_ld 0 1 (i : Nat) env pc l st w c s
    | .iload i => ax_ld 0 2 i env pc l st w c s
    | .lload_n i => ax_ld 1 1 (i : Nat) env pc l st w c s
    | .lload i => ax_ld 1 2 i env pc l st w c s
    | .aload_n i => ax_ld 2 1 (i : Nat) env pc l st w c s
    | .aload i => ax_ld 2 2 i env pc l st w c s
    | .istore_n i => ax_sto 0 1 nL (i : Nat) env pc l st w c s
    | .istore i => ax_sto 0 2 nL i env pc l st w c s
    | .lstore_n i => ax_sto 1 1 nL (i : Nat) env pc l st w c s
    | .lstore i => ax_sto 1 2 nL i env pc l st w c s
    | .astore_n i => ax_sto 2 1 nL (i : Nat) env pc l st w c s
    | .astore i => ax_sto 2 2 nL i env pc l st w c s
    | .iinc i n => match ax_get l i with
      | some x => (match ax_iadd env x (0, (Int32.ofInt n).toInt, (Int32.ofInt n).toInt) with
        | some y => if i < nL then ax_1 env (pc + 3) (ax_set l i y) st w c s else none
        | none => none)
      | none => none
    | .iadd => ax_b2 ax_iadd env pc l st w c s
    | .isub => ax_b2 ax_isub env pc l st w c s
    | .imul => ax_b2 ax_imul env pc l st w c s
    | .iand => ax_b2 ax_iand env pc l st w c s
    | .ior => ax_b2 (ax_gen (fun x y => x ||| y)) env pc l st w c s
    | .ixor => ax_b2 (ax_gen (fun x y => x ^^^ y)) env pc l st w c s
    | .idiv => ax_b2 (ax_quo (fun x y => if y = 0 then none else some (x / y))) env pc l st w c s
    | .irem => ax_b2 (ax_quo (fun x y => if y = 0 then none else some (x - x / y * y))) env pc l st w c s
    | .ishl => ax_b2 (ax_gen (fun x y => x <<< (y &&& 31))) env pc l st w c s
    | .ishr => ax_b2 ax_ishr env pc l st w c s
    | .iushr => ax_b2 (ax_gen (fun x y => (x.toUInt32 >>> (y.toUInt32 &&& Int32.toUInt32 31)).toInt32)) env pc l st w c s
    | .i2l => match st with
      | a :: r => match ax_iv env a with
        | some p => ax_1 env (pc + 1) l ((1, p.1, p.2) :: r) w c s
        | none => none
      | _ => none
    | .i2b => match st with
      | a :: r => match ax_iv env a with
        | some p => ax_1 env (pc + 1) l ((if p.1 = p.2 then (0, (Int32.ofInt p.1).toInt8.toInt32.toInt, (Int32.ofInt p.1).toInt8.toInt32.toInt) else (0, -128, 127)) :: r) w c s
        | none => none
      | _ => none
    | .l2i => match st with
      | a :: r => if a.1 = 1 then ax_1 env (pc + 1) l ((if a.2.1 = a.2.2 then (0, (Int64.ofInt a.2.1).toInt32.toInt, (Int64.ofInt a.2.1).toInt32.toInt) else ax_top) :: r) w c s else none
      | _ => none
    | .ladd => ax_b2 (fun _ => ax_lex (fun x y => x + y)) env pc l st w c s
    | .lsub => ax_b2 (fun _ => ax_lex (fun x y => x - y)) env pc l st w c s
    | .lmul => ax_b2 (fun _ => ax_lex (fun x y => x * y)) env pc l st w c s
    | .land => ax_b2 (fun _ => ax_lex (fun x y => x &&& y)) env pc l st w c s
    | .lor => ax_b2 (fun _ => ax_lex (fun x y => x ||| y)) env pc l st w c s
    | .lxor => ax_b2 (fun _ => ax_lex (fun x y => x ^^^ y)) env pc l st w c s
    | .lshl => ax_b2 (ax_lsh (fun x y => x <<< (y.toInt64 &&& 63))) env pc l st w c s
    | .lushr => ax_b2 (ax_lsh (fun x y => (x.toUInt64 >>> (y.toInt64.toUInt64 &&& Int64.toUInt64 63)).toInt64)) env pc l st w c s
    | .lcmp => match st with
      | b :: a :: r => if a.1 = 1 ∧ b.1 = 1 then ax_1 env (pc + 1) l ((if b.2.2 < a.2.1 then (0, 1, 1) else if a.2.2 < b.2.1 then (0, -1, -1) else if a.2.1 = a.2.2 ∧ b.2.1 = b.2.2 then (0, 0, 0) else (0, -1, 1)) :: r) w c s else none
      | _ => none
    | .dup => match st with
      | a :: r => if a.1 = 1 then none else ax_1 env (pc + 1) l (a :: a :: r) w c s
      | _ => none
    | .pop => match st with
      | a :: r => if a.1 = 1 then none else ax_1 env (pc + 1) l r w c s
      | _ => none
    | .dup_x1 => match st with
      | a :: b :: r => if a.1 = 1 ∨ b.1 = 1 then none else ax_1 env (pc + 1) l (a :: b :: a :: r) w c s
      | _ => none
    | .dup2 => match st with
      | a :: b :: r => if a.1 = 1 ∨ b.1 = 1 then none else ax_1 env (pc + 1) l (a :: b :: a :: b :: r) w c s
      | _ => none
    | .ifCond kc off => match st with
      | a :: r => ax_br kc off a (0, 0, 0) env pc l r w c s
      | _ => none
    | .if_icmp kc off => match st with
      | b :: a :: r => ax_br kc off a b env pc l r w c s
      | _ => none
    | .goto off => if 0 ≤ (pc : Int) + off then ax_1 env ((pc : Int) + off).toNat l st w c s else none
    | .tableswitch d lo hi offs => match st with
      | a :: r => ax_tsw d lo hi offs a env pc l r w c s
      | _ => none
    | .lookupswitch d ps => match st with
      | a :: r => ax_lsw d ps a env pc l r w c s
      | _ => none
    | .getfield _ => match st with
      | x :: r => if x.1 = 2 then (match w[x.2.1.toNat]? with
        | some (t, fs) => if t = a ∧ a < 100 then (match ax_nth fs k with
          | some y => ax_1 env (pc + 3) l (y :: r) w c s
          | none => none) else none
        | none => none) else none
      | _ => none
    | .putfield _ => match st with
      | y :: x :: r => if x.1 = 2 then (match w[x.2.1.toNat]? with
        | some (t, fs) => if t = a ∧ a < 100 ∧ k < ax_len fs ∧ ax_fit env (P.2.2.1 a k) y = true then ax_1 env (pc + 3) l r (w.set x.2.1.toNat (t, ax_put fs k y)) c s else none
        | none => none) else none
      | _ => none
    | .iaload => ax_aget 100 env pc l st w c s
    | .baload => ax_aget 101 env pc l st w c s
    | .iastore => ax_aput 100 env pc l st w c s
    | .bastore => ax_aput 101 env pc l st w c s
    | .arraylength => match st with
      | x :: r => if x.1 = 2 then (match w[x.2.1.toNat]? with
        | some (t, fs) => if (t = 100 ∨ t = 101) ∧ ax_len fs < 2147483648 then ax_1 env (pc + 1) l ((0, (ax_len fs : Int), (ax_len fs : Int)) :: r) w c s else none
        | none => none) else if x.1 = 3 then ax_1 env (pc + 1) l ((4, 8, 0) :: r) w c s else none
      | _ => none
    | .new _ => match P.2.1[a]? with
      | some q => if a < 100 ∧ (List.range q.2.2).all (fun j => ax_nofp (P.2.2.1 a j)) = true then ax_1 env (pc + 3) l ((2, (w.length : Int), 0) :: st) (w ++ [(a, ax_rep (fun j => ax_dv (P.2.2.1 a j)) 0 q.2.2)]) (c + 1) (s + q.2.2) else none
      | none => none
    | .newarray _ => match st with
      | x :: r => if x.1 = 0 ∧ x.2.1 = x.2.2 ∧ 0 ≤ x.2.1 ∧ x.2.1 < 1000000 then ax_1 env (pc + 2) l ((2, (w.length : Int), 0) :: r) (w ++ [(a, ax_con x.2.1.toNat (0, 0, 0) [])]) (c + 1) (s + x.2.1.toNat) else none
      | _ => none
    | .invokespecial _ => if a = 1000 then (match st with
      | x :: r => if x.1 = 2 ∧ ax_csum r ≤ 8 then ax_1 env (pc + 3) l r w c s else none
      | _ => none) else none
    | .invokestatic _ => if a = 1001 then ax_copy env pc l st w c s
      else if a = 1002 then ax_mm true env pc l st w c s
      else if a = 1003 then ax_mm false env pc l st w c s else none
    | _ => none
