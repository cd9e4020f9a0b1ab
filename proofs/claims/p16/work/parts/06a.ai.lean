/-! THE READER OF ROADS: the simple machine over intervals. A value: (0, lo, hi) an int between; (1, lo, hi) a long between; (2, k, _) the cell k; (3, ..) the script; (4, i, _) the script's number i (8: its length) -/
abbrev ax_V : Type := Nat × Int × Int
/-- a row by runs -/
abbrev ax_A : Type := List (Nat × ax_V)
abbrev ax_W : Type := List (Nat × ax_A)
abbrev ax_N : Type := List (Int × Int)
abbrev ax_L : Type := List (Nat × ax_V)
/-- numbers of the script, pc, locals, operands, world, cells, slots -/
abbrev ax_S : Type := ax_N × Nat × ax_L × List ax_V × ax_W × Nat × Nat
abbrev ax_O : Type := ax_N × Option ax_V × ax_W
def ax_var (xs : List Int32) (i : Nat) : Int32 := if i = 8 then Int32.ofNat xs.length else xs.getD i 0
def ax_g (xs : List Int32) (a : ax_V) (v : Value) : Prop := match a.1 with
  | 0 => ∃ x : Int32, v = .int x ∧ a.2.1 ≤ x.toInt ∧ x.toInt ≤ a.2.2
  | 1 => ∃ x : Int64, v = .long x ∧ a.2.1 ≤ x.toInt ∧ x.toInt ≤ a.2.2
  | 2 => v = .ref a.2.1.toNat
  | 3 => v = .retAddr 0
  | 4 => v = .int (ax_var xs a.2.1.toNat)
  | 5 => v = .null
  | _ => False
def ax_env (xs : List Int32) (env : ax_N) : Prop := ∀ (i : Nat) (q : Int × Int), env[i]? = some q → q.1 ≤ (ax_var xs i).toInt ∧ (ax_var xs i).toInt ≤ q.2
def ax_iv (env : ax_N) (a : ax_V) : Option (Int × Int) := match a.1 with
  | 0 => some (a.2.1, a.2.2)
  | 4 => env[a.2.1.toNat]?
  | _ => none
def ax_top : ax_V := (0, -2147483648, 2147483647)
def ax_topL : ax_V := (1, -9223372036854775808, 9223372036854775807)
def ax_seg (xs : List Int32) : ax_A → List Value → Prop
  | [], vs => vs = []
  | (n, a) :: r, vs => n ≤ vs.length ∧ (∀ v ∈ vs.take n, ax_g xs a v) ∧ ax_seg xs r (vs.drop n)
def ax_len : ax_A → Nat
  | [] => 0
  | (n, _) :: r => n + ax_len r
def ax_nth : ax_A → Nat → Option ax_V
  | [], _ => none
  | (n, a) :: r, k => if k < n then some a else ax_nth r (k - n)
def ax_con (n : Nat) (a : ax_V) (r : ax_A) : ax_A := if n = 0 then r else match r with
  | [] => [(n, a)]
  | (m, b) :: r' => if a = b then (n + m, a) :: r' else (n, a) :: (m, b) :: r'
def ax_app : ax_A → ax_A → ax_A
  | [], r => r
  | (n, a) :: l, r => ax_con n a (ax_app l r)
def ax_take : ax_A → Nat → ax_A
  | [], _ => []
  | (n, a) :: r, k => if k ≤ n then ax_con k a [] else (n, a) :: ax_take r (k - n)
def ax_drop : ax_A → Nat → ax_A
  | [], _ => []
  | (n, a) :: r, k => if k < n then (n - k, a) :: r else ax_drop r (k - n)
def ax_put (r : ax_A) (k : Nat) (a : ax_V) : ax_A := ax_app (ax_take r k) (ax_con 1 a (ax_drop r (k + 1)))
/-- two values as one -/
def ax_join (env : ax_N) (a b : ax_V) : Option ax_V := if a = b then some a else match ax_iv env a, ax_iv env b with
  | some p, some q => some (0, min p.1 q.1, max p.2 q.2)
  | _, _ => if a.1 = 1 ∧ b.1 = 1 then some (1, min a.2.1 b.2.1, max a.2.2 b.2.2) else none
def ax_jmap (env : ax_N) (a : ax_V) : ax_A → Option ax_A
  | [] => some []
  | (n, b) :: r => match ax_join env a b, ax_jmap env a r with
    | some c, some r' => some (ax_con n c r')
    | _, _ => none
def ax_jall (env : ax_N) : ax_A → Option ax_V
  | [] => none
  | [(_, a)] => some a
  | (_, a) :: r => match ax_jall env r with
    | some b => ax_join env a b
    | none => none
/-- a value laid at some place from l to h -/
def ax_weak (env : ax_N) (r : ax_A) (l h : Nat) (a : ax_V) : Option ax_A := match ax_jmap env a (ax_take (ax_drop r l) (h + 1 - l)) with
  | some m => some (ax_app (ax_take r l) (ax_app m (ax_drop r (h + 1))))
  | none => none
def ax_gw (xs : List Int32) : ax_W → sx_W → Prop
  | [], w => w = []
  | (t, r) :: l, w => match w with
    | [] => False
    | x :: w' => x.1 = t ∧ ax_seg xs r x.2 ∧ ax_gw xs l w'
def ax_gl (xs : List Int32) (l : ax_L) (lv : sx_L) : Prop := ∀ q ∈ l, ∃ v, sx_get lv q.1 = some v ∧ ax_g xs q.2 v
def ax_gs (xs : List Int32) : List ax_V → List Value → Prop
  | [], st => st = []
  | a :: l, st => match st with
    | [] => False
    | v :: st' => ax_g xs a v ∧ ax_gs xs l st'
def ax_get (l : ax_L) (i : Nat) : Option ax_V := (l.find? (fun q => q.1 == i)).map (fun q => q.2)
def ax_set (l : ax_L) (i : Nat) (a : ax_V) : ax_L := (i, a) :: l.filter (fun q => !(q.1 == i) && !(q.1 + 1 == i && q.2.1 == 1))
def ax_set2 (l : ax_L) (i : Nat) (a : ax_V) : ax_L := (i, a) :: l.filter (fun q => !(q.1 == i) && (!(q.1 == i + 1) && !(q.1 + 1 == i && q.2.1 == 1)))
def ax_cat (a : ax_V) : Nat := if a.1 = 1 then 2 else 1
def ax_csum (st : List ax_V) : Nat := (st.map ax_cat).sum
def ax_args : Nat → List ax_V → ax_L
  | _, [] => []
  | i, a :: l => (i, a) :: ax_args (i + ax_cat a) l
/-! numbers -/
def ax_ex (f : Int32 → Int32 → Option Int32) (p q : Int × Int) : Option ax_V := if p.1 = p.2 ∧ q.1 = q.2 then (f (Int32.ofInt p.1) (Int32.ofInt q.1)).map (fun z => (0, z.toInt, z.toInt)) else none
def ax_rg (l h : Int) : ax_V := if -2147483648 ≤ l ∧ h ≤ 2147483647 then (0, l, h) else ax_top
def ax_iadd (env : ax_N) (a b : ax_V) : Option ax_V := match ax_iv env a, ax_iv env b with
  | some p, some q => some (ax_rg (p.1 + q.1) (p.2 + q.2))
  | _, _ => none
def ax_isub (env : ax_N) (a b : ax_V) : Option ax_V := match ax_iv env a, ax_iv env b with
  | some p, some q => some (ax_rg (p.1 - q.2) (p.2 - q.1))
  | _, _ => none
def ax_imul (env : ax_N) (a b : ax_V) : Option ax_V := match ax_iv env a, ax_iv env b with
  | some p, some q => if 0 ≤ p.1 ∧ 0 ≤ q.1 then some (ax_rg (p.1 * q.1) (p.2 * q.2)) else (ax_ex (fun x y => some (x * y)) p q).or (some ax_top)
  | _, _ => none
def ax_iand (env : ax_N) (a b : ax_V) : Option ax_V := match ax_iv env a, ax_iv env b with
  | some p, some q => if q.1 = -1 ∧ q.2 = -1 then some a else (ax_ex (fun x y => some (x &&& y)) p q).or (if q.1 = q.2 ∧ 0 ≤ q.1 then some (0, 0, q.2) else some ax_top)
  | _, _ => none
/-- an operation that is known of single numbers alone -/
def ax_gen (f : Int32 → Int32 → Int32) (env : ax_N) (a b : ax_V) : Option ax_V := match ax_iv env a, ax_iv env b with
  | some p, some q => (ax_ex (fun x y => some (f x y)) p q).or (some ax_top)
  | _, _ => none
def ax_ishr (env : ax_N) (a b : ax_V) : Option ax_V := match ax_iv env a, ax_iv env b with
  | some p, some q => if p.1 = 0 ∧ p.2 = 0 then some (0, 0, 0) else (ax_ex (fun x y => some (x >>> (y &&& 31))) p q).or (some ax_top)
  | _, _ => none
def ax_quo (f : Int32 → Int32 → Option Int32) (env : ax_N) (a b : ax_V) : Option ax_V := match ax_iv env a, ax_iv env b with
  | some p, some q => if 0 < q.1 ∨ q.2 < 0 then (ax_ex f p q).or (some ax_top) else none
  | _, _ => none
def ax_lex (f : Int64 → Int64 → Int64) (a b : ax_V) : Option ax_V := if a.1 = 1 ∧ b.1 = 1 then (if a.2.1 = a.2.2 ∧ b.2.1 = b.2.2 then some (1, (f (Int64.ofInt a.2.1) (Int64.ofInt b.2.1)).toInt, (f (Int64.ofInt a.2.1) (Int64.ofInt b.2.1)).toInt) else some ax_topL) else none
def ax_lsh (f : Int64 → Int32 → Int64) (env : ax_N) (a b : ax_V) : Option ax_V := if a.1 = 1 then (match ax_iv env b with
  | some q => if a.2.1 = 0 ∧ a.2.2 = 0 then some (1, 0, 0) else if a.2.1 = a.2.2 ∧ q.1 = q.2 then some (1, (f (Int64.ofInt a.2.1) (Int32.ofInt q.1)).toInt, (f (Int64.ofInt a.2.1) (Int32.ofInt q.1)).toInt) else some ax_topL
  | none => none) else none
/-! branches: what is known of the numbers where a comparison holds or doesn't -/
def ax_upd (env : ax_N) (a : ax_V) (p : Int × Int) : ax_N := if a.1 = 4 then env.set a.2.1.toNat p else env
def ax_ltT (p q : Int × Int) : (Int × Int) × (Int × Int) := ((p.1, min p.2 (q.2 - 1)), (max q.1 (p.1 + 1), q.2))
def ax_ltF (p q : Int × Int) : (Int × Int) × (Int × Int) := ((max p.1 q.1, p.2), (q.1, min q.2 p.2))
def ax_eqT (p q : Int × Int) : (Int × Int) × (Int × Int) := ((max p.1 q.1, min p.2 q.2), (max p.1 q.1, min p.2 q.2))
def ax_neq (p q : Int × Int) : Int × Int := if q.1 = q.2 then (if p.1 = q.1 then p.1 + 1 else p.1, if p.2 = q.1 then p.2 - 1 else p.2) else p
def ax_eqF (p q : Int × Int) : (Int × Int) × (Int × Int) := (ax_neq p q, ax_neq q p)
def ax_cut (k : ClassFile.Cond) (t : Bool) (p q : Int × Int) : (Int × Int) × (Int × Int) := match k with
  | .eq => if t then ax_eqT p q else ax_eqF p q
  | .ne => if t then ax_eqF p q else ax_eqT p q
  | .lt => if t then ax_ltT p q else ax_ltF p q
  | .ge => if t then ax_ltF p q else ax_ltT p q
  | .gt => if t then ((ax_ltT q p).2, (ax_ltT q p).1) else ((ax_ltF q p).2, (ax_ltF q p).1)
  | .le => if t then ((ax_ltF q p).2, (ax_ltF q p).1) else ((ax_ltT q p).2, (ax_ltT q p).1)
def ax_emp (c : (Int × Int) × (Int × Int)) : Bool := decide (c.1.2 < c.1.1) || decide (c.2.2 < c.2.1)
/-- a branch's ways -/
def ax_way (k : ClassFile.Cond) (t : Bool) (env : ax_N) (a b : ax_V) (p q : Int × Int) (pc : Nat) (l : ax_L) (st : List ax_V) (w : ax_W) (c s : Nat) : List ax_S :=
  if ax_emp (ax_cut k t p q) then [] else [(ax_upd (ax_upd env a (ax_cut k t p q).1) b (ax_cut k t p q).2, pc, l, st, w, c, s)]
def ax_br (k : ClassFile.Cond) (off : Int) (a b : ax_V) (env : ax_N) (pc : Nat) (l : ax_L) (st : List ax_V) (w : ax_W) (c s : Nat) : Option (List ax_S) := match ax_iv env a, ax_iv env b with
  | some p, some q => if 0 ≤ (pc : Int) + off ∧ ¬ (a.1 = 4 ∧ b.1 = 4) then some (ax_way k true env a b p q ((pc : Int) + off).toNat l st w c s ++ ax_way k false env a b p q (pc + 3) l st w c s) else none
  | _, _ => none
def ax_fit (env : ax_N) (ty : FieldType) (a : ax_V) : Bool := match ty with
  | .int => (ax_iv env a).isSome
  | .boolean => match ax_iv env a with
    | some p => decide (0 ≤ p.1) && decide (p.2 ≤ 1)
    | none => false
  | .long => a.1 == 1
  | .object _ => a.1 == 2
  | .array _ => a.1 == 2
  | _ => false
/-- one value of a constant kind for a field at first -/
def ax_dv (t : FieldType) : ax_V := match t with
  | .long => (1, 0, 0)
  | .object _ => (5, 0, 0)
  | .array _ => (5, 0, 0)
  | _ => (0, 0, 0)
def ax_rep (f : Nat → ax_V) : Nat → Nat → ax_A
  | _, 0 => []
  | i, n + 1 => ax_con 1 (f i) (ax_rep f (i + 1) n)
def ax_ret (env : ax_N) (ret : Option FieldType) (I : Instr) (st : List ax_V) : Option (Option ax_V) := match I with
  | .return_ => match ret, st with
    | none, [] => some none
    | _, _ => none
  | .ireturn => match ret, st with
    | some ty, [a] => if (ty = .int ∧ (ax_iv env a).isSome = true) ∨ (ty = .boolean ∧ ax_fit env .boolean a = true) then some (some a) else none
    | _, _ => none
  | .lreturn => match ret, st with
    | some ty, [a] => if ty = .long ∧ a.1 = 1 then some (some a) else none
    | _, _ => none
  | _ => none
