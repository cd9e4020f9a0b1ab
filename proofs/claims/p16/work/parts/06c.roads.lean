/-! whole roads: calls by contracts that are known, or read on the spot -/
/-- a contract: method, arguments, world, what may come back, how deep, cells, slots -/
abbrev ax_K : Type := Nat × List ax_V × ax_W × List (Option ax_V × ax_W) × Nat × Nat × Nat
/-- contracts; cells and slots that a method makes; methods whose ways back are laid together -/
abbrev ax_T : Type := List ax_K × List (Nat × Nat × Nat) × List Nat
def ax_leV (env : ax_N) (a b : ax_V) : Bool := if a = b then true else match b.1 with
  | 0 => match ax_iv env a with
    | some p => decide (b.2.1 ≤ p.1) && decide (p.2 ≤ b.2.2)
    | none => false
  | 1 => decide (a.1 = 1) && decide (b.2.1 ≤ a.2.1) && decide (a.2.2 ≤ b.2.2)
  | _ => false
def ax_leA (env : ax_N) : Nat → ax_A → ax_A → Bool
  | 0, _, _ => false
  | _ + 1, [], [] => true
  | f + 1, (n, a) :: r, (m, b) :: r' => ax_leV env a b && (if n = m then ax_leA env f r r' else if n < m then ax_leA env f r ((m - n, b) :: r') else ax_leA env f ((n - m, a) :: r) r')
  | _ + 1, _, _ => false
def ax_leW (env : ax_N) : ax_W → ax_W → Bool
  | [], [] => true
  | (t, r) :: w, (t', r') :: w' => decide (t = t') && (decide (r = r') || ax_leA env 60 r r') && ax_leW env w w'
  | _, _ => false
def ax_leL (env : ax_N) : List ax_V → List ax_V → Bool
  | [], [] => true
  | a :: l, b :: l' => ax_leV env a b && ax_leL env l l'
  | _, _ => false
def ax_jA (env : ax_N) : Nat → ax_A → ax_A → Option ax_A
  | 0, _, _ => none
  | _ + 1, [], [] => some []
  | f + 1, (n, a) :: r, (m, b) :: r' => match ax_join env a b with
    | some c => (match (if n = m then ax_jA env f r r' else if n < m then ax_jA env f r ((m - n, b) :: r') else ax_jA env f ((n - m, a) :: r) r') with
      | some q => some (ax_con (min n m) c q)
      | none => none)
    | none => none
  | _ + 1, _, _ => none
def ax_jW (env : ax_N) : ax_W → ax_W → Option ax_W
  | [], [] => some []
  | (t, r) :: w, (t', r') :: w' => if t = t' then (match (if r = r' then some r else ax_jA env 60 r r'), ax_jW env w w' with
    | some q, some z => some ((t, q) :: z)
    | _, _ => none) else none
  | _, _ => none
def ax_jN : ax_N → ax_N → ax_N
  | p :: l, q :: l' => (min p.1 q.1, max p.2 q.2) :: ax_jN l l'
  | _, _ => []
def ax_jO (a b : ax_O) : Option ax_O := match a.2.1, b.2.1 with
  | none, none => match ax_jW (ax_jN a.1 b.1) a.2.2 b.2.2 with
    | some w => some (ax_jN a.1 b.1, none, w)
    | none => none
  | some x, some y => match ax_join (ax_jN a.1 b.1) x y, ax_jW (ax_jN a.1 b.1) a.2.2 b.2.2 with
    | some z, some w => some (ax_jN a.1 b.1, some z, w)
    | _, _ => none
  | _, _ => none
def ax_mrg : List ax_O → Option ax_O
  | [] => none
  | [o] => some o
  | o :: l => match ax_mrg l with
    | some q => ax_jO o q
    | none => none
def ax_all {α : Type} (f : α → Option (List ax_O)) : List α → Option (List ax_O)
  | [] => some []
  | a :: l => match f a, ax_all f l with
    | some x, some y => some (x ++ y)
    | _, _ => none
def ax_con1 (env : ax_N) (mi : Nat) (av : List ax_V) (w : ax_W) : List ax_K → Option ax_K
  | [] => none
  | k :: l => if k.1 = mi ∧ ax_leL env av k.2.1 = true ∧ ax_leW env w k.2.2.1 = true then some k else ax_con1 env mi av w l
def ax_bud (mi : Nat) : List (Nat × Nat × Nat) → Nat × Nat
  | [] => (0, 0)
  | (i, c, s) :: l => if i = mi then (c, s) else ax_bud mi l
def ax_recv (P : sx_P) (M : sx_M) (w : ax_W) (av : List ax_V) : Bool := M.2.2.2.2.2.1 || match av with
  | x :: _ => decide (x.1 = 2) && (sx_isIni M || match w[x.2.1.toNat]? with
    | some (ci, _) => decide (ci < 100) && match P.2.1[ci]? with
      | some (C, _, _) => decide (C = M.1.cls)
      | none => false
    | none => false)
  | _ => false
def sx_isCall (E : sx_E) : Bool := match E.2.1 with
  | .invokevirtual _ => decide (E.2.2.2.1 < 1000)
  | .invokespecial _ => decide (E.2.2.2.1 < 1000)
  | .invokestatic _ => decide (E.2.2.2.1 < 1000)
  | _ => false
noncomputable def ax_run (P : sx_P) (T : ax_T) : Nat → Nat → sx_M → Nat → Nat → ax_S → Option (List ax_O)
  | 0, _, _, _, _, _ => none
  | n + 1, d, M, mc, ms, S => match S with
    | (env, pc, l, st, w, c, s) => match sx_fnd pc M.2.2.2.2.2.2.2 with
      | none => none
      | some E => match ax_ret env M.2.2.2.1 E.2.1 st with
        | some r => some [(env, r, w)]
        | none => if sx_isCall E then (match P.2.2.2.1[E.2.2.2.1]? with
          | none => none
          | some M' => if M'.2.2.2.2.1 ≤ st.length ∧ ax_csum (st.drop M'.2.2.2.2.1) ≤ 8 ∧ ax_csum (st.take M'.2.2.2.2.1) ≤ M'.2.2.1 ∧ ax_recv P M' w (st.take M'.2.2.2.2.1).reverse = true then
              (match ax_con1 env E.2.2.2.1 (st.take M'.2.2.2.2.1).reverse w T.1 with
              | some k => if k.2.2.2.2.1 + 1 ≤ d ∧ c + k.2.2.2.2.2.1 ≤ mc ∧ s + k.2.2.2.2.2.2 ≤ ms then
                  ax_all (fun o => ax_run P T n d M mc ms (env, pc + 3, l, o.1.toList ++ st.drop M'.2.2.2.2.1, o.2, c + k.2.2.2.2.2.1, s + k.2.2.2.2.2.2)) k.2.2.2.1 else none
              | none => (match d with
                | 0 => none
                | d' + 1 => if c + (ax_bud E.2.2.2.1 T.2.1).1 ≤ mc ∧ s + (ax_bud E.2.2.2.1 T.2.1).2 ≤ ms then
                    (match ax_run P T n d' M' (ax_bud E.2.2.2.1 T.2.1).1 (ax_bud E.2.2.2.1 T.2.1).2 (env, 0, ax_args 0 (st.take M'.2.2.2.2.1).reverse, [], w, 0, 0) with
                    | none => none
                    | some outs => (match (if T.2.2.contains E.2.2.2.1 then (ax_mrg outs).map (fun o => [o]) else some outs) with
                      | none => none
                      | some outs' => ax_all (fun o => ax_run P T n d M mc ms (o.1, pc + 3, l, o.2.1.toList ++ st.drop M'.2.2.2.2.1, o.2.2, c + (ax_bud E.2.2.2.1 T.2.1).1, s + (ax_bud E.2.2.2.1 T.2.1).2)) outs')) else none))
            else none)
          else (match ax_step P M.2.2.1 E S with
          | none => none
          | some Ss => ax_all (fun S' => if S'.2.2.2.2.2.1 ≤ mc ∧ S'.2.2.2.2.2.2 ≤ ms then ax_run P T n d M mc ms S' else none) Ss)
