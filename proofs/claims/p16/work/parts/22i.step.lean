/-! one function, one theorem for a step of the second reader -/
/-- what a reading stands on: cells as they always are; cells that aren't written to; places that may be written to; locals that may be -/
abbrev bx_C : Type := ax_W × bx_M × bx_M × List Nat
def bx_u1 (f : ax_N → ax_V → Option ax_V) (env : ax_N) (pc : Nat) (l : ax_L) (st : List ax_V) (kn : bx_Kn) (df : bx_Df) : Option (List bx_S) := match st with
  | a :: r => match f env a with
    | some y => bx_1 env (pc + 1) l (y :: r) kn df
    | none => none
  | _ => none
def bx_i2l (env : ax_N) (a : ax_V) : Option ax_V := (bx_iv env a).map (fun p => (1, p.1, p.2))
def bx_i2b (env : ax_N) (a : ax_V) : Option ax_V := (bx_iv env a).map (fun p => if p.1 = p.2 then (0, (Int32.ofInt p.1).toInt8.toInt32.toInt, (Int32.ofInt p.1).toInt8.toInt32.toInt) else (0, -128, 127))
def bx_l2i (_ : ax_N) (a : ax_V) : Option ax_V := if a.1 = 1 then some (if a.2.1 = a.2.2 then (0, (Int64.ofInt a.2.1).toInt32.toInt, (Int64.ofInt a.2.1).toInt32.toInt) else ax_top) else none
def bx_ineg (env : ax_N) (a : ax_V) : Option ax_V := (bx_iv env a).map (fun _ => ax_top)
def bx_cmp (a b : ax_V) : ax_V := if b.2.2 < a.2.1 then (0, 1, 1) else if a.2.2 < b.2.1 then (0, -1, -1) else if a.2.1 = a.2.2 ∧ b.2.1 = b.2.2 ∧ a.2.1 = b.2.1 then (0, 0, 0) else (0, -1, 1)
noncomputable def bx_step (P : sx_P) (C : bx_C) (nL : Nat) (E : sx_E) (S : bx_S) : Option (List bx_S) := match E, S with
  | (pc, I, _, a, k, _, z), (env, _, l, st, kn, df) => match I with
    | .iconst n => bx_1 env (pc + 1) l ((0, (Int32.ofInt n).toInt, (Int32.ofInt n).toInt) :: st) kn df
    | .bipush n => bx_1 env (pc + 2) l ((0, (Int8.ofInt n).toInt32.toInt, (Int8.ofInt n).toInt32.toInt) :: st) kn df
    | .sipush n => bx_1 env (pc + 3) l ((0, (Int16.ofInt n).toInt32.toInt, (Int16.ofInt n).toInt32.toInt) :: st) kn df
    | .lconst n => bx_1 env (pc + 1) l ((1, (Int64.ofNat (n : Nat)).toInt, (Int64.ofNat (n : Nat)).toInt) :: st) kn df
    | .ldc _ => bx_1 env (pc + 2) l ((0, (Int32.ofInt z).toInt, (Int32.ofInt z).toInt) :: st) kn df
    | .ldc_w _ => bx_1 env (pc + 3) l ((0, (Int32.ofInt z).toInt, (Int32.ofInt z).toInt) :: st) kn df
    | .ldc2_w _ => bx_1 env (pc + 3) l ((1, (Int64.ofInt z).toInt, (Int64.ofInt z).toInt) :: st) kn df
    | .iload_n i => bx_ld 0 1 (i : Nat) env pc l st kn df
    | .iload i => bx_ld 0 2 i env pc l st kn df
    | .lload_n i => bx_ld 1 1 (i : Nat) env pc l st kn df
    | .lload i => bx_ld 1 2 i env pc l st kn df
    | .aload_n i => bx_ld 2 1 (i : Nat) env pc l st kn df
    | .aload i => bx_ld 2 2 i env pc l st kn df
    | .istore_n i => bx_sto 0 1 nL (i : Nat) C.2.2.2 env pc l st kn df
    | .istore i => bx_sto 0 2 nL i C.2.2.2 env pc l st kn df
    | .lstore_n i => bx_sto 1 1 nL (i : Nat) C.2.2.2 env pc l st kn df
    | .lstore i => bx_sto 1 2 nL i C.2.2.2 env pc l st kn df
    | .astore_n i => bx_sto 2 1 nL (i : Nat) C.2.2.2 env pc l st kn df
    | .astore i => bx_sto 2 2 nL i C.2.2.2 env pc l st kn df
    | .iinc i n => bx_inc nL i n C.2.2.2 env pc l st kn df
    | .iadd => bx_b2 bx_iadd env pc l st kn df
    | .isub => bx_b2 bx_isub env pc l st kn df
    | .imul => bx_b2 (bx_op2 (bx_of0 ax_imul)) env pc l st kn df
    | .iand => bx_b2 (bx_op2 bx_iand) env pc l st kn df
    | .ior => bx_b2 (bx_op2 bx_ior) env pc l st kn df
    | .ixor => bx_b2 (bx_op2 (bx_of0 (ax_gen (fun x y => x ^^^ y)))) env pc l st kn df
    | .idiv => bx_b2 (bx_op2 bx_idiv) env pc l st kn df
    | .irem => bx_b2 (bx_op2 bx_irem) env pc l st kn df
    | .ishl => bx_b2 (bx_op2 bx_ishl) env pc l st kn df
    | .ishr => bx_b2 (bx_op2 bx_ishr) env pc l st kn df
    | .iushr => bx_b2 (bx_op2 (bx_of0 (ax_gen (fun x y => (x.toUInt32 >>> (y.toUInt32 &&& Int32.toUInt32 31)).toInt32)))) env pc l st kn df
    | .ineg => bx_u1 bx_ineg env pc l st kn df
    | .i2l => bx_u1 bx_i2l env pc l st kn df
    | .i2b => bx_u1 bx_i2b env pc l st kn df
    | .l2i => bx_u1 bx_l2i env pc l st kn df
    | .ladd => bx_lex (ax_lex (fun x y => x + y)) env pc l st kn df
    | .lsub => bx_lex (ax_lex (fun x y => x - y)) env pc l st kn df
    | .lmul => bx_lex (ax_lex (fun x y => x * y)) env pc l st kn df
    | .land => bx_lex (ax_lex (fun x y => x &&& y)) env pc l st kn df
    | .lor => bx_lex (ax_lex (fun x y => x ||| y)) env pc l st kn df
    | .lxor => bx_lex (ax_lex (fun x y => x ^^^ y)) env pc l st kn df
    | .lshl => bx_lsh env pc l st kn df
    | .lushr => bx_lsh env pc l st kn df
    | .lcmp => match st with
      | y :: x :: r => if x.1 = 1 ∧ y.1 = 1 then bx_1 env (pc + 1) l (bx_cmp x y :: r) kn df else none
      | _ => none
    | .dup => match st with
      | x :: r => if ax_cat x = 1 then bx_1 env (pc + 1) l (x :: x :: r) kn df else none
      | _ => none
    | .pop => match st with
      | x :: r => if ax_cat x = 1 then bx_1 env (pc + 1) l r kn df else none
      | _ => none
    | .pop2 => match st with
      | x :: r => if ax_cat x = 2 then bx_1 env (pc + 1) l r kn df else none
      | _ => none
    | .dup_x1 => match st with
      | x :: y :: r => if ax_cat x = 1 ∧ ax_cat y = 1 then bx_1 env (pc + 1) l (x :: y :: x :: r) kn df else none
      | _ => none
    | .dup2 => match st with
      | x :: y :: r => if ax_cat x = 1 ∧ ax_cat y = 1 then bx_1 env (pc + 1) l (x :: y :: x :: y :: r) kn df else none
      | _ => none
    | .ifCond c off => match st with
      | x :: r => bx_br c off x (0, 0, 0) env pc l r kn df
      | _ => none
    | .if_icmp c off => match st with
      | y :: x :: r => bx_br c off x y env pc l r kn df
      | _ => none
    | .goto off => (bx_to pc off env l st kn df).map (fun y => [y])
    | .tableswitch d lo hi offs => match st with
      | x :: r => bx_tsw d lo hi offs x env pc l r kn df
      | _ => none
    | .lookupswitch d ps => match st with
      | x :: r => bx_lsw d ps x env pc l r kn df
      | _ => none
    | .getfield _ => bx_getf C.1 a k env pc l st kn df
    | .putfield _ => bx_putf C.1 C.2.1 C.2.2.1 a k (P.2.2.1 a k) env pc l st kn df
    | .iaload => bx_aget C.1 100 env pc l st kn df
    | .baload => bx_aget C.1 101 env pc l st kn df
    | .iastore => bx_aput C.1 C.2.1 C.2.2.1 100 env pc l st kn df
    | .bastore => bx_aput C.1 C.2.1 C.2.2.1 101 env pc l st kn df
    | .arraylength => bx_alen C.1 env pc l st kn df
    | .invokestatic _ => if a = 1001 then bx_copy C.1 C.2.1 C.2.2.1 env pc l st kn df else if a = 1002 then bx_mm true env pc l st kn df else if a = 1003 then bx_mm false env pc l st kn df else none
    | _ => none
section BXT
variable {P : sx_P} {xs : List Int32} {C : bx_C} {X : sx_W → Prop} {vs : List Int} {env : ax_N} {kn : bx_Kn} {df : bx_Df} {w : sx_W} {l : ax_L} {ast : List ax_V} {lv : sx_L} {st : List Value} {outs : List bx_S}
theorem bx_isS {env : ax_N} {vs : List Int} {a : ax_V} {v : Value} {f : Int × Int → ax_V} {y : ax_V} (he : bx_env env vs) (hg : bx_g vs a v) (h : (bx_iv env a).map f = some y) : ∃ (x : Int32) (p : Int × Int), v = .int x ∧ p.1 ≤ x.toInt ∧ x.toInt ≤ p.2 ∧ y = f p := by
  cases hp : bx_iv env a with
  | none => rw [hp] at h; cases h
  | some p =>
    rw [hp] at h
    obtain ⟨x, e, h1, h2⟩ := bx_iv_ok he hg hp
    cases h
    exact ⟨x, p, e, h1, h2, rfl⟩
theorem bx_gL {vs : List Int} {x : Int64} {lo hi : Int} (h1 : lo ≤ x.toInt) (h2 : x.toInt ≤ hi) : bx_g vs (1, lo, hi) (.long x) := .inr ⟨fun h => Nat.noConfusion h (fun h => Nat.noConfusion h), x, rfl, h1, h2⟩
theorem bx_u1_ok {f : ax_N → ax_V → Option ax_V} {g : Int32 → Value} (hf : ∀ (a y : ax_V) (v : Value), bx_g vs a v → f env a = some y → ∃ x : Int32, v = .int x ∧ bx_g vs y (g x)) {pc : Nat} (h : bx_u1 f env pc l ast kn df = some outs) (hA : bx_at0 xs C.1 X vs env l ast kn df lv st w) : bx_res xs C.1 X C.2.2.1 C.2.2.2 vs lv w outs (sx_u1 pc lv st w g) := by
  unfold bx_u1 at h
  split at h
  · rename_i a r
    obtain ⟨v, r', rfl, hg, hr⟩ := bx_gs1 hA.2.2.1
    split at h
    · rename_i y hy
      obtain ⟨x, rfl, hz⟩ := hf a y v hg hy
      exact bx_st1 h hA ⟨hz, hr⟩
    · cases h
  · cases h
theorem bx_cmp_ok {a b : ax_V} {x y : Int64} (h1 : a.2.1 ≤ x.toInt) (h2 : x.toInt ≤ a.2.2) (h3 : b.2.1 ≤ y.toInt) (h4 : y.toInt ≤ b.2.2) : bx_g vs (bx_cmp a b) (.int (lg_cmp x y)) := by
  have e : (lg_cmp x y).toInt = if y.toInt < x.toInt then 1 else if x.toInt = y.toInt then 0 else -1 := by
    unfold lg_cmp
    by_cases c1 : y.toInt < x.toInt
    · rw [if_pos c1, if_pos (show x > y from Int64.lt_iff_toInt_lt.mpr c1)]
      rfl
    · rw [if_neg c1, if_neg (show ¬ x > y from fun h => c1 (Int64.lt_iff_toInt_lt.mp h))]
      by_cases c2 : x.toInt = y.toInt
      · rw [if_pos c2, if_pos (Int64.toInt_inj.mp c2)]
        rfl
      · rw [if_neg c2, if_neg (fun h => c2 (by rw [h]))]
        rfl
  unfold bx_cmp
  split
  · exact bx_g0 (by rw [e]; split <;> (try split) <;> omega) (by rw [e]; split <;> (try split) <;> omega)
  · split
    · exact bx_g0 (by rw [e]; split <;> (try split) <;> omega) (by rw [e]; split <;> (try split) <;> omega)
    · split
      · exact bx_g0 (by rw [e]; split <;> (try split) <;> omega) (by rw [e]; split <;> (try split) <;> omega)
      · exact bx_g0 (by rw [e]; split <;> (try split) <;> omega) (by rw [e]; split <;> (try split) <;> omega)
theorem bx_gI {vs : List Int} {x : Int32} : bx_g vs (0, x.toInt, x.toInt) (.int x) := bx_g0 (Int.le_refl _) (Int.le_refl _)
theorem bx_gJ {vs : List Int} {x : Int64} : bx_g vs (1, x.toInt, x.toInt) (.long x) := bx_gL (Int.le_refl _) (Int.le_refl _)
theorem bx_step_ok {nL : Nat} {E : sx_E} (hxs : xs.length ≤ 4096) (hX : bx_keeps xs C.2.1 X) (h : bx_step P C nL E (env, E.1, l, ast, kn, df) = some outs) (hA : bx_at0 xs C.1 X vs env l ast kn df lv st w) : bx_res xs C.1 X C.2.2.1 C.2.2.2 vs lv w outs (sx_step P xs nL E lv st w) := by
  obtain ⟨pc, I, len, a, k, q, z⟩ := E
  have hs := hA.2.2.1
  cases I
  case iconst n => exact bx_st1 h hA ⟨bx_gI, hs⟩
  case bipush n => exact bx_st1 h hA ⟨bx_gI, hs⟩
  case sipush n => exact bx_st1 h hA ⟨bx_gI, hs⟩
  case lconst n => exact bx_st1 h hA ⟨bx_gJ, hs⟩
  case ldc i => exact bx_st1 h hA ⟨bx_gI, hs⟩
  case ldc_w i => exact bx_st1 h hA ⟨bx_gI, hs⟩
  case ldc2_w i => exact bx_st1 h hA ⟨bx_gJ, hs⟩
  case iload_n i => exact (bx_ld_ok h hA).1 rfl
  case iload i => exact (bx_ld_ok h hA).1 rfl
  case lload_n i => exact (bx_ld_ok h hA).2.1 rfl
  case lload i => exact (bx_ld_ok h hA).2.1 rfl
  case aload_n i => exact (bx_ld_ok h hA).2.2 rfl
  case aload i => exact (bx_ld_ok h hA).2.2 rfl
  case istore_n i => exact (bx_sto_ok h hA).1 rfl
  case istore i => exact (bx_sto_ok h hA).1 rfl
  case lstore_n i => exact (bx_sto_ok h hA).2.1 rfl
  case lstore i => exact (bx_sto_ok h hA).2.1 rfl
  case astore_n i => exact (bx_sto_ok h hA).2.2 rfl
  case astore i => exact (bx_sto_ok h hA).2.2 rfl
  case iinc i n => exact bx_inc_ok h hA
  case iadd => exact bx_b2_ok bx_iadd_okI h hA
  case isub => exact bx_b2_ok bx_isub_okI h hA
  case imul => exact bx_b2_ok (bx_op2_ok bx_imul_ok) h hA
  case iand => exact bx_b2_ok (bx_op2_ok bx_iand_ok) h hA
  case ior => exact bx_b2_ok (bx_op2_ok bx_ior_ok) h hA
  case ixor => exact bx_b2_ok (bx_op2_ok (bx_gen_ok _)) h hA
  case idiv => exact bx_b2_ok (bx_op2_ok bx_idiv_ok) h hA
  case irem => exact bx_b2_ok (bx_op2_ok bx_irem_ok) h hA
  case ishl => exact bx_b2_ok (bx_op2_ok bx_ishl_ok) h hA
  case ishr => exact bx_b2_ok (bx_op2_ok bx_ishr_ok) h hA
  case iushr => exact bx_b2_ok (bx_op2_ok (bx_gen_ok _)) h hA
  case ineg => exact bx_u1_ok (fun a y v hg hy => by
    obtain ⟨x, p, rfl, -, -, rfl⟩ := bx_isS hA.1 hg hy
    exact ⟨x, rfl, bx_g0 (ax_lo _) (ax_hi _)⟩) h hA
  case i2l => exact bx_u1_ok (fun a y v hg hy => by
    obtain ⟨x, p, rfl, h1, h2, rfl⟩ := bx_isS hA.1 hg hy
    exact ⟨x, rfl, bx_gL (by rw [Int32.toInt_toInt64]; exact h1) (by rw [Int32.toInt_toInt64]; exact h2)⟩) h hA
  case i2b => exact bx_u1_ok (fun a y v hg hy => by
    obtain ⟨x, p, rfl, h1, h2, rfl⟩ := bx_isS hA.1 hg hy
    refine ⟨x, rfl, ?_⟩
    split
    · rename_i he
      rw [← ax_one x h1 h2 he]
      exact bx_gI
    · have := ax_i8 x
      exact bx_g0 this.1 this.2) h hA
  case l2i =>
    dsimp only [bx_step] at h
    unfold bx_u1 at h
    split at h
    · rename_i x r
      obtain ⟨v, r', rfl, hg, hr⟩ := bx_gs1 hs
      split at h
      · rename_i y hy
        unfold bx_l2i at hy
        split at hy
        · rename_i h1
          obtain ⟨x1, rfl, g1, g2⟩ := (bx_tag hg).2.1 h1
          cases hy
          refine bx_st1 h hA ⟨?_, hr⟩
          split
          · rename_i he
            rw [← ax_oneL x1 g1 g2 he]
            exact bx_gI
          · exact bx_g0 (ax_lo _) (ax_hi _)
        · cases hy
      · cases h
    · cases h
  case ladd => exact bx_l2_ok h hA
  case lsub => exact bx_l2_ok h hA
  case lmul => exact bx_l2_ok h hA
  case land => exact bx_l2_ok h hA
  case lor => exact bx_l2_ok h hA
  case lxor => exact bx_l2_ok h hA
  case lshl => exact bx_lsh_ok h hA
  case lushr => exact bx_lsh_ok h hA
  case lcmp =>
    dsimp only [bx_step] at h
    split at h
    · rename_i y x r
      split at h
      · rename_i hc
        obtain ⟨u, v, r', rfl, hb, ha, hr⟩ := bx_gs2 hs
        obtain ⟨x1, rfl, h1, h2⟩ := (bx_tag ha).2.1 hc.1
        obtain ⟨y1, rfl, h3, h4⟩ := (bx_tag hb).2.1 hc.2
        exact bx_st1 h hA ⟨bx_cmp_ok h1 h2 h3 h4, hr⟩
      · cases h
    · cases h
  case dup =>
    dsimp only [bx_step] at h
    split at h
    · split at h
      · rename_i hc
        obtain ⟨v, r', rfl, hg, hr⟩ := bx_gs1 hs
        dsimp only [sx_step]
        unfold sx_d1
        dsimp only
        rw [if_pos (by rw [bx_cat hg]; exact hc)]
        exact bx_st1 h hA ⟨hg, hg, hr⟩
      · cases h
    · cases h
  case pop =>
    dsimp only [bx_step] at h
    split at h
    · split at h
      · rename_i hc
        obtain ⟨v, r', rfl, hg, hr⟩ := bx_gs1 hs
        dsimp only [sx_step]
        unfold sx_p1
        dsimp only
        rw [if_pos (by rw [bx_cat hg]; exact hc)]
        exact bx_st1 h hA hr
      · cases h
    · cases h
  case pop2 =>
    dsimp only [bx_step] at h
    split at h
    · split at h
      · rename_i hc
        obtain ⟨v, r', rfl, hg, hr⟩ := bx_gs1 hs
        dsimp only [sx_step]
        unfold sx_p2
        dsimp only
        rw [if_pos (by rw [bx_cat hg]; exact hc)]
        exact bx_st1 h hA hr
      · cases h
    · cases h
  case dup_x1 =>
    dsimp only [bx_step] at h
    split at h
    · split at h
      · rename_i hc
        obtain ⟨u, v, r', rfl, hb, ha, hr⟩ := bx_gs2 hs
        dsimp only [sx_step]
        unfold sx_dx1
        dsimp only
        rw [if_pos ⟨by rw [bx_cat hb]; exact hc.1, by rw [bx_cat ha]; exact hc.2⟩]
        exact bx_st1 h hA ⟨hb, ha, hb, hr⟩
      · cases h
    · cases h
  case dup2 =>
    dsimp only [bx_step] at h
    split at h
    · split at h
      · rename_i hc
        obtain ⟨u, v, r', rfl, hb, ha, hr⟩ := bx_gs2 hs
        dsimp only [sx_step]
        unfold sx_d2
        dsimp only
        rw [if_pos ⟨by rw [bx_cat hb]; exact hc.1, by rw [bx_cat ha]; exact hc.2⟩]
        exact bx_st1 h hA ⟨hb, ha, hb, ha, hr⟩
      · cases h
    · cases h
  case ifCond c off =>
    dsimp only [bx_step] at h
    split at h
    · rename_i x r
      obtain ⟨v, r', rfl, hg, hr⟩ := bx_gs1 hs
      have hi : ∃ p, bx_iv env x = some p := by
        unfold bx_br at h
        split at h
        · rename_i p _ hp _; exact ⟨_, hp⟩
        · cases h
      obtain ⟨p, hp⟩ := hi
      obtain ⟨y, rfl⟩ := bx_isI hA.1 hg hp
      exact bx_br_ok h ⟨hA.1, hA.2.1, hr, hA.2.2.2⟩ hg (bx_g0 (by decide) (by decide))
    · cases h
  case if_icmp c off =>
    dsimp only [bx_step] at h
    split at h
    · rename_i y x r
      obtain ⟨u, v, r', rfl, hb, ha, hr⟩ := bx_gs2 hs
      have hi : (∃ p, bx_iv env x = some p) ∧ ∃ p, bx_iv env y = some p := by
        unfold bx_br at h
        split at h
        · rename_i p q hp hq; exact ⟨⟨_, hp⟩, _, hq⟩
        · cases h
      obtain ⟨⟨p, hp⟩, p2, hp2⟩ := hi
      obtain ⟨x1, rfl⟩ := bx_isI hA.1 ha hp
      obtain ⟨y1, rfl⟩ := bx_isI hA.1 hb hp2
      exact bx_br_ok h ⟨hA.1, hA.2.1, hr, hA.2.2.2⟩ ha hb
    · cases h
  case goto off =>
    dsimp only [bx_step] at h
    cases ht : bx_to pc off env l ast kn df with
    | none => rw [ht] at h; cases h
    | some y =>
      rw [ht] at h
      cases h
      exact bx_to_ok ht hA (List.mem_singleton.mpr rfl)
  case tableswitch d lo hi offs =>
    dsimp only [bx_step] at h
    split at h
    · rename_i x r
      obtain ⟨v, r', rfl, hg, hr⟩ := bx_gs1 hs
      have hi : ∃ p, bx_iv env x = some p := by
        unfold bx_tsw at h
        split at h
        · rename_i p hp; exact ⟨_, hp⟩
        · cases h
      obtain ⟨p, hp⟩ := hi
      obtain ⟨y, rfl⟩ := bx_isI hA.1 hg hp
      exact bx_tsw_ok h ⟨hA.1, hA.2.1, hr, hA.2.2.2⟩ hg
    · cases h
  case lookupswitch d ps =>
    dsimp only [bx_step] at h
    split at h
    · rename_i x r
      obtain ⟨v, r', rfl, hg, hr⟩ := bx_gs1 hs
      have hi : ∃ p, bx_iv env x = some p := by
        unfold bx_lsw at h
        split at h
        · rename_i p hp; exact ⟨_, hp⟩
        · cases h
      obtain ⟨p, hp⟩ := hi
      obtain ⟨y, rfl⟩ := bx_isI hA.1 hg hp
      exact bx_lsw_ok h ⟨hA.1, hA.2.1, hr, hA.2.2.2⟩ hg
    · cases h
  case getfield i => exact bx_getf_ok h hA
  case putfield i => exact bx_putf_ok hX h hA
  case iaload => exact bx_aget_ok hxs h hA
  case baload => exact bx_aget_ok hxs h hA
  case iastore => exact bx_aput_ok (.inl ⟨rfl, rfl⟩) hX h hA
  case bastore => exact bx_aput_ok (.inr ⟨rfl, rfl⟩) hX h hA
  case arraylength => exact bx_alen_ok hxs h hA
  case invokestatic i =>
    dsimp only [bx_step, sx_step] at h ⊢
    split at h
    · rename_i ha
      rw [if_pos ha]
      exact bx_copy_ok hX h hA
    · rename_i ha
      rw [if_neg ha]
      split at h
      · rename_i hb
        rw [if_pos hb]
        exact bx_mm_ok (.inl ⟨rfl, rfl⟩) h hA
      · rename_i hb
        rw [if_neg hb]
        split at h
        · rename_i hc
          rw [if_pos hc]
          exact bx_mm_ok (.inr ⟨rfl, rfl⟩) h hA
        · cases h
  all_goals (cases h)
end BXT
