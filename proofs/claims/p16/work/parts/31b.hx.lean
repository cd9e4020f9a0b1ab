/-! PARTIAL RUNS, 2: an instruction over numbers, and what a step of the simple machine is there -/
def hushr (x y : Int) : Int := (((Int32.ofInt x).toUInt32 >>> ((Int32.ofInt y).toUInt32 &&& Int32.toUInt32 31)).toInt32).toInt
def hi2b (x : Int) : Int := ((Int32.ofInt x).toInt8.toInt32).toInt
def hbyte (x : Int) : Int := (vp_nar .byte (Int32.ofInt x)).toInt
def hlw (x : Int) : Int := (x + 9223372036854775808) % 18446744073709551616 - 9223372036854775808
def hland (x y : Int) : Int := (Int64.ofInt x &&& Int64.ofInt y).toInt
def hlor (x y : Int) : Int := (Int64.ofInt x ||| Int64.ofInt y).toInt
def hlxor (x y : Int) : Int := (Int64.ofInt x ^^^ Int64.ofInt y).toInt
def hlshl (x y : Int) : Int := (Int64.ofInt x <<< ((Int32.ofInt y).toInt64 &&& 63)).toInt
def hlushr (x y : Int) : Int := ((Int64.ofInt x).toUInt64 >>> ((Int32.ofInt y).toInt64.toUInt64 &&& Int64.toUInt64 63)).toInt64.toInt
def hlcmp (x y : Int) : Int := if y < x then 1 else if x = y then 0 else -1
theorem hlw_bm (x : Int) : x.bmod (2^64) = hlw x := by
  rw [Int.bmod_def]
  unfold hlw
  have e : ((2^64 : Nat) : Int) = 18446744073709551616 := by decide
  rw [e]
  split <;> omega
theorem hlcmp_ok (x y : Int64) : (lg_cmp x y).toInt = hlcmp x.toInt y.toInt := by
  unfold lg_cmp hlcmp
  by_cases c1 : y.toInt < x.toInt
  · rw [if_pos c1, if_pos (show x > y from Int64.lt_iff_toInt_lt.mpr c1)]
    rfl
  · rw [if_neg c1, if_neg (show ¬ x > y from fun h => c1 (Int64.lt_iff_toInt_lt.mp h))]
    by_cases c2 : x.toInt = y.toInt
    · rw [if_pos c2, if_pos (Int64.toInt_inj.mp c2)]
      rfl
    · rw [if_neg c2, if_neg (fun h => c2 (by rw [h]))]
      rfl
def hb2 (L : hLs) (st : List hV) (m : gx_M) (f : Int → Int → Int) : Option hR := match st with
  | .inl y :: .inl x :: r => some (L, .inl (f x y) :: r, m)
  | _ => none
def hl2 (L : hLs) (st : List hV) (m : gx_M) (f : Int → Int → Int) : Option hR := match st with
  | .inr (.inr y) :: .inr (.inr x) :: r => some (L, .inr (.inr (f x y)) :: r, m)
  | _ => none
def hls (L : hLs) (st : List hV) (m : gx_M) (f : Int → Int → Int) : Option hR := match st with
  | .inl y :: .inr (.inr x) :: r => some (L, .inr (.inr (f x y)) :: r, m)
  | _ => none
def hu1 (L : hLs) (st : List hV) (m : gx_M) (f : Int → hV) : Option hR := match st with
  | .inl x :: r => some (L, f x :: r, m)
  | _ => none
def hild (L : hLs) (st : List hV) (m : gx_M) (i : Nat) : Option hR := match hget L i with
  | some (.inl x) => some (L, .inl x :: st, m)
  | _ => none
def hlld (L : hLs) (st : List hV) (m : gx_M) (i : Nat) : Option hR := match hget L i with
  | some (.inr (.inr x)) => some (L, .inr (.inr x) :: st, m)
  | _ => none
def hald (L : hLs) (st : List hV) (m : gx_M) (i : Nat) : Option hR := match hget L i with
  | some (.inr (.inl x)) => some (L, .inr (.inl x) :: st, m)
  | _ => none
def hist (L : hLs) (st : List hV) (m : gx_M) (i : Nat) : Option hR := match st with
  | .inl x :: r => some (hput L i (.inl x), r, m)
  | _ => none
def hlst (L : hLs) (st : List hV) (m : gx_M) (i : Nat) : Option hR := match st with
  | .inr (.inr x) :: r => some (hput L i (.inr (.inr x)), r, m)
  | _ => none
def hmm (L : hLs) (st : List hV) (m : gx_M) (f : Int → Int → Int) : Option hR := match st with
  | .inl y :: .inl x :: r => some (L, .inl (f x y) :: r, m)
  | _ => none
def h1 (xs : List Int32) (E : sx_E) (A : gx_A) (L : hLs) (st : List hV) (m : gx_M) : Option hR := match E with
  | (_, I, _, a, k, _, z) => match I with
    | .iconst n => some (L, .inl n :: st, m)
    | .bipush n => some (L, .inl n :: st, m)
    | .sipush n => some (L, .inl n :: st, m)
    | .lconst n => some (L, .inr (.inr ((n : Nat) : Int)) :: st, m)
    | .ldc _ => some (L, .inl z :: st, m)
    | .ldc_w _ => some (L, .inl z :: st, m)
    | .ldc2_w _ => some (L, .inr (.inr z) :: st, m)
    | .iload_n i => hild L st m (i : Nat)
    | .iload i => hild L st m i
    | .lload_n i => hlld L st m (i : Nat)
    | .lload i => hlld L st m i
    | .aload_n i => hald L st m (i : Nat)
    | .aload i => hald L st m i
    | .istore_n i => hist L st m (i : Nat)
    | .istore i => hist L st m i
    | .lstore_n i => hlst L st m (i : Nat)
    | .lstore i => hlst L st m i
    | .iinc i n => (match hget L i with
      | some (.inl x) => some (hput L i (.inl (gx_w (x + n))), st, m)
      | _ => none)
    | .iadd => hb2 L st m (fun x y => gx_w (x + y))
    | .isub => hb2 L st m (fun x y => gx_w (x - y))
    | .imul => hb2 L st m (fun x y => gx_w (x * y))
    | .iand => hb2 L st m gx_and
    | .ior => hb2 L st m gx_or
    | .ixor => hb2 L st m gx_xor
    | .ishl => hb2 L st m gx_shl
    | .ishr => hb2 L st m gx_shr
    | .iushr => hb2 L st m hushr
    | .idiv => hb2 L st m (fun x y => gx_w (Int.tdiv x y))
    | .irem => hb2 L st m Int.tmod
    | .ineg => hu1 L st m (fun x => .inl (gx_w (-x)))
    | .i2l => hu1 L st m (fun x => .inr (.inr x))
    | .i2b => hu1 L st m (fun x => .inl (hi2b x))
    | .l2i => (match st with
      | .inr (.inr x) :: r => some (L, .inl (gx_w x) :: r, m)
      | _ => none)
    | .ladd => hl2 L st m (fun x y => hlw (x + y))
    | .lsub => hl2 L st m (fun x y => hlw (x - y))
    | .lmul => hl2 L st m (fun x y => hlw (x * y))
    | .land => hl2 L st m hland
    | .lor => hl2 L st m hlor
    | .lxor => hl2 L st m hlxor
    | .lshl => hls L st m hlshl
    | .lushr => hls L st m hlushr
    | .lcmp => (match st with
      | .inr (.inr y) :: .inr (.inr x) :: r => some (L, .inl (hlcmp x y) :: r, m)
      | _ => none)
    | .dup => (match st with
      | v :: r => some (L, v :: v :: r, m)
      | _ => none)
    | .pop => (match st with
      | _ :: r => some (L, r, m)
      | _ => none)
    | .pop2 => (match st with
      | _ :: r => some (L, r, m)
      | _ => none)
    | .dup_x1 => (match st with
      | v :: u :: r => some (L, v :: u :: v :: r, m)
      | _ => none)
    | .dup2 => (match st with
      | v :: u :: r => some (L, v :: u :: v :: u :: r, m)
      | _ => none)
    | .getfield _ => (match st with
      | .inr (.inl c) :: r => cond (Nat.beq c A.2.1) (match A.1 with
        | 0 => some (L, .inl (m c k) :: r, m)
        | 1 => some (L, .inr (.inl A.2.2) :: r, m)
        | _ => some (L, .inr (.inr (m c k)) :: r, m)) none
      | _ => none)
    | .putfield _ => (match st with
      | .inl v :: .inr (.inl c) :: r => cond (Nat.beq c A.2.1 && Nat.beq A.1 0) (some (L, r, gx_u m c k v)) none
      | .inr (.inr v) :: .inr (.inl c) :: r => cond (Nat.beq c A.2.1 && Nat.beq A.1 2) (some (L, r, gx_u m c k v)) none
      | _ => none)
    | .iaload => (match st with
      | .inl i :: .inr (.inl c) :: r => cond (Nat.beq c A.2.1) (match A.1 with
        | 0 => some (L, .inl (m c i.toNat) :: r, m)
        | _ => some (L, .inl (xs.getD i.toNat 0).toInt :: r, m)) none
      | _ => none)
    | .baload => (match st with
      | .inl i :: .inr (.inl c) :: r => cond (Nat.beq c A.2.1) (some (L, .inl (m c i.toNat) :: r, m)) none
      | _ => none)
    | .iastore => (match st with
      | .inl v :: .inl i :: .inr (.inl c) :: r => cond (Nat.beq c A.2.1) (some (L, r, gx_u m c i.toNat v)) none
      | _ => none)
    | .bastore => (match st with
      | .inl v :: .inl i :: .inr (.inl c) :: r => cond (Nat.beq c A.2.1) (some (L, r, gx_u m c i.toNat (hbyte v))) none
      | _ => none)
    | .arraylength => (match st with
      | .inr (.inl c) :: r => cond (Nat.beq c A.2.1) (match A.1 with
        | 0 => some (L, .inl (A.2.2 : Int) :: r, m)
        | _ => some (L, .inl (Int32.ofNat xs.length).toInt :: r, m)) none
      | _ => none)
    | .goto _ => some (L, st, m)
    | .invokestatic _ => (match a with
      | 1001 => (match st with
        | .inl n :: .inl dp :: .inr (.inl a1) :: .inl sp :: .inr (.inl a0) :: r => cond (Nat.beq a0 A.2.1 && Nat.beq a1 A.2.2) (some (L, r, hcopy m a0 sp.toNat a1 dp.toNat n.toNat)) none
        | _ => none)
      | 1002 => hmm L st m (fun x y => if x < y then y else x)
      | 1003 => hmm L st m (fun x y => if y < x then y else x)
      | _ => none)
    | _ => none
def hokA (E : sx_E) (A : gx_A) : Bool := match E with
  | (pc, I, _, a, k, _, z) => match I with
    | .iconst n => decide ((Int32.ofInt n).toInt = n)
    | .bipush n => decide ((Int8.ofInt n).toInt32.toInt = n)
    | .sipush n => decide ((Int16.ofInt n).toInt32.toInt = n)
    | .lconst n => decide ((Int64.ofNat (n : Nat)).toInt = ((n : Nat) : Int))
    | .ldc _ => decide ((Int32.ofInt z).toInt = z)
    | .ldc_w _ => decide ((Int32.ofInt z).toInt = z)
    | .ldc2_w _ => decide ((Int64.ofInt z).toInt = z)
    | .iinc _ n => decide ((Int32.ofInt n).toInt = n)
    | .getfield _ => (match fx_S[A.2.1]? with
      | some (_, r) => (match A.1 with
        | 0 => decide (ax_nth r k = some ax_top)
        | 1 => decide (ax_nth r k = some (2, (A.2.2 : Int), 0)) && decide (A.2.2 ≠ 100000)
        | _ => decide (ax_nth r k = some ax_topL))
      | none => false)
    | .putfield _ => (match fx_S[A.2.1]? with
      | some (_, r) => (match A.1 with
        | 0 => decide (ax_nth r k = some ax_top)
        | _ => decide (ax_nth r k = some ax_topL))
      | none => false)
    | .iaload => (match A.1 with
      | 0 => (match fx_S[A.2.1]? with
        | some (t, r) => decide (t = 100) && fx_all r && decide (A.2.1 ≠ 100000)
        | none => false)
      | _ => decide (A.2.1 = 100000))
    | .baload => (match fx_S[A.2.1]? with
      | some (t, r) => decide (t = 101) && fx_all r && decide (A.2.1 ≠ 100000)
      | none => false)
    | .iastore => (match fx_S[A.2.1]? with
      | some (t, r) => decide (t = 100) && fx_all r && decide (A.2.1 ≠ 100000)
      | none => false)
    | .bastore => (match fx_S[A.2.1]? with
      | some (t, r) => decide (t = 101) && fx_all r && decide (A.2.1 ≠ 100000)
      | none => false)
    | .arraylength => (match A.1 with
      | 0 => (match fx_S[A.2.1]? with
        | some (_, r) => decide (ax_len r = A.2.2) && decide (A.2.1 ≠ 100000) && decide (A.2.2 < 100000)
        | none => false)
      | _ => decide (A.2.1 = 100000))
    | .goto off => decide (0 ≤ (pc : Int) + off)
    | .invokestatic _ => (match a with
      | 1001 => (match fx_S[A.2.1]?, fx_S[A.2.2]? with
        | some (t, r), some (t', r') => decide (t = 100) && fx_all r && decide (t' = 100) && fx_all r' && decide (A.2.1 ≠ 100000) && decide (A.2.2 ≠ 100000)
        | _, _ => false)
      | _ => true)
    | _ => true
def hnx (E : sx_E) : Nat := match E with
  | (pc, I, _, _, _, _, _) => match I with
    | .bipush _ => pc + 2
    | .sipush _ => pc + 3
    | .ldc _ => pc + 2
    | .ldc_w _ => pc + 3
    | .ldc2_w _ => pc + 3
    | .iload _ => pc + 2
    | .lload _ => pc + 2
    | .aload _ => pc + 2
    | .istore _ => pc + 2
    | .lstore _ => pc + 2
    | .iinc _ _ => pc + 3
    | .getfield _ => pc + 3
    | .putfield _ => pc + 3
    | .invokestatic _ => pc + 3
    | .goto off => ((pc : Int) + off).toNat
    | _ => pc + 1
theorem hcond {α : Type} {b : Bool} {x : Option α} {r : α} (h : cond b x none = some r) : b = true ∧ x = some r := by
  cases b with
  | true => exact ⟨rfl, h⟩
  | false => cases h
/-- what a step comes to -/
def hrel (E : sx_E) (r' : sx_R) (q : hR) : Prop := r'.1 = hnx E ∧ hl r'.2.1 q.1 ∧ hs r'.2.2.1 q.2.1 ∧ bx_in fx_S r'.2.2.2.1 ∧ hm r'.2.2.2.1 = q.2.2
section HXS
variable {xs : List Int32} {nL : Nat} {L : hLs} {st : List hV} {sv : List Value} {m : gx_M} {w : sx_W} {lv : sx_L} {q : hR} {r' : sx_R}
theorem hb2_ok {E : sx_E} {f : Int → Int → Int} {g : Int32 → Int32 → Option Int32} (hst : sx_step yp_P xs nL E lv sv w = sx_b2 E.1 lv sv w g) (hn : hnx E = E.1 + 1) (hf : ∀ x y z : Int32, g x y = some z → z.toInt = f x.toInt y.toInt) (h : hb2 L st m f = some q) (hl' : hl lv L) (hs' : hs sv st) (hw : bx_in fx_S w) (hm' : hm w = m) (hr : sx_step yp_P xs nL E lv sv w = some r') : hrel E r' q := by
  unfold hb2 at h
  split at h
  · cases h
    obtain ⟨u, s1, rfl, g1, g2⟩ := hs1 hs'
    obtain ⟨v, s2, rfl, g3, g4⟩ := hs1 g2
    obtain ⟨b, rfl, rfl⟩ := hg_int g1
    obtain ⟨a, rfl, rfl⟩ := hg_int g3
    rw [hst] at hr
    obtain ⟨x, y, z, rest, e1, e2, e3⟩ := sx_b2_inv hr
    cases e1
    subst e3
    exact ⟨hn.symm, hl', ⟨⟨z, rfl, hf _ _ _ e2⟩, g4⟩, hw, hm'⟩
  · cases h
theorem hl2_ok {E : sx_E} {f : Int → Int → Int} {g : Int64 → Int64 → Int64} (hst : sx_step yp_P xs nL E lv sv w = sx_l2 E.1 lv sv w g) (hn : hnx E = E.1 + 1) (hf : ∀ x y : Int64, (g x y).toInt = f x.toInt y.toInt) (h : hl2 L st m f = some q) (hl' : hl lv L) (hs' : hs sv st) (hw : bx_in fx_S w) (hm' : hm w = m) (hr : sx_step yp_P xs nL E lv sv w = some r') : hrel E r' q := by
  unfold hl2 at h
  split at h
  · cases h
    obtain ⟨u, s1, rfl, g1, g2⟩ := hs1 hs'
    obtain ⟨v, s2, rfl, g3, g4⟩ := hs1 g2
    obtain ⟨b, rfl, rfl⟩ := hg_long g1
    obtain ⟨a, rfl, rfl⟩ := hg_long g3
    rw [hst] at hr
    obtain ⟨x, y, rest, e1, e3⟩ := sx_l2_inv hr
    cases e1
    subst e3
    exact ⟨hn.symm, hl', ⟨⟨_, rfl, hf _ _⟩, g4⟩, hw, hm'⟩
  · cases h
theorem hls_ok {E : sx_E} {f : Int → Int → Int} {g : Int64 → Int32 → Int64} (hst : sx_step yp_P xs nL E lv sv w = sx_ls E.1 lv sv w g) (hn : hnx E = E.1 + 1) (hf : ∀ (x : Int64) (y : Int32), (g x y).toInt = f x.toInt y.toInt) (h : hls L st m f = some q) (hl' : hl lv L) (hs' : hs sv st) (hw : bx_in fx_S w) (hm' : hm w = m) (hr : sx_step yp_P xs nL E lv sv w = some r') : hrel E r' q := by
  unfold hls at h
  split at h
  · cases h
    obtain ⟨u, s1, rfl, g1, g2⟩ := hs1 hs'
    obtain ⟨v, s2, rfl, g3, g4⟩ := hs1 g2
    obtain ⟨b, rfl, rfl⟩ := hg_int g1
    obtain ⟨a, rfl, rfl⟩ := hg_long g3
    rw [hst] at hr
    obtain ⟨x, y, rest, e1, e3⟩ := sx_ls_inv hr
    cases e1
    subst e3
    exact ⟨hn.symm, hl', ⟨⟨_, rfl, hf _ _⟩, g4⟩, hw, hm'⟩
  · cases h
theorem hu1_ok {E : sx_E} {f : Int → hV} {g : Int32 → Value} (hst : sx_step yp_P xs nL E lv sv w = sx_u1 E.1 lv sv w g) (hn : hnx E = E.1 + 1) (hf : ∀ x : Int32, hg (f x.toInt) (g x)) (h : hu1 L st m f = some q) (hl' : hl lv L) (hs' : hs sv st) (hw : bx_in fx_S w) (hm' : hm w = m) (hr : sx_step yp_P xs nL E lv sv w = some r') : hrel E r' q := by
  unfold hu1 at h
  split at h
  · cases h
    obtain ⟨u, s1, rfl, g1, g2⟩ := hs1 hs'
    obtain ⟨b, rfl, rfl⟩ := hg_int g1
    rw [hst] at hr
    obtain ⟨x, rest, e1, e3⟩ := sx_u1_inv hr
    cases e1
    subst e3
    exact ⟨hn.symm, hl', ⟨hf _, g2⟩, hw, hm'⟩
  · cases h
theorem hmm_ok {E : sx_E} {f : Int → Int → Int} {g : Int32 → Int32 → Int32} (hst : sx_step yp_P xs nL E lv sv w = sx_mm E.1 lv sv w g) (hn : hnx E = E.1 + 3) (hf : ∀ x y : Int32, (g x y).toInt = f x.toInt y.toInt) (h : hmm L st m f = some q) (hl' : hl lv L) (hs' : hs sv st) (hw : bx_in fx_S w) (hm' : hm w = m) (hr : sx_step yp_P xs nL E lv sv w = some r') : hrel E r' q := by
  unfold hmm at h
  split at h
  · cases h
    obtain ⟨u, s1, rfl, g1, g2⟩ := hs1 hs'
    obtain ⟨v, s2, rfl, g3, g4⟩ := hs1 g2
    obtain ⟨b, rfl, rfl⟩ := hg_int g1
    obtain ⟨a, rfl, rfl⟩ := hg_int g3
    rw [hst] at hr
    unfold sx_mm at hr
    dsimp only at hr
    split at hr
    · cases hr
      exact ⟨hn.symm, hl', ⟨⟨_, rfl, hf _ _⟩, g4⟩, hw, hm'⟩
    · cases hr
  · cases h
theorem hild_ok {E : sx_E} {i n : Nat} (hn : hnx E = E.1 + n) (hst : sx_step yp_P xs nL E lv sv w = sx_ild E.1 n lv sv w i) (h : hild L st m i = some q) (hl' : hl lv L) (hs' : hs sv st) (hw : bx_in fx_S w) (hm' : hm w = m) (hr : sx_step yp_P xs nL E lv sv w = some r') : hrel E r' q := by
  unfold hild at h
  split at h
  · rename_i x hx
    cases h
    rw [hst] at hr
    obtain ⟨y, e1, e2⟩ := sx_ild_inv hr
    subst e2
    obtain ⟨u, g1, g2⟩ := hl_get hl' hx
    rw [e1] at g1
    cases g1
    exact ⟨hn.symm, hl', ⟨g2, hs'⟩, hw, hm'⟩
  · cases h
theorem hlld_ok {E : sx_E} {i n : Nat} (hn : hnx E = E.1 + n) (hst : sx_step yp_P xs nL E lv sv w = sx_lld E.1 n lv sv w i) (h : hlld L st m i = some q) (hl' : hl lv L) (hs' : hs sv st) (hw : bx_in fx_S w) (hm' : hm w = m) (hr : sx_step yp_P xs nL E lv sv w = some r') : hrel E r' q := by
  unfold hlld at h
  split at h
  · rename_i x hx
    cases h
    rw [hst] at hr
    obtain ⟨y, e1, e2⟩ := sx_lld_inv hr
    subst e2
    obtain ⟨u, g1, g2⟩ := hl_get hl' hx
    rw [e1] at g1
    cases g1
    exact ⟨hn.symm, hl', ⟨g2, hs'⟩, hw, hm'⟩
  · cases h
theorem hald_ok {E : sx_E} {i n : Nat} (hn : hnx E = E.1 + n) (hst : sx_step yp_P xs nL E lv sv w = sx_ald E.1 n lv sv w i) (h : hald L st m i = some q) (hl' : hl lv L) (hs' : hs sv st) (hw : bx_in fx_S w) (hm' : hm w = m) (hr : sx_step yp_P xs nL E lv sv w = some r') : hrel E r' q := by
  unfold hald at h
  split at h
  · rename_i x hx
    cases h
    rw [hst] at hr
    obtain ⟨y, a, e1, -, e2⟩ := sx_ald_inv 0 0 hr
    subst e2
    obtain ⟨u, g1, g2⟩ := hl_get hl' hx
    rw [e1] at g1
    cases g1
    exact ⟨hn.symm, hl', ⟨g2, hs'⟩, hw, hm'⟩
  · cases h
theorem hist_ok {E : sx_E} {i n : Nat} (hn : hnx E = E.1 + n) (hst : sx_step yp_P xs nL E lv sv w = sx_ist E.1 n nL lv sv w i) (h : hist L st m i = some q) (hl' : hl lv L) (hs' : hs sv st) (hw : bx_in fx_S w) (hm' : hm w = m) (hr : sx_step yp_P xs nL E lv sv w = some r') : hrel E r' q := by
  unfold hist at h
  split at h
  · cases h
    obtain ⟨u, s1, rfl, g1, g2⟩ := hs1 hs'
    rw [hst] at hr
    obtain ⟨x, rest, e1, -, e3⟩ := sx_ist_inv hr
    cases e1
    subst e3
    exact ⟨hn.symm, hl_set hl' g1, g2, hw, hm'⟩
  · cases h
theorem hlst_ok {E : sx_E} {i n : Nat} (hn : hnx E = E.1 + n) (hst : sx_step yp_P xs nL E lv sv w = sx_lst E.1 n nL lv sv w i) (h : hlst L st m i = some q) (hl' : hl lv L) (hs' : hs sv st) (hw : bx_in fx_S w) (hm' : hm w = m) (hr : sx_step yp_P xs nL E lv sv w = some r') : hrel E r' q := by
  unfold hlst at h
  split at h
  · cases h
    obtain ⟨u, s1, rfl, g1, g2⟩ := hs1 hs'
    rw [hst] at hr
    obtain ⟨x, rest, e1, -, e3⟩ := sx_lst_inv hr
    cases e1
    subst e3
    exact ⟨hn.symm, hl_set2 hl' g1 rfl, g2, hw, hm'⟩
  · cases h
theorem haget_ok {E : sx_E} {c t : Nat} {i : Int} {r0 : List hV} (hn : hnx E = E.1 + 1) (hst : sx_step yp_P xs nL E lv sv w = sx_aget E.1 lv sv w xs t) (hA : (match fx_S[c]? with
      | some (t', r) => decide (t' = t) && fx_all r && decide (c ≠ 100000)
      | none => false) = true) (hl' : hl lv L) (hs' : hs sv (.inl i :: .inr (.inl c) :: r0)) (hw : bx_in fx_S w) (hm' : hm w = m) (hr : sx_step yp_P xs nL E lv sv w = some r') : hrel E r' (L, .inl (m c i.toNat) :: r0, m) := by
  obtain ⟨u, s1, rfl, g1, g2⟩ := hs1 hs'
  obtain ⟨v, s2, rfl, g3, g4⟩ := hs1 g2
  obtain ⟨b, rfl, rfl⟩ := hg_int g1
  split at hA
  · rename_i t' q' hS
    simp only [Bool.and_eq_true, decide_eq_true_eq] at hA
    obtain ⟨⟨rfl, ha⟩, hne⟩ := hA
    rcases hg_ref g3 with ⟨e, -⟩ | ⟨-, rfl⟩
    · exact absurd e hne
    rw [hst] at hr
    unfold sx_aget at hr
    dsimp only at hr
    split at hr
    · rename_i c' vs hc
      split at hr
      · split at hr
        · rename_i j hj
          split at hr
          · rename_i x hx
            cases hr
            obtain ⟨-, e1, -⟩ := sx_ix_inv hj
            refine ⟨hn.symm, hl', ⟨⟨x, rfl, ?_⟩, g4⟩, hw, hm'⟩
            have e2 : b.toInt.toNat = j := e1
            rw [← hm', e2]
            exact (hm_rd (hrd_at hc hx)).symm
          · cases hr
        · cases hr
      · cases hr
    · cases hr
  · cases hA
theorem haput_ok {E : sx_E} {c t : Nat} {v i : Int} {r0 : List hV} {f : Int32 → Int32} {g : Int → Int} (hf : ∀ x : Int32, (f x).toInt = g x.toInt) (hn : hnx E = E.1 + 1) (hst : sx_step yp_P xs nL E lv sv w = sx_aput E.1 lv sv w t f) (hA : (match fx_S[c]? with
      | some (t', r) => decide (t' = t) && fx_all r && decide (c ≠ 100000)
      | none => false) = true) (hl' : hl lv L) (hs' : hs sv (.inl v :: .inl i :: .inr (.inl c) :: r0)) (hw : bx_in fx_S w) (hm' : hm w = m) (hr : sx_step yp_P xs nL E lv sv w = some r') : hrel E r' (L, r0, gx_u m c i.toNat (g v)) := by
  obtain ⟨u, s1, rfl, g1, g2⟩ := hs1 hs'
  obtain ⟨u2, s2, rfl, g3, g4⟩ := hs1 g2
  obtain ⟨u3, s3, rfl, g5, g6⟩ := hs1 g4
  obtain ⟨x, rfl, rfl⟩ := hg_int g1
  obtain ⟨b, rfl, rfl⟩ := hg_int g3
  split at hA
  · rename_i t' q' hS
    simp only [Bool.and_eq_true, decide_eq_true_eq] at hA
    obtain ⟨⟨rfl, ha⟩, hne⟩ := hA
    rcases hg_ref g5 with ⟨e, -⟩ | ⟨-, rfl⟩
    · exact absurd e hne
    rw [hst] at hr
    unfold sx_aput at hr
    dsimp only at hr
    split at hr
    · rename_i c' vs hc
      split at hr
      · rename_i hct
        subst hct
        split at hr
        · rename_i j hj
          cases hr
          obtain ⟨-, e1, e3⟩ := sx_ix_inv hj
          have e2 : b.toInt.toNat = j := e1
          obtain ⟨vs', k1, k2, -⟩ := hw.2 _ _ _ hS
          rw [hc] at k1
          cases k1
          refine ⟨hn.symm, hl', g6, hset_in hw hS (fx_all_nth q' j ha (by omega)) hc (ax_top_ok _), ?_⟩
          show hm (w.set c (c', vs.set j (.int (f x)))) = _
          rw [hset_m hc e3, hm', e2]
          show gx_u m c j (f x).toInt = _
          rw [hf]
        · cases hr
      · cases hr
    · cases hr
  · cases hA
end HXS
