/-! BY HAND, 3: an instruction over numbers, and that it is a step of the simple machine -/
abbrev gx_A : Type := Nat × Nat × Nat
abbrev gx_R : Type := Prop × gx_L × List gx_V × gx_M
def gx_b2 (C : Prop) (L : gx_L) (st : List gx_V) (m : gx_M) (f : Int → Int → Int) : Option gx_R := match st with
  | .inl y :: .inl x :: r => some (C, L, .inl (f x y) :: r, m)
  | _ => none
def gx_ild (C : Prop) (L : gx_L) (st : List gx_V) (m : gx_M) (i : Nat) : Option gx_R := match gx_get L i with
  | some (.inl x) => some (C, L, .inl x :: st, m)
  | _ => none
def gx_ald (C : Prop) (L : gx_L) (st : List gx_V) (m : gx_M) (i : Nat) : Option gx_R := match gx_get L i with
  | some (.inr x) => some (C, L, .inr x :: st, m)
  | _ => none
def gx_sto (C : Prop) (L : gx_L) (st : List gx_V) (m : gx_M) (i : Nat) : Option gx_R := match st with
  | .inl x :: r => some (C, gx_put L i (.inl x), r, m)
  | _ => none
def gx_1 (E : sx_E) (A : gx_A) (C : Prop) (L : gx_L) (st : List gx_V) (m : gx_M) : Option gx_R := match E with
  | (_, I, _, _, k, _, z) => match I with
    | .iconst n => some (C, L, .inl n :: st, m)
    | .bipush n => some (C, L, .inl n :: st, m)
    | .sipush n => some (C, L, .inl n :: st, m)
    | .ldc _ => some (C, L, .inl z :: st, m)
    | .ldc_w _ => some (C, L, .inl z :: st, m)
    | .iload_n i => gx_ild C L st m (i : Nat)
    | .iload i => gx_ild C L st m i
    | .aload_n i => gx_ald C L st m (i : Nat)
    | .istore_n i => gx_sto C L st m (i : Nat)
    | .istore i => gx_sto C L st m i
    | .iinc i n => (match gx_get L i with
      | some (.inl x) => some (C, gx_put L i (.inl (gx_w (x + n))), st, m)
      | _ => none)
    | .iadd => gx_b2 C L st m (fun x y => gx_w (x + y))
    | .isub => gx_b2 C L st m (fun x y => gx_w (x - y))
    | .imul => gx_b2 C L st m (fun x y => gx_w (x * y))
    | .iand => gx_b2 C L st m gx_and
    | .ior => gx_b2 C L st m gx_or
    | .ixor => gx_b2 C L st m gx_xor
    | .ishl => gx_b2 C L st m gx_shl
    | .ishr => gx_b2 C L st m gx_shr
    | .idiv => (match st with
      | .inl y :: .inl x :: r => some (C ∧ y ≠ 0, L, .inl (gx_w (Int.tdiv x y)) :: r, m)
      | _ => none)
    | .irem => (match st with
      | .inl y :: .inl x :: r => some (C ∧ y ≠ 0, L, .inl (Int.tmod x y) :: r, m)
      | _ => none)
    | .dup => (match st with
      | v :: r => some (C, L, v :: v :: r, m)
      | _ => none)
    | .pop => (match st with
      | _ :: r => some (C, L, r, m)
      | _ => none)
    | .getfield _ => (match st with
      | .inr c :: r => cond (Nat.beq c A.2.1) (match A.1 with
        | 0 => some (C, L, .inl (m c k) :: r, m)
        | _ => some (C, L, .inr A.2.2 :: r, m)) none
      | _ => none)
    | .putfield _ => (match st with
      | .inl v :: .inr c :: r => cond (Nat.beq c A.2.1) (some (C, L, r, gx_u m c k v)) none
      | _ => none)
    | .iaload => (match st with
      | .inl i :: .inr c :: r => cond (Nat.beq c A.2.1) (some (C ∧ (0 ≤ i ∧ i < (A.2.2 : Int)), L, .inl (m c i.toNat) :: r, m)) none
      | _ => none)
    | .baload => (match st with
      | .inl i :: .inr c :: r => cond (Nat.beq c A.2.1) (some (C ∧ (0 ≤ i ∧ i < (A.2.2 : Int)), L, .inl (m c i.toNat) :: r, m)) none
      | _ => none)
    | .iastore => (match st with
      | .inl v :: .inl i :: .inr c :: r => cond (Nat.beq c A.2.1) (some (C ∧ (0 ≤ i ∧ i < (A.2.2 : Int)), L, r, gx_u m c i.toNat v)) none
      | _ => none)
    | .goto _ => some (C, L, st, m)
    | _ => none
def gx_okA (nL : Nat) (E : sx_E) (A : gx_A) : Bool := match E with
  | (pc, I, _, a, k, _, z) => match I with
    | .iconst n => decide ((Int32.ofInt n).toInt = n)
    | .bipush n => decide ((Int8.ofInt n).toInt32.toInt = n)
    | .sipush n => decide ((Int16.ofInt n).toInt32.toInt = n)
    | .ldc _ => decide ((Int32.ofInt z).toInt = z)
    | .ldc_w _ => decide ((Int32.ofInt z).toInt = z)
    | .istore_n i => decide ((i : Nat) < nL)
    | .istore i => decide (i < nL)
    | .iinc i n => decide (i < nL) && decide ((Int32.ofInt n).toInt = n)
    | .getfield _ => (match fx_S[A.2.1]? with
      | some (t, r) => decide (t = a) && decide (a < 100) && (match A.1 with
        | 0 => decide (ax_nth r k = some ax_top)
        | _ => decide (ax_nth r k = some (2, (A.2.2 : Int), 0)))
      | none => false)
    | .putfield _ => (match fx_S[A.2.1]? with
      | some (t, r) => decide (t = a) && decide (a < 100) && decide (ax_nth r k = some ax_top) && decide (yp_P.2.2.1 a k = .int)
      | none => false)
    | .iaload => (match fx_S[A.2.1]? with
      | some (t, r) => decide (t = 100) && fx_all r && decide (ax_len r = A.2.2)
      | none => false)
    | .baload => (match fx_S[A.2.1]? with
      | some (t, r) => decide (t = 101) && fx_all r && decide (ax_len r = A.2.2)
      | none => false)
    | .iastore => (match fx_S[A.2.1]? with
      | some (t, r) => decide (t = 100) && fx_all r && decide (ax_len r = A.2.2)
      | none => false)
    | .goto off => decide (0 ≤ (pc : Int) + off)
    | _ => true
def gx_nx (E : sx_E) : Nat := match E with
  | (pc, I, _, _, _, _, _) => match I with
    | .bipush _ => pc + 2
    | .sipush _ => pc + 3
    | .ldc _ => pc + 2
    | .ldc_w _ => pc + 3
    | .iload _ => pc + 2
    | .istore _ => pc + 2
    | .iinc _ _ => pc + 3
    | .getfield _ => pc + 3
    | .putfield _ => pc + 3
    | .goto off => ((pc : Int) + off).toNat
    | _ => pc + 1
theorem gx_b2_inv {C : Prop} {L : gx_L} {st : List gx_V} {m : gx_M} {f : Int → Int → Int} {r : gx_R} (h : gx_b2 C L st m f = some r) : ∃ x y r0, st = .inl y :: .inl x :: r0 ∧ r = (C, L, .inl (f x y) :: r0, m) := by
  unfold gx_b2 at h
  split at h
  · cases h; exact ⟨_, _, _, rfl, rfl⟩
  · cases h
theorem gx_cond {α : Type} {b c : Nat} {x : Option α} {r : α} (h : cond (Nat.beq b c) x none = some r) : b = c ∧ x = some r := by
  cases e : Nat.beq b c with
  | true => rw [e] at h; exact ⟨Nat.eq_of_beq_eq_true e, h⟩
  | false => rw [e] at h; cases h
/-- what is laid into a world -/
theorem gx_put_ok {w0 w : sx_W} {c t k : Nat} {r : ax_A} {v : Int32} (hw : gx_in w0 w) (hS : fx_S[c]? = some (t, r)) (hk : ax_nth r k = some ax_top) : gx_in w0 (fx_p w c k v) ∧ gx_m (fx_p w c k v) = gx_u (gx_m w) c k v.toInt := by
  refine ⟨⟨fx_p_in hw.1 hS hk, fun c' k' => ?_⟩, ?_⟩
  · obtain ⟨vs, u, h1, h2, h3, ⟨z, rfl, -, -⟩, h6⟩ := fx_cell hw.1 hS hk
    have hcl : c < w.length := (List.getElem?_eq_some_iff.mp h1).1
    have hwk : gx_rd w c k = some (.int z) := by unfold gx_rd; rw [h1]; exact h3
    unfold fx_p
    rw [h1]
    dsimp only
    by_cases hcc : c' = c
    · subst hcc
      by_cases hkk : k' = k
      · subst hkk
        have e1 : gx_rd (w.set c' (t, vs.set k' (.int v))) c' k' = some (.int v) := by
          unfold gx_rd
          rw [List.getElem?_set_self hcl]
          exact List.getElem?_set_self h6
        rcases hw.2 c' k' with h | ⟨x, y, g1, g2⟩
        · exact .inr ⟨z, v, h ▸ hwk, e1⟩
        · exact .inr ⟨x, v, g1, e1⟩
      · have e1 : gx_rd (w.set c' (t, vs.set k (.int v))) c' k' = gx_rd w c' k' := by
          unfold gx_rd
          rw [List.getElem?_set_self hcl, h1]
          exact List.getElem?_set_ne (fun h => hkk h.symm)
        rw [e1]
        exact hw.2 c' k'
    · have e1 : gx_rd (w.set c (t, vs.set k (.int v))) c' k' = gx_rd w c' k' := by
        unfold gx_rd
        rw [List.getElem?_set_ne (fun h => hcc h.symm)]
      rw [e1]
      exact hw.2 c' k'
  · funext c' k'
    unfold gx_m gx_u
    rw [fx_i_p hw.1 hS hk]
    split <;> rfl
section GXS
variable {xs : List Int32} {w0 : sx_W} {nL : Nat} {C : Prop} {L : gx_L} {st : List gx_V} {sv : List Value} {m : gx_M} {w : sx_W} {lv : sx_L} {r : gx_R}
def gx_res (xs : List Int32) (w0 : sx_W) (nL : Nat) (E : sx_E) (C : Prop) (sv : List Value) (w : sx_W) (lv : sx_L) (r : gx_R) : Prop := C ∧ ∃ lv' sv' w', sx_step yp_P xs nL E lv sv w = some (gx_nx E, lv', sv', w', 0, 0) ∧ gx_hl lv' r.2.1 ∧ gx_hs sv' r.2.2.1 ∧ gx_in w0 w' ∧ gx_m w' = r.2.2.2
theorem gx_2 {E : sx_E} {f : Int → Int → Int} {g : Int32 → Int32 → Option Int32} (hst : sx_step yp_P xs nL E lv sv w = sx_b2 E.1 lv sv w g) (hn : gx_nx E = E.1 + 1) (hf : ∀ x y : Int32, ∃ z, g x y = some z ∧ z.toInt = f x.toInt y.toInt) (h : gx_b2 C L st m f = some r) (hC : r.1) (hl : gx_hl lv L) (hs : gx_hs sv st) (hw : gx_in w0 w) (hm : gx_m w = m) : gx_res xs w0 nL E C sv w lv r := by
  obtain ⟨x, y, r0, rfl, rfl⟩ := gx_b2_inv h
  obtain ⟨u, s1, rfl, g1, g2⟩ := gx_hs1 hs
  obtain ⟨v, s2, rfl, g3, g4⟩ := gx_hs1 g2
  obtain ⟨b, rfl, rfl⟩ := gx_g_int g1
  obtain ⟨a, rfl, rfl⟩ := gx_g_int g3
  obtain ⟨z, e1, e2⟩ := hf a b
  refine ⟨hC, lv, .int z :: s2, w, ?_, hl, ⟨⟨z, rfl, e2⟩, g4⟩, hw, hm⟩
  rw [hst, hn]
  unfold sx_b2
  dsimp only
  rw [e1]
  rfl
theorem gx_ild_ok {E : sx_E} {i n : Nat} (hn : gx_nx E = E.1 + n) (hst : sx_step yp_P xs nL E lv sv w = sx_ild E.1 n lv sv w i) (h : gx_ild C L st m i = some r) (hC : r.1) (hl : gx_hl lv L) (hs : gx_hs sv st) (hw : gx_in w0 w) (hm : gx_m w = m) : gx_res xs w0 nL E C sv w lv r := by
  unfold gx_ild at h
  split at h
  · rename_i x hv
    cases h
    obtain ⟨u, e1, e2⟩ := gx_hl_get hl hv
    obtain ⟨z, rfl, e3⟩ := gx_g_int e2
    refine ⟨hC, lv, .int z :: sv, w, ?_, hl, ⟨⟨z, rfl, e3⟩, hs⟩, hw, hm⟩
    rw [hst, hn]
    unfold sx_ild
    rw [e1]
  · cases h
theorem gx_ald_ok {E : sx_E} {i n : Nat} (hn : gx_nx E = E.1 + n) (hst : sx_step yp_P xs nL E lv sv w = sx_ald E.1 n lv sv w i) (h : gx_ald C L st m i = some r) (hC : r.1) (hl : gx_hl lv L) (hs : gx_hs sv st) (hw : gx_in w0 w) (hm : gx_m w = m) : gx_res xs w0 nL E C sv w lv r := by
  unfold gx_ald at h
  split at h
  · rename_i x hv
    cases h
    obtain ⟨u, e1, e2⟩ := gx_hl_get hl hv
    have e3 : u = .ref x := e2
    subst e3
    refine ⟨hC, lv, .ref x :: sv, w, ?_, hl, ⟨rfl, hs⟩, hw, hm⟩
    rw [hst, hn]
    unfold sx_ald
    rw [e1]
  · cases h
theorem gx_ist_ok {E : sx_E} {i n : Nat} (hn : gx_nx E = E.1 + n) (hst : sx_step yp_P xs nL E lv sv w = sx_ist E.1 n nL lv sv w i) (hi : i < nL) (h : gx_sto C L st m i = some r) (hC : r.1) (hl : gx_hl lv L) (hs : gx_hs sv st) (hw : gx_in w0 w) (hm : gx_m w = m) : gx_res xs w0 nL E C sv w lv r := by
  unfold gx_sto at h
  split at h
  · rename_i x r0
    cases h
    obtain ⟨u, s1, rfl, g1, g2⟩ := gx_hs1 hs
    obtain ⟨z, rfl, e⟩ := gx_g_int g1
    refine ⟨hC, sx_set lv i (.int z), s1, w, ?_, gx_hl_set hl ⟨z, rfl, e⟩, g2, hw, hm⟩
    rw [hst, hn]
    unfold sx_ist
    dsimp only
    rw [if_pos hi]
  · cases h
theorem gx_aget_ok {E : sx_E} {A : gx_A} {t : Nat} (hn : gx_nx E = E.1 + 1) (hst : sx_step yp_P xs nL E lv sv w = sx_aget E.1 lv sv w xs t) (hA : (match fx_S[A.2.1]? with
      | some (t', r) => decide (t' = t) && fx_all r && decide (ax_len r = A.2.2)
      | none => false) = true) (h : (match st with
      | .inl i :: .inr c :: r => cond (Nat.beq c A.2.1) (some ((C ∧ (0 ≤ i ∧ i < (A.2.2 : Int)), L, .inl (m c i.toNat) :: r, m) : gx_R)) none
      | _ => none) = some r) (hC : r.1) (hl : gx_hl lv L) (hs : gx_hs sv st) (hw : gx_in w0 w) (hm : gx_m w = m) : gx_res xs w0 nL E C sv w lv r := by
  split at h
  · rename_i i c r0
    obtain ⟨rfl, h⟩ := gx_cond h
    cases h
    obtain ⟨hC1, hi1, hi2⟩ := hC
    obtain ⟨u, s1, rfl, g1, g2⟩ := gx_hs1 hs
    obtain ⟨v, s2, rfl, g3, g4⟩ := gx_hs1 g2
    obtain ⟨b, rfl, rfl⟩ := gx_g_int g1
    have e3 : v = .ref A.2.1 := g3
    subst e3
    split at hA
    · rename_i t' q hS
      simp only [Bool.and_eq_true, decide_eq_true_eq] at hA
      obtain ⟨⟨rfl, ha⟩, hlen⟩ := hA
      obtain ⟨vs, h1, h2, h3, h4, -, -⟩ := fx_int hw.1 hS (fx_all_nth q b.toInt.toNat ha (by omega))
      refine ⟨hC1, lv, .int (fx_i w A.2.1 b.toInt.toNat) :: s2, w, ?_, hl, ⟨⟨fx_i w A.2.1 b.toInt.toNat, rfl, by rw [← hm]; rfl⟩, g4⟩, hw, hm⟩
      rw [hst, hn]
      unfold sx_aget
      dsimp only
      rw [h1]
      dsimp only
      rw [if_pos rfl, ax_ix hi1 (by omega)]
      dsimp only
      rw [h3]
    · cases hA
  · cases h
theorem gx_1_ok {E : sx_E} {A : gx_A} (h : gx_1 E A C L st m = some r) (hA : gx_okA nL E A = true) (hC : r.1) (hl : gx_hl lv L) (hs : gx_hs sv st) (hw : gx_in w0 w) (hm : gx_m w = m) : gx_res xs w0 nL E C sv w lv r := by
  obtain ⟨pc, I, len, a, k, q, z⟩ := E
  cases I
  case iconst n =>
    cases h
    exact ⟨hC, lv, _, w, rfl, hl, ⟨⟨_, rfl, of_decide_eq_true hA⟩, hs⟩, hw, hm⟩
  case bipush n =>
    cases h
    exact ⟨hC, lv, _, w, rfl, hl, ⟨⟨_, rfl, of_decide_eq_true hA⟩, hs⟩, hw, hm⟩
  case sipush n =>
    cases h
    exact ⟨hC, lv, _, w, rfl, hl, ⟨⟨_, rfl, of_decide_eq_true hA⟩, hs⟩, hw, hm⟩
  case ldc n =>
    cases h
    exact ⟨hC, lv, _, w, rfl, hl, ⟨⟨_, rfl, of_decide_eq_true hA⟩, hs⟩, hw, hm⟩
  case ldc_w n =>
    cases h
    exact ⟨hC, lv, _, w, rfl, hl, ⟨⟨_, rfl, of_decide_eq_true hA⟩, hs⟩, hw, hm⟩
  case iload_n i => exact gx_ild_ok (n := 1) rfl rfl h hC hl hs hw hm
  case iload i => exact gx_ild_ok (n := 2) rfl rfl h hC hl hs hw hm
  case aload_n i => exact gx_ald_ok (n := 1) rfl rfl h hC hl hs hw hm
  case istore_n i => exact gx_ist_ok (n := 1) rfl rfl (of_decide_eq_true hA) h hC hl hs hw hm
  case istore i => exact gx_ist_ok (n := 2) rfl rfl (of_decide_eq_true hA) h hC hl hs hw hm
  case iinc i n =>
    dsimp only [gx_1] at h
    dsimp only [gx_okA] at hA
    rw [Bool.and_eq_true, decide_eq_true_eq, decide_eq_true_eq] at hA
    split at h
    · rename_i x hx
      cases h
      obtain ⟨u, e1, e2⟩ := gx_hl_get hl hx
      obtain ⟨y, rfl, rfl⟩ := gx_g_int e2
      refine ⟨hC, sx_set lv i (.int (y + Int32.ofInt n)), sv, w, ?_, gx_hl_set hl ⟨_, rfl, ?_⟩, hs, hw, hm⟩
      · show sx_iinc pc nL lv sv w i n = _
        unfold sx_iinc
        rw [e1]
        dsimp only
        rw [if_pos hA.1]
        rfl
      · rw [Int32.toInt_add, hA.2]
        exact gx_bm _
    · cases h
  case iadd => exact gx_2 rfl rfl (fun x y => ⟨_, rfl, by rw [Int32.toInt_add]; exact gx_bm _⟩) h hC hl hs hw hm
  case isub => exact gx_2 rfl rfl (fun x y => ⟨_, rfl, by rw [Int32.toInt_sub]; exact gx_bm _⟩) h hC hl hs hw hm
  case imul => exact gx_2 rfl rfl (fun x y => ⟨_, rfl, by rw [Int32.toInt_mul]; exact gx_bm _⟩) h hC hl hs hw hm
  case iand => exact gx_2 rfl rfl (fun x y => ⟨_, rfl, by unfold gx_and; rw [Int32.ofInt_toInt, Int32.ofInt_toInt]⟩) h hC hl hs hw hm
  case ior => exact gx_2 rfl rfl (fun x y => ⟨_, rfl, by unfold gx_or; rw [Int32.ofInt_toInt, Int32.ofInt_toInt]⟩) h hC hl hs hw hm
  case ixor => exact gx_2 rfl rfl (fun x y => ⟨_, rfl, by unfold gx_xor; rw [Int32.ofInt_toInt, Int32.ofInt_toInt]⟩) h hC hl hs hw hm
  case ishl => exact gx_2 rfl rfl (fun x y => ⟨_, rfl, by unfold gx_shl; rw [Int32.ofInt_toInt, Int32.ofInt_toInt]⟩) h hC hl hs hw hm
  case ishr => exact gx_2 rfl rfl (fun x y => ⟨_, rfl, by unfold gx_shr; rw [Int32.ofInt_toInt, Int32.ofInt_toInt]⟩) h hC hl hs hw hm
  case idiv =>
    dsimp only [gx_1] at h
    split at h
    · rename_i y x r0
      cases h
      obtain ⟨u, s1, rfl, g1, g2⟩ := gx_hs1 hs
      obtain ⟨v, s2, rfl, g3, g4⟩ := gx_hs1 g2
      obtain ⟨b, rfl, rfl⟩ := gx_g_int g1
      obtain ⟨a0, rfl, rfl⟩ := gx_g_int g3
      have hb : b ≠ 0 := fun e => hC.2 (by rw [e]; rfl)
      refine ⟨hC.1, lv, .int (a0 / b) :: s2, w, ?_, hl, ⟨⟨_, rfl, by rw [Int32.toInt_div]; exact gx_bm _⟩, g4⟩, hw, hm⟩
      dsimp only [sx_step]
      unfold sx_b2
      dsimp only
      rw [if_neg hb]
      rfl
    · cases h
  case irem =>
    dsimp only [gx_1] at h
    split at h
    · rename_i y x r0
      cases h
      obtain ⟨u, s1, rfl, g1, g2⟩ := gx_hs1 hs
      obtain ⟨v, s2, rfl, g3, g4⟩ := gx_hs1 g2
      obtain ⟨b, rfl, rfl⟩ := gx_g_int g1
      obtain ⟨a0, rfl, rfl⟩ := gx_g_int g3
      have hb : b ≠ 0 := fun e => hC.2 (by rw [e]; rfl)
      refine ⟨hC.1, lv, .int (a0 - a0 / b * b) :: s2, w, ?_, hl, ⟨⟨_, rfl, bx_rem _ _⟩, g4⟩, hw, hm⟩
      dsimp only [sx_step]
      unfold sx_b2
      dsimp only
      rw [if_neg hb]
      rfl
    · cases h
  case dup =>
    dsimp only [gx_1] at h
    split at h
    · cases h
      obtain ⟨u, s1, rfl, g1, g2⟩ := gx_hs1 hs
      refine ⟨hC, lv, u :: u :: s1, w, ?_, hl, ⟨g1, g1, g2⟩, hw, hm⟩
      dsimp only [sx_step]
      unfold sx_d1
      dsimp only
      rw [if_pos (gx_g_cat g1)]
      rfl
    · cases h
  case pop =>
    dsimp only [gx_1] at h
    split at h
    · cases h
      obtain ⟨u, s1, rfl, g1, g2⟩ := gx_hs1 hs
      refine ⟨hC, lv, s1, w, ?_, hl, g2, hw, hm⟩
      dsimp only [sx_step]
      unfold sx_p1
      dsimp only
      rw [if_pos (gx_g_cat g1)]
      rfl
    · cases h
  case goto off =>
    cases h
    refine ⟨hC, lv, sv, w, ?_, hl, hs, hw, hm⟩
    show sx_jmp pc off lv sv w true = _
    unfold sx_jmp
    rw [if_pos (of_decide_eq_true hA)]
    rfl
  case getfield i =>
    dsimp only [gx_1] at h
    dsimp only [gx_okA] at hA
    split at h
    · rename_i c r0
      obtain ⟨rfl, h⟩ := gx_cond h
      obtain ⟨u, s1, rfl, g1, g2⟩ := gx_hs1 hs
      have e3 : u = .ref A.2.1 := g1
      subst e3
      split at hA
      · rename_i t q0 hS
        split at h
        · rename_i hz
          cases h
          rw [hz] at hA
          simp only [Bool.and_eq_true, decide_eq_true_eq] at hA
          obtain ⟨⟨rfl, ha⟩, hk⟩ := hA
          obtain ⟨vs, h1, h2, h3, h4, -, -⟩ := fx_int hw.1 hS hk
          refine ⟨hC, lv, .int (fx_i w A.2.1 k) :: s1, w, ?_, hl, ⟨⟨_, rfl, by rw [← hm]; rfl⟩, g2⟩, hw, hm⟩
          dsimp only [sx_step]
          unfold sx_getf
          dsimp only
          rw [h1]
          dsimp only
          rw [if_pos ⟨rfl, ha⟩, h3]
          rfl
        · rename_i hz
          cases h
          split at hA
          · rename_i hz0; exact absurd hz0 hz
          simp only [Bool.and_eq_true, decide_eq_true_eq] at hA
          obtain ⟨⟨rfl, ha⟩, hk⟩ := hA
          obtain ⟨vs, v, h1, h2, h3, h4, h5⟩ := fx_cell hw.1 hS hk
          have hv : v = .ref ((A.2.2 : Nat) : Int).toNat := h4
          rw [Int.toNat_natCast] at hv
          subst hv
          refine ⟨hC, lv, .ref A.2.2 :: s1, w, ?_, hl, ⟨rfl, g2⟩, hw, hm⟩
          dsimp only [sx_step]
          unfold sx_getf
          dsimp only
          rw [h1]
          dsimp only
          rw [if_pos ⟨rfl, ha⟩, h3]
          rfl
      · cases hA
    · cases h
  case putfield i =>
    dsimp only [gx_1] at h
    dsimp only [gx_okA] at hA
    split at h
    · rename_i v c r0
      obtain ⟨rfl, h⟩ := gx_cond h
      cases h
      obtain ⟨u, s1, rfl, g1, g2⟩ := gx_hs1 hs
      obtain ⟨u2, s2, rfl, g3, g4⟩ := gx_hs1 g2
      obtain ⟨b, rfl, rfl⟩ := gx_g_int g1
      have e3 : u2 = .ref A.2.1 := g3
      subst e3
      split at hA
      · rename_i t q0 hS
        simp only [Bool.and_eq_true, decide_eq_true_eq] at hA
        obtain ⟨⟨⟨rfl, ha⟩, hk⟩, hty⟩ := hA
        obtain ⟨vs, h1, h2, h3, h4, -, -⟩ := fx_int hw.1 hS hk
        obtain ⟨p1, p2⟩ := gx_put_ok (v := b) hw hS hk
        refine ⟨hC, lv, s2, fx_p w A.2.1 k b, ?_, hl, g4, p1, by rw [p2, hm]⟩
        dsimp only [sx_step]
        unfold sx_putf
        dsimp only
        rw [h1]
        dsimp only
        rw [hty, if_pos ⟨rfl, ha, h4, by simp [sx_fit, narrow, fits]⟩, fx_p_set h1]
        rfl
      · cases hA
    · cases h
  case iaload => exact gx_aget_ok (A := A) rfl rfl hA h hC hl hs hw hm
  case baload => exact gx_aget_ok (A := A) rfl rfl hA h hC hl hs hw hm
  case iastore =>
    dsimp only [gx_1] at h
    dsimp only [gx_okA] at hA
    split at h
    · rename_i v i c r0
      obtain ⟨rfl, h⟩ := gx_cond h
      cases h
      obtain ⟨hC1, hi1, hi2⟩ := hC
      obtain ⟨u, s1, rfl, g1, g2⟩ := gx_hs1 hs
      obtain ⟨u2, s2, rfl, g3, g4⟩ := gx_hs1 g2
      obtain ⟨u3, s3, rfl, g5, g6⟩ := gx_hs1 g4
      obtain ⟨x, rfl, rfl⟩ := gx_g_int g1
      obtain ⟨b, rfl, rfl⟩ := gx_g_int g3
      have e3 : u3 = .ref A.2.1 := g5
      subst e3
      split at hA
      · rename_i t q0 hS
        simp only [Bool.and_eq_true, decide_eq_true_eq] at hA
        obtain ⟨⟨rfl, ha⟩, hlen⟩ := hA
        have hk := fx_all_nth q0 b.toInt.toNat ha (by omega)
        obtain ⟨vs, h1, h2, h3, h4, -, -⟩ := fx_int hw.1 hS hk
        obtain ⟨p1, p2⟩ := gx_put_ok (v := x) hw hS hk
        refine ⟨hC1, lv, s3, fx_p w A.2.1 b.toInt.toNat x, ?_, hl, g6, p1, by rw [p2, hm]⟩
        dsimp only [sx_step]
        unfold sx_aput
        dsimp only
        rw [h1]
        dsimp only
        rw [if_pos rfl, ax_ix hi1 (by omega)]
        dsimp only
        rw [fx_p_set h1]
        rfl
      · cases hA
    · cases h
  all_goals (cases h; done)
end GXS
