/-! PARTIAL RUNS, 3: every instruction; blocks -/
theorem hx_min (x y : Int32) : (if x < y then y else x).toInt = if x.toInt < y.toInt then y.toInt else x.toInt := by
  by_cases c : x < y
  · rw [if_pos c, if_pos (Int32.lt_iff_toInt_lt.mp c)]
  · rw [if_neg c, if_neg (fun h => c (Int32.lt_iff_toInt_lt.mpr h))]
theorem hx_max (x y : Int32) : (if y < x then y else x).toInt = if y.toInt < x.toInt then y.toInt else x.toInt := by
  by_cases c : y < x
  · rw [if_pos c, if_pos (Int32.lt_iff_toInt_lt.mp c)]
  · rw [if_neg c, if_neg (fun h => c (Int32.lt_iff_toInt_lt.mpr h))]
section HXS
variable {xs : List Int32} {nL : Nat} {L : hLs} {st : List hV} {sv : List Value} {m : gx_M} {w : sx_W} {lv : sx_L} {q : hR} {r' : sx_R}
theorem hgetf_ok {E : sx_E} {A : gx_A} {c : Nat} {r0 : List hV} (hn : hnx E = E.1 + 3) (hst : sx_step yp_P xs nL E lv sv w = sx_getf E.1 lv sv w E.2.2.2.1 E.2.2.2.2.1) (hc : Nat.beq c A.2.1 = true) (hA : (match fx_S[A.2.1]? with
      | some (_, r) => (match A.1 with
        | 0 => decide (ax_nth r E.2.2.2.2.1 = some ax_top)
        | 1 => decide (ax_nth r E.2.2.2.2.1 = some (2, (A.2.2 : Int), 0)) && decide (A.2.2 ≠ 100000)
        | _ => decide (ax_nth r E.2.2.2.2.1 = some ax_topL))
      | none => false) = true) (h : (match A.1 with
        | 0 => some ((L, .inl (m c E.2.2.2.2.1) :: r0, m) : hR)
        | 1 => some (L, .inr (.inl A.2.2) :: r0, m)
        | _ => some (L, .inr (.inr (m c E.2.2.2.2.1)) :: r0, m)) = some q) (hl' : hl lv L) (hs' : hs sv (.inr (.inl c) :: r0)) (hw : bx_in fx_S w) (hm' : hm w = m) (hr : sx_step yp_P xs nL E lv sv w = some r') : hrel E r' q := by
  have hc := Nat.eq_of_beq_eq_true hc
  subst hc
  obtain ⟨u, s1, rfl, g1, g2⟩ := hs1 hs'
  split at hA
  · rename_i t q' hS
    rcases hg_ref g1 with ⟨-, k, rfl⟩ | ⟨hne, rfl⟩
    · rw [hst] at hr; cases hr
    rw [hst] at hr
    unfold sx_getf at hr
    dsimp only at hr
    split at hr
    · rename_i c' fs hcw
      split at hr
      · split at hr
        · rename_i v hv
          cases hr
          obtain ⟨vs, k1, k2, k3⟩ := hw.2 _ _ _ hS
          rw [hcw] at k1
          cases k1
          have hmv : m A.2.1 E.2.2.2.2.1 = hval v := by rw [← hm']; exact hm_rd (hrd_at hcw hv)
          split at h
          · rename_i e0
            cases h
            rw [e0] at hA
            have hk := of_decide_eq_true hA
            obtain ⟨x, rfl, -, -⟩ := k3 _ _ _ hk hv
            exact ⟨hn.symm, hl', ⟨⟨x, rfl, hmv.symm⟩, g2⟩, hw, hm'⟩
          · rename_i e0
            cases h
            rw [e0] at hA
            have hA : (decide (ax_nth q' E.2.2.2.2.1 = some (2, (A.2.2 : Int), 0)) && decide (A.2.2 ≠ 100000)) = true := hA
            rw [Bool.and_eq_true, decide_eq_true_eq, decide_eq_true_eq] at hA
            have h5 := k3 _ _ _ hA.1 hv
            have hv' : v = .ref ((A.2.2 : Nat) : Int).toNat := h5
            rw [Int.toNat_natCast] at hv'
            subst hv'
            exact ⟨hn.symm, hl', ⟨.inr ⟨hA.2, rfl⟩, g2⟩, hw, hm'⟩
          · rename_i e0 e1
            cases h
            split at hA
            · rename_i e; exact absurd e e0
            · rename_i e; exact absurd e e1
            have hk := of_decide_eq_true hA
            obtain ⟨x, rfl, -, -⟩ := k3 _ _ _ hk hv
            exact ⟨hn.symm, hl', ⟨⟨x, rfl, hmv.symm⟩, g2⟩, hw, hm'⟩
        · cases hr
      · cases hr
    · cases hr
  · cases hA
theorem hputf_ok {E : sx_E} {A : gx_A} {c : Nat} {v : hV} {z : Int} {a : ax_V} {r0 : List hV} {ty : FieldType} (hn : hnx E = E.1 + 3) (hst : sx_step yp_P xs nL E lv sv w = sx_putf E.1 lv sv w E.2.2.2.1 E.2.2.2.2.1 ty) (hc : Nat.beq c A.2.1 = true) {t : Nat} {r : ax_A} (hS : fx_S[A.2.1]? = some (t, r)) (hk : ax_nth r E.2.2.2.2.1 = some a) (hva : ∀ u, hg v u → ax_g [] a u ∧ hval u = z) (hl' : hl lv L) (hs' : hs sv (v :: .inr (.inl c) :: r0)) (hw : bx_in fx_S w) (hm' : hm w = m) (hr : sx_step yp_P xs nL E lv sv w = some r') : hrel E r' (L, r0, gx_u m c E.2.2.2.2.1 z) := by
  have hc := Nat.eq_of_beq_eq_true hc
  subst hc
  obtain ⟨u, s1, rfl, g1, g2⟩ := hs1 hs'
  obtain ⟨u2, s2, rfl, g3, g4⟩ := hs1 g2
  rcases hg_ref g3 with ⟨-, k, rfl⟩ | ⟨hne, rfl⟩
  · rw [hst] at hr; cases hr
  rw [hst] at hr
  unfold sx_putf at hr
  dsimp only at hr
  split at hr
  · rename_i c' fs hcw
    split at hr
    · rename_i hcc
      cases hr
      obtain ⟨vs, k1, k2, k3⟩ := hw.2 _ _ _ hS
      rw [hcw] at k1
      cases k1
      refine ⟨hn.symm, hl', g4, hset_in hw hS hk hcw (hva u g1).1, ?_⟩
      show hm (w.set A.2.1 (t, fs.set E.2.2.2.2.1 u)) = _
      rw [hset_m hcw hcc.2.2.1, hm', (hva u g1).2]
    · cases hr
  · cases hr
theorem hcpy_ok {E : sx_E} {A : gx_A} {a0 a1 : Nat} {n dp sp : Int} {r0 : List hV} (hn : hnx E = E.1 + 3) (hst : sx_step yp_P xs nL E lv sv w = sx_copy E.1 lv sv w) (hc : (Nat.beq a0 A.2.1 && Nat.beq a1 A.2.2) = true) (hA : (match fx_S[A.2.1]?, fx_S[A.2.2]? with
        | some (t, r), some (t', r') => decide (t = 100) && fx_all r && decide (t' = 100) && fx_all r' && decide (A.2.1 ≠ 100000) && decide (A.2.2 ≠ 100000)
        | _, _ => false) = true) (hl' : hl lv L) (hs' : hs sv (.inl n :: .inl dp :: .inr (.inl a1) :: .inl sp :: .inr (.inl a0) :: r0)) (hw : bx_in fx_S w) (hm' : hm w = m) (hr : sx_step yp_P xs nL E lv sv w = some r') : hrel E r' (L, r0, hcopy m a0 sp.toNat a1 dp.toNat n.toNat) := by
  rw [Bool.and_eq_true] at hc
  have hc0 := Nat.eq_of_beq_eq_true hc.1
  have hc1 := Nat.eq_of_beq_eq_true hc.2
  subst hc0
  subst hc1
  obtain ⟨u, s1, rfl, g1, g2⟩ := hs1 hs'
  obtain ⟨u2, s2, rfl, g3, g4⟩ := hs1 g2
  obtain ⟨u3, s3, rfl, g5, g6⟩ := hs1 g4
  obtain ⟨u4, s4, rfl, g7, g8⟩ := hs1 g6
  obtain ⟨u5, s5, rfl, g9, g10⟩ := hs1 g8
  obtain ⟨zn, rfl, rfl⟩ := hg_int g1
  obtain ⟨zd, rfl, rfl⟩ := hg_int g3
  obtain ⟨zs, rfl, rfl⟩ := hg_int g7
  split at hA
  · rename_i t q t' q' hS0 hS1
    simp only [Bool.and_eq_true, decide_eq_true_eq] at hA
    obtain ⟨⟨⟨⟨⟨rfl, ha0⟩, rfl⟩, ha1⟩, n0⟩, n1⟩ := hA
    rcases hg_ref g5 with ⟨e, -⟩ | ⟨-, rfl⟩
    · exact absurd e n1
    rcases hg_ref g9 with ⟨e, -⟩ | ⟨-, rfl⟩
    · exact absurd e n0
    rw [hst] at hr
    unfold sx_copy at hr
    dsimp only at hr
    split at hr
    · rename_i c0 f c1 g hf hg'
      split at hr
      · rename_i hcc
        cases hr
        obtain ⟨rfl, rfl, -, -, -, h1, h2, -⟩ := hcc
        obtain ⟨k1, k2⟩ := hcopy_ok hw hS0 hS1 ha0 ha1 hf hg' h1 h2
        exact ⟨hn.symm, hl', g10, k1, by rw [← hm']; exact k2⟩
      · cases hr
    · cases hr
  · cases hA
theorem h1_ok {E : sx_E} {A : gx_A} (h : h1 xs E A L st m = some q) (hA : hokA E A = true) (hl' : hl lv L) (hs' : hs sv st) (hw : bx_in fx_S w) (hm' : hm w = m) (hr : sx_step yp_P xs nL E lv sv w = some r') : hrel E r' q := by
  obtain ⟨pc, I, len, a, k, qq, z⟩ := E
  cases I
  case iconst n =>
    cases h; cases hr
    exact ⟨rfl, hl', ⟨⟨_, rfl, of_decide_eq_true hA⟩, hs'⟩, hw, hm'⟩
  case bipush n =>
    cases h; cases hr
    exact ⟨rfl, hl', ⟨⟨_, rfl, of_decide_eq_true hA⟩, hs'⟩, hw, hm'⟩
  case sipush n =>
    cases h; cases hr
    exact ⟨rfl, hl', ⟨⟨_, rfl, of_decide_eq_true hA⟩, hs'⟩, hw, hm'⟩
  case lconst n =>
    cases h; cases hr
    exact ⟨rfl, hl', ⟨⟨_, rfl, of_decide_eq_true hA⟩, hs'⟩, hw, hm'⟩
  case ldc n =>
    cases h; cases hr
    exact ⟨rfl, hl', ⟨⟨_, rfl, of_decide_eq_true hA⟩, hs'⟩, hw, hm'⟩
  case ldc_w n =>
    cases h; cases hr
    exact ⟨rfl, hl', ⟨⟨_, rfl, of_decide_eq_true hA⟩, hs'⟩, hw, hm'⟩
  case ldc2_w n =>
    cases h; cases hr
    exact ⟨rfl, hl', ⟨⟨_, rfl, of_decide_eq_true hA⟩, hs'⟩, hw, hm'⟩
  case iload_n i => exact hild_ok (n := 1) rfl rfl h hl' hs' hw hm' hr
  case iload i => exact hild_ok (n := 2) rfl rfl h hl' hs' hw hm' hr
  case lload_n i => exact hlld_ok (n := 1) rfl rfl h hl' hs' hw hm' hr
  case lload i => exact hlld_ok (n := 2) rfl rfl h hl' hs' hw hm' hr
  case aload_n i => exact hald_ok (n := 1) rfl rfl h hl' hs' hw hm' hr
  case aload i => exact hald_ok (n := 2) rfl rfl h hl' hs' hw hm' hr
  case istore_n i => exact hist_ok (n := 1) rfl rfl h hl' hs' hw hm' hr
  case istore i => exact hist_ok (n := 2) rfl rfl h hl' hs' hw hm' hr
  case lstore_n i => exact hlst_ok (n := 1) rfl rfl h hl' hs' hw hm' hr
  case lstore i => exact hlst_ok (n := 2) rfl rfl h hl' hs' hw hm' hr
  case iinc i n =>
    dsimp only [h1] at h
    dsimp only [hokA] at hA
    rw [decide_eq_true_eq] at hA
    split at h
    · rename_i x hx
      cases h
      obtain ⟨y, e1, -, e2⟩ := sx_iinc_inv (pc := pc) (nL := nL) (st := sv) (w := w) hr
      subst e2
      obtain ⟨u, g1, g2⟩ := hl_get hl' hx
      rw [e1] at g1
      cases g1
      obtain ⟨y', e, rfl⟩ := hg_int g2
      cases e
      refine ⟨rfl, hl_set hl' ⟨_, rfl, ?_⟩, hs', hw, hm'⟩
      rw [Int32.toInt_add, hA]
      exact gx_bm _
    · cases h
  case iadd => exact hb2_ok rfl rfl (fun x y z e => by cases e; rw [Int32.toInt_add]; exact gx_bm _) h hl' hs' hw hm' hr
  case isub => exact hb2_ok rfl rfl (fun x y z e => by cases e; rw [Int32.toInt_sub]; exact gx_bm _) h hl' hs' hw hm' hr
  case imul => exact hb2_ok rfl rfl (fun x y z e => by cases e; rw [Int32.toInt_mul]; exact gx_bm _) h hl' hs' hw hm' hr
  case iand => exact hb2_ok rfl rfl (fun x y z e => by cases e; unfold gx_and; rw [Int32.ofInt_toInt, Int32.ofInt_toInt]) h hl' hs' hw hm' hr
  case ior => exact hb2_ok rfl rfl (fun x y z e => by cases e; unfold gx_or; rw [Int32.ofInt_toInt, Int32.ofInt_toInt]) h hl' hs' hw hm' hr
  case ixor => exact hb2_ok rfl rfl (fun x y z e => by cases e; unfold gx_xor; rw [Int32.ofInt_toInt, Int32.ofInt_toInt]) h hl' hs' hw hm' hr
  case ishl => exact hb2_ok rfl rfl (fun x y z e => by cases e; unfold gx_shl; rw [Int32.ofInt_toInt, Int32.ofInt_toInt]) h hl' hs' hw hm' hr
  case ishr => exact hb2_ok rfl rfl (fun x y z e => by cases e; unfold gx_shr; rw [Int32.ofInt_toInt, Int32.ofInt_toInt]) h hl' hs' hw hm' hr
  case iushr => exact hb2_ok rfl rfl (fun x y z e => by cases e; unfold hushr; rw [Int32.ofInt_toInt, Int32.ofInt_toInt]) h hl' hs' hw hm' hr
  case idiv => exact hb2_ok rfl rfl (fun x y z e => by
    split at e
    · cases e
    · cases e; rw [Int32.toInt_div]; exact gx_bm _) h hl' hs' hw hm' hr
  case irem => exact hb2_ok rfl rfl (fun x y z e => by
    split at e
    · cases e
    · cases e; exact bx_rem _ _) h hl' hs' hw hm' hr
  case ineg => exact hu1_ok (f := fun x => .inl (gx_w (-x))) rfl rfl (fun x => ⟨_, rfl, by rw [Int32.toInt_neg]; exact gx_bm _⟩) h hl' hs' hw hm' hr
  case i2l => exact hu1_ok (f := fun x => .inr (.inr x)) rfl rfl (fun x => ⟨_, rfl, Int32.toInt_toInt64 x⟩) h hl' hs' hw hm' hr
  case i2b => exact hu1_ok (f := fun x => .inl (hi2b x)) rfl rfl (fun x => ⟨_, rfl, by unfold hi2b; rw [Int32.ofInt_toInt]⟩) h hl' hs' hw hm' hr
  case l2i =>
    dsimp only [h1] at h
    split at h
    · cases h
      obtain ⟨u, s1, rfl, g1, g2⟩ := hs1 hs'
      obtain ⟨b, rfl, rfl⟩ := hg_long g1
      cases hr
      exact ⟨rfl, hl', ⟨⟨_, rfl, by rw [Int64.toInt_toInt32]; exact gx_bm _⟩, g2⟩, hw, hm'⟩
    · cases h
  case ladd => exact hl2_ok rfl rfl (fun x y => by rw [Int64.toInt_add]; exact hlw_bm _) h hl' hs' hw hm' hr
  case lsub => exact hl2_ok rfl rfl (fun x y => by rw [Int64.toInt_sub]; exact hlw_bm _) h hl' hs' hw hm' hr
  case lmul => exact hl2_ok rfl rfl (fun x y => by rw [Int64.toInt_mul]; exact hlw_bm _) h hl' hs' hw hm' hr
  case land => exact hl2_ok rfl rfl (fun x y => by unfold hland; rw [Int64.ofInt_toInt, Int64.ofInt_toInt]) h hl' hs' hw hm' hr
  case lor => exact hl2_ok rfl rfl (fun x y => by unfold hlor; rw [Int64.ofInt_toInt, Int64.ofInt_toInt]) h hl' hs' hw hm' hr
  case lxor => exact hl2_ok rfl rfl (fun x y => by unfold hlxor; rw [Int64.ofInt_toInt, Int64.ofInt_toInt]) h hl' hs' hw hm' hr
  case lshl => exact hls_ok rfl rfl (fun x y => by unfold hlshl; rw [Int64.ofInt_toInt, Int32.ofInt_toInt]) h hl' hs' hw hm' hr
  case lushr => exact hls_ok rfl rfl (fun x y => by unfold hlushr; rw [Int64.ofInt_toInt, Int32.ofInt_toInt]) h hl' hs' hw hm' hr
  case lcmp =>
    dsimp only [h1] at h
    split at h
    · cases h
      obtain ⟨u, s1, rfl, g1, g2⟩ := hs1 hs'
      obtain ⟨v, s2, rfl, g3, g4⟩ := hs1 g2
      obtain ⟨b, rfl, rfl⟩ := hg_long g1
      obtain ⟨a0, rfl, rfl⟩ := hg_long g3
      cases hr
      exact ⟨rfl, hl', ⟨⟨_, rfl, hlcmp_ok _ _⟩, g4⟩, hw, hm'⟩
    · cases h
  case dup =>
    dsimp only [h1] at h
    split at h
    · cases h
      obtain ⟨u, s1, rfl, g1, g2⟩ := hs1 hs'
      dsimp only [sx_step] at hr
      unfold sx_d1 at hr
      dsimp only at hr
      split at hr
      · cases hr; exact ⟨rfl, hl', ⟨g1, g1, g2⟩, hw, hm'⟩
      · cases hr
    · cases h
  case pop =>
    dsimp only [h1] at h
    split at h
    · cases h
      obtain ⟨u, s1, rfl, g1, g2⟩ := hs1 hs'
      dsimp only [sx_step] at hr
      unfold sx_p1 at hr
      dsimp only at hr
      split at hr
      · cases hr; exact ⟨rfl, hl', g2, hw, hm'⟩
      · cases hr
    · cases h
  case pop2 =>
    dsimp only [h1] at h
    split at h
    · cases h
      obtain ⟨u, s1, rfl, g1, g2⟩ := hs1 hs'
      dsimp only [sx_step] at hr
      unfold sx_p2 at hr
      dsimp only at hr
      split at hr
      · cases hr; exact ⟨rfl, hl', g2, hw, hm'⟩
      · cases hr
    · cases h
  case dup_x1 =>
    dsimp only [h1] at h
    split at h
    · cases h
      obtain ⟨u, s1, rfl, g1, g2⟩ := hs1 hs'
      obtain ⟨v, s2, rfl, g3, g4⟩ := hs1 g2
      dsimp only [sx_step] at hr
      unfold sx_dx1 at hr
      dsimp only at hr
      split at hr
      · cases hr; exact ⟨rfl, hl', ⟨g1, g3, g1, g4⟩, hw, hm'⟩
      · cases hr
    · cases h
  case dup2 =>
    dsimp only [h1] at h
    split at h
    · cases h
      obtain ⟨u, s1, rfl, g1, g2⟩ := hs1 hs'
      obtain ⟨v, s2, rfl, g3, g4⟩ := hs1 g2
      dsimp only [sx_step] at hr
      unfold sx_d2 at hr
      dsimp only at hr
      split at hr
      · cases hr; exact ⟨rfl, hl', ⟨g1, g3, g1, g3, g4⟩, hw, hm'⟩
      · cases hr
    · cases h
  case goto off =>
    cases h
    have hr : sx_jmp pc off lv sv w true = some r' := hr
    unfold sx_jmp at hr
    rw [if_pos (of_decide_eq_true hA)] at hr
    cases hr
    exact ⟨rfl, hl', hs', hw, hm'⟩
  case getfield i =>
    dsimp only [h1] at h
    split at h
    · obtain ⟨hc, h⟩ := hcond h
      exact hgetf_ok rfl rfl hc hA h hl' hs' hw hm' hr
    · cases h
  case putfield i =>
    dsimp only [h1] at h
    dsimp only [hokA] at hA
    split at hA
    · rename_i t rr hS
      split at h
      · obtain ⟨hc, h⟩ := hcond h
        rw [Bool.and_eq_true] at hc
        cases h
        rw [Nat.eq_of_beq_eq_true hc.2] at hA
        exact hputf_ok (a := ax_top) rfl rfl hc.1 hS (of_decide_eq_true hA) (fun u hu => by
            obtain ⟨zz, rfl, rfl⟩ := hg_int hu
            exact ⟨ax_top_ok zz, rfl⟩) hl' hs' hw hm' hr
      · obtain ⟨hc, h⟩ := hcond h
        rw [Bool.and_eq_true] at hc
        cases h
        rw [Nat.eq_of_beq_eq_true hc.2] at hA
        exact hputf_ok (a := ax_topL) rfl rfl hc.1 hS (of_decide_eq_true hA) (fun u hu => by
            obtain ⟨zz, rfl, rfl⟩ := hg_long hu
            exact ⟨ax_topL_ok zz, rfl⟩) hl' hs' hw hm' hr
      · cases h
    · cases hA
  case iaload =>
    dsimp only [h1] at h
    dsimp only [hokA] at hA
    split at h
    · rename_i i c r0
      obtain ⟨hc, h⟩ := hcond h
      have hc := Nat.eq_of_beq_eq_true hc
      subst hc
      split at h
      · rename_i e0
        cases h
        rw [e0] at hA
        exact haget_ok rfl rfl hA hl' hs' hw hm' hr
      · rename_i e0
        cases h
        split at hA
        · rename_i e; exact absurd e e0
        have hA := of_decide_eq_true hA
        obtain ⟨u, s1, rfl, g1, g2⟩ := hs1 hs'
        obtain ⟨v, s2, rfl, g3, g4⟩ := hs1 g2
        obtain ⟨b, rfl, rfl⟩ := hg_int g1
        rcases hg_ref g3 with ⟨-, kk, rfl⟩ | ⟨hne, rfl⟩
        · dsimp only [sx_step] at hr
          unfold sx_aget at hr
          dsimp only at hr
          rw [if_pos rfl] at hr
          split at hr
          · rename_i j hj
            cases hr
            obtain ⟨-, e1, -⟩ := sx_ix_inv hj
            have e2 : b.toInt.toNat = j := e1
            exact ⟨rfl, hl', ⟨⟨_, rfl, by rw [e2]⟩, g4⟩, hw, hm'⟩
          · cases hr
        · exact absurd hA hne
    · cases h
  case baload =>
    dsimp only [h1] at h
    split at h
    · obtain ⟨hc, h⟩ := hcond h
      have hc := Nat.eq_of_beq_eq_true hc
      subst hc
      cases h
      exact haget_ok rfl rfl hA hl' hs' hw hm' hr
    · cases h
  case iastore =>
    dsimp only [h1] at h
    split at h
    · obtain ⟨hc, h⟩ := hcond h
      have hc := Nat.eq_of_beq_eq_true hc
      subst hc
      cases h
      exact haput_ok (g := fun x => x) (fun x => rfl) rfl rfl hA hl' hs' hw hm' hr
    · cases h
  case bastore =>
    dsimp only [h1] at h
    split at h
    · obtain ⟨hc, h⟩ := hcond h
      have hc := Nat.eq_of_beq_eq_true hc
      subst hc
      cases h
      exact haput_ok (g := hbyte) (fun x => by unfold hbyte; rw [Int32.ofInt_toInt]) rfl rfl hA hl' hs' hw hm' hr
    · cases h
  case arraylength =>
    dsimp only [h1] at h
    dsimp only [hokA] at hA
    split at h
    · rename_i c r0
      obtain ⟨hc, h'⟩ := hcond h
      clear h
      have hc := Nat.eq_of_beq_eq_true hc
      subst hc
      obtain ⟨u, s1, rfl, g1, g2⟩ := hs1 hs'
      split at h'
      · rename_i e0
        cases h'
        rw [e0] at hA
        have hA : (match fx_S[A.2.1]? with | some (_, r) => decide (ax_len r = A.2.2) && decide (A.2.1 ≠ 100000) && decide (A.2.2 < 100000) | none => false) = true := hA
        split at hA
        · rename_i t rr hS
          simp only [Bool.and_eq_true, decide_eq_true_eq] at hA
          obtain ⟨⟨hln, hne⟩, hlt⟩ := hA
          rcases hg_ref g1 with ⟨e, -⟩ | ⟨-, rfl⟩
          · exact absurd e hne
          obtain ⟨vs, k1, k2, k3⟩ := hw.2 _ _ _ hS
          dsimp only [sx_step] at hr
          unfold sx_alen at hr
          dsimp only at hr
          rw [k1] at hr
          dsimp only at hr
          split at hr
          · cases hr
            refine ⟨rfl, hl', ⟨⟨_, rfl, ?_⟩, g2⟩, hw, hm'⟩
            rw [k2, hln, Int32.toInt_ofNat_of_lt (by omega)]
          · cases hr
        · cases hA
      · rename_i e0
        cases h'
        split at hA
        · rename_i e; exact absurd e e0
        have hA := of_decide_eq_true hA
        rcases hg_ref g1 with ⟨-, kk, rfl⟩ | ⟨hne, rfl⟩
        · cases hr
          exact ⟨rfl, hl', ⟨⟨_, rfl, rfl⟩, g2⟩, hw, hm'⟩
        · exact absurd hA hne
    · cases h
  case invokestatic i =>
    dsimp only [h1] at h
    dsimp only [hokA] at hA
    split at h
    · split at h
      · obtain ⟨hc, h⟩ := hcond h
        cases h
        exact hcpy_ok (xs := xs) (nL := nL) (E := (pc, .invokestatic i, len, 1001, k, qq, z)) rfl rfl hc hA hl' hs' hw hm' hr
      · cases h
    · exact hmm_ok (xs := xs) (nL := nL) (E := (pc, .invokestatic i, len, 1002, k, qq, z)) rfl rfl hx_min h hl' hs' hw hm' hr
    · exact hmm_ok (xs := xs) (nL := nL) (E := (pc, .invokestatic i, len, 1003, k, qq, z)) rfl rfl hx_max h hl' hs' hw hm' hr
    · cases h
  all_goals (cases h; done)
end HXS
