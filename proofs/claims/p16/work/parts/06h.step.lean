/-! one theorem of the reader's step -/
section AXU
variable {xs : List Int32} {P : sx_P} {env : ax_N} {pc : Nat} {l : ax_L} {ast : List ax_V} {aw : ax_W} {c s : Nat} {outs : List ax_S} {lv : sx_L} {st : List Value} {w : sx_W}
theorem ax_iinc_ok {nL i : Nat} {n : Int} (h : (match ax_get l i with
      | some x => (match ax_iadd env x (0, (Int32.ofInt n).toInt, (Int32.ofInt n).toInt) with
        | some y => if i < nL then ax_1 env (pc + 3) (ax_set l i y) ast aw c s else none
        | none => none)
      | none => none) = some outs) (he : ax_env xs env) (hl : ax_gl xs l lv) (hs : ax_gs xs ast st) (hw : ax_gw xs aw w) : ax_res xs c s outs (sx_iinc pc nL lv st w i n) := by
  split at h
  · rename_i x hx
    split at h
    · rename_i y hy
      obtain ⟨v, g1, g2⟩ := ax_gl_get hl hx
      obtain ⟨x0, y0, z0, rfl, e2, hz, hg⟩ := ax_iadd_ok xs env x _ y v (.int (Int32.ofInt n)) he g2 ax_g0 hy
      cases e2
      cases hz
      by_cases hi : i < nL
      · rw [if_pos hi] at h
        unfold sx_iinc
        rw [g1]
        dsimp only
        rw [if_pos hi]
        exact ax_res1 h he (ax_gl_set hl hg) hs hw
      · rw [if_neg hi] at h; cases h
    · cases h
  · cases h
theorem ax_step_ok {nL : Nat} {E : sx_E} (h : ax_step P nL E (env, E.1, l, ast, aw, c, s) = some outs) (he : ax_env xs env) (hl : ax_gl xs l lv) (hs : ax_gs xs ast st) (hw : ax_gw xs aw w) : ax_res xs c s outs (sx_step P xs nL E lv st w) := by
  obtain ⟨pc, I, len, a, k, q, z⟩ := E
  cases I
  case iconst n => exact ax_res1 h he hl ⟨ax_g0, hs⟩ hw
  case bipush n => exact ax_res1 h he hl ⟨ax_g0, hs⟩ hw
  case sipush n => exact ax_res1 h he hl ⟨ax_g0, hs⟩ hw
  case lconst n => exact ax_res1 h he hl ⟨ax_gL, hs⟩ hw
  case ldc n => exact ax_res1 h he hl ⟨ax_g0, hs⟩ hw
  case ldc_w n => exact ax_res1 h he hl ⟨ax_g0, hs⟩ hw
  case ldc2_w n => exact ax_res1 h he hl ⟨ax_gL, hs⟩ hw
  case iload_n i => exact (ax_ld_ok h he hl hs hw).1 rfl
  case iload i => exact (ax_ld_ok h he hl hs hw).1 rfl
  case lload_n i => exact (ax_ld_ok h he hl hs hw).2.1 rfl
  case lload i => exact (ax_ld_ok h he hl hs hw).2.1 rfl
  case aload_n i => exact (ax_ld_ok h he hl hs hw).2.2 rfl
  case aload i => exact (ax_ld_ok h he hl hs hw).2.2 rfl
  case istore_n i => exact (ax_sto_ok h he hl hs hw).1 rfl
  case istore i => exact (ax_sto_ok h he hl hs hw).1 rfl
  case lstore_n i => exact (ax_sto_ok h he hl hs hw).2.1 rfl
  case lstore i => exact (ax_sto_ok h he hl hs hw).2.1 rfl
  case astore_n i => exact (ax_sto_ok h he hl hs hw).2.2 rfl
  case astore i => exact (ax_sto_ok h he hl hs hw).2.2 rfl
  case iinc i n => exact ax_iinc_ok h he hl hs hw
  case iadd => exact ax_b2_ok (ax_iadd_ok xs) h he hl hs hw
  case isub => exact ax_b2_ok (ax_isub_ok xs) h he hl hs hw
  case imul => exact ax_b2_ok (ax_imul_ok xs) h he hl hs hw
  case iand => exact ax_b2_ok (ax_iand_ok xs) h he hl hs hw
  case ior => exact ax_b2_ok (ax_gen_ok xs _) h he hl hs hw
  case ixor => exact ax_b2_ok (ax_gen_ok xs _) h he hl hs hw
  case idiv => exact ax_b2_ok (ax_quo_ok xs _ (fun x y hy => ⟨x / y, by simp [hy]⟩)) h he hl hs hw
  case irem => exact ax_b2_ok (ax_quo_ok xs _ (fun x y hy => ⟨x - x / y * y, by simp [hy]⟩)) h he hl hs hw
  case ishl => exact ax_b2_ok (ax_gen_ok xs _) h he hl hs hw
  case ishr => exact ax_b2_ok (ax_ishr_ok xs) h he hl hs hw
  case iushr => exact ax_b2_ok (ax_gen_ok xs _) h he hl hs hw
  case i2l =>
    dsimp only [ax_step] at h
    split at h
    · rename_i a r
      obtain ⟨v, r', rfl, ha, hr⟩ := ax_gs1 hs
      split at h
      · rename_i p hp
        obtain ⟨x, rfl, h1, h2⟩ := ax_iv_ok he ha hp
        exact ax_res1 h he hl ⟨⟨_, rfl, by rw [Int32.toInt_toInt64]; exact h1, by rw [Int32.toInt_toInt64]; exact h2⟩, hr⟩ hw
      · cases h
    · cases h
  case i2b =>
    dsimp only [ax_step] at h
    split at h
    · rename_i a r
      obtain ⟨v, r', rfl, ha, hr⟩ := ax_gs1 hs
      split at h
      · rename_i p hp
        obtain ⟨x, rfl, h1, h2⟩ := ax_iv_ok he ha hp
        refine ax_res1 (st := .int x.toInt8.toInt32 :: r') h he hl ⟨?_, hr⟩ hw
        by_cases hpp : p.1 = p.2
        · rw [if_pos hpp, ← ax_one x h1 h2 hpp]; exact ax_g0
        · rw [if_neg hpp]; exact ⟨_, rfl, (ax_i8 x).1, (ax_i8 x).2⟩
      · cases h
    · cases h
  case l2i =>
    dsimp only [ax_step] at h
    split at h
    · rename_i a r
      obtain ⟨v, r', rfl, ha, hr⟩ := ax_gs1 hs
      by_cases h1 : a.1 = 1
      · rw [if_pos h1] at h
        obtain ⟨x, rfl, g1, g2⟩ := ax_g1 ha h1
        refine ax_res1 (st := .int x.toInt32 :: r') h he hl ⟨?_, hr⟩ hw
        by_cases hpp : a.2.1 = a.2.2
        · rw [if_pos hpp, ← ax_oneL x g1 g2 hpp]; exact ax_g0
        · rw [if_neg hpp]; exact ax_top_ok _
      · rw [if_neg h1] at h; cases h
    · cases h
  case ladd => exact ax_l2_ok h he hl hs hw
  case lsub => exact ax_l2_ok h he hl hs hw
  case lmul => exact ax_l2_ok h he hl hs hw
  case land => exact ax_l2_ok h he hl hs hw
  case lor => exact ax_l2_ok h he hl hs hw
  case lxor => exact ax_l2_ok h he hl hs hw
  case lshl => exact ax_ls_ok ax_lshl0 h he hl hs hw
  case lushr => exact ax_ls_ok ax_lushr0 h he hl hs hw
  case lcmp =>
    dsimp only [ax_step] at h
    split at h
    · rename_i b a r
      obtain ⟨u, v, r', rfl, hb, ha, hr⟩ := ax_gs2 hs
      by_cases hc : a.1 = 1 ∧ b.1 = 1
      · rw [if_pos hc] at h
        obtain ⟨x, rfl, g1, g2⟩ := ax_g1 ha hc.1
        obtain ⟨y, rfl, g3, g4⟩ := ax_g1 hb hc.2
        refine ax_res1 (st := .int (lg_cmp x y) :: r') h he hl ⟨?_, hr⟩ hw
        unfold lg_cmp
        by_cases k1 : b.2.2 < a.2.1
        · rw [if_pos k1, if_pos (by show y < x; rw [Int64.lt_iff_toInt_lt]; omega)]
          exact ⟨1, rfl, by decide, by decide⟩
        · rw [if_neg k1]
          by_cases k2 : a.2.2 < b.2.1
          · rw [if_pos k2, if_neg (by show ¬ y < x; rw [Int64.lt_iff_toInt_lt]; omega), if_neg (by intro e; rw [e] at g1 g2; omega)]
            exact ⟨-1, rfl, by decide, by decide⟩
          · rw [if_neg k2]
            by_cases k3 : a.2.1 = a.2.2 ∧ b.2.1 = b.2.2
            · have e : x = y := Int64.toInt_inj.mp (by omega)
              rw [if_pos k3, if_neg (by show ¬ y < x; rw [Int64.lt_iff_toInt_lt, e]; omega), if_pos e]
              exact ⟨0, rfl, by decide, by decide⟩
            · rw [if_neg k3]
              split
              · exact ⟨1, rfl, by decide, by decide⟩
              · split
                · exact ⟨0, rfl, by decide, by decide⟩
                · exact ⟨-1, rfl, by decide, by decide⟩
      · rw [if_neg hc] at h; cases h
    · cases h
  case dup =>
    dsimp only [ax_step] at h
    split at h
    · rename_i a r
      obtain ⟨v, r', rfl, ha, hr⟩ := ax_gs1 hs
      by_cases h1 : a.1 = 1
      · rw [if_pos h1] at h; cases h
      · rw [if_neg h1] at h
        have hv : v.category = 1 := by rw [ax_g_cat ha]; unfold ax_cat; rw [if_neg h1]
        dsimp only [sx_step]
        unfold sx_d1
        dsimp only
        rw [if_pos hv]
        exact ax_res1 h he hl ⟨ha, ha, hr⟩ hw
    · cases h
  case pop =>
    dsimp only [ax_step] at h
    split at h
    · rename_i a r
      obtain ⟨v, r', rfl, ha, hr⟩ := ax_gs1 hs
      by_cases h1 : a.1 = 1
      · rw [if_pos h1] at h; cases h
      · rw [if_neg h1] at h
        have hv : v.category = 1 := by rw [ax_g_cat ha]; unfold ax_cat; rw [if_neg h1]
        dsimp only [sx_step]
        unfold sx_p1
        dsimp only
        rw [if_pos hv]
        exact ax_res1 h he hl hr hw
    · cases h
  case dup_x1 =>
    dsimp only [ax_step] at h
    split at h
    · rename_i a b r
      obtain ⟨v, u, r', rfl, ha, hb, hr⟩ := ax_gs2 hs
      by_cases h1 : a.1 = 1 ∨ b.1 = 1
      · rw [if_pos h1] at h; cases h
      · rw [if_neg h1] at h
        have hv : v.category = 1 := by rw [ax_g_cat ha]; unfold ax_cat; rw [if_neg (fun e => h1 (Or.inl e))]
        have hu : u.category = 1 := by rw [ax_g_cat hb]; unfold ax_cat; rw [if_neg (fun e => h1 (Or.inr e))]
        dsimp only [sx_step]
        unfold sx_dx1
        dsimp only
        rw [if_pos ⟨hv, hu⟩]
        exact ax_res1 h he hl ⟨ha, hb, ha, hr⟩ hw
    · cases h
  case dup2 =>
    dsimp only [ax_step] at h
    split at h
    · rename_i a b r
      obtain ⟨v, u, r', rfl, ha, hb, hr⟩ := ax_gs2 hs
      by_cases h1 : a.1 = 1 ∨ b.1 = 1
      · rw [if_pos h1] at h; cases h
      · rw [if_neg h1] at h
        have hv : v.category = 1 := by rw [ax_g_cat ha]; unfold ax_cat; rw [if_neg (fun e => h1 (Or.inl e))]
        have hu : u.category = 1 := by rw [ax_g_cat hb]; unfold ax_cat; rw [if_neg (fun e => h1 (Or.inr e))]
        dsimp only [sx_step]
        unfold sx_d2
        dsimp only
        rw [if_pos ⟨hv, hu⟩]
        exact ax_res1 h he hl ⟨ha, hb, ha, hb, hr⟩ hw
    · cases h
  case ifCond kc off =>
    dsimp only [ax_step] at h
    split at h
    · rename_i a r
      obtain ⟨v, r', rfl, ha, hr⟩ := ax_gs1 hs
      have hI : (ax_iv env a).isSome = true := by
        unfold ax_br at h
        split at h
        · rename_i p q hp hq; rw [hp]; rfl
        · cases h
      obtain ⟨x, rfl⟩ := ax_isI he ha hI
      exact ax_br_ok h he ha ⟨0, rfl, by decide, by decide⟩ hl hr hw
    · cases h
  case if_icmp kc off =>
    dsimp only [ax_step] at h
    split at h
    · rename_i b a r
      obtain ⟨u, v, r', rfl, hb, ha, hr⟩ := ax_gs2 hs
      have hI : (ax_iv env a).isSome = true ∧ (ax_iv env b).isSome = true := by
        unfold ax_br at h
        split at h
        · rename_i p q hp hq; rw [hp, hq]; exact ⟨rfl, rfl⟩
        · cases h
      obtain ⟨x, rfl⟩ := ax_isI he ha hI.1
      obtain ⟨y, rfl⟩ := ax_isI he hb hI.2
      exact ax_br_ok h he ha hb hl hr hw
    · cases h
  case goto off =>
    dsimp only [ax_step] at h
    dsimp only [sx_step]
    unfold sx_jmp
    by_cases h0 : 0 ≤ (pc : Int) + off
    · rw [if_pos h0] at h ⊢
      exact ax_res1 h he hl hs hw
    · rw [if_neg h0] at h; cases h
  case tableswitch d lo hi offs =>
    dsimp only [ax_step] at h
    split at h
    · rename_i a r
      obtain ⟨v, r', rfl, ha, hr⟩ := ax_gs1 hs
      have hI : (ax_iv env a).isSome = true := by
        unfold ax_tsw at h
        split at h
        · rename_i p hp; rw [hp]; rfl
        · cases h
      obtain ⟨x, rfl⟩ := ax_isI he ha hI
      exact ax_tsw_ok h he ha hl hr hw
    · cases h
  case lookupswitch d ps =>
    dsimp only [ax_step] at h
    split at h
    · rename_i a r
      obtain ⟨v, r', rfl, ha, hr⟩ := ax_gs1 hs
      have hI : (ax_iv env a).isSome = true := by
        unfold ax_lsw at h
        split at h
        · rename_i p hp; rw [hp]; rfl
        · cases h
      obtain ⟨x, rfl⟩ := ax_isI he ha hI
      exact ax_lsw_ok h he ha hl hr hw
    · cases h
  case getfield i =>
    dsimp only [ax_step] at h
    split at h
    · rename_i x r
      obtain ⟨v, r', rfl, ha, hr⟩ := ax_gs1 hs
      by_cases h2 : x.1 = 2
      · rw [if_pos h2] at h
        have hv := (ax_tag ha).2.2.2.1 h2
        subst hv
        split at h
        · rename_i t fs hfs
          obtain ⟨⟨ct, cfs⟩, e1, e2, e3⟩ := ax_gw_at hw hfs
          dsimp only at e2 e3
          by_cases hc : t = a ∧ a < 100
          · rw [if_pos hc] at h
            split at h
            · rename_i y hy
              obtain ⟨u, f1, f2⟩ := ax_seg_nth e3 hy
              dsimp only [sx_step]
              unfold sx_getf
              dsimp only
              rw [e1]
              dsimp only
              rw [if_pos ⟨by rw [e2]; exact hc.1, hc.2⟩, f1]
              exact ax_res1 h he hl ⟨f2, hr⟩ hw
            · cases h
          · rw [if_neg hc] at h; cases h
        · cases h
      · rw [if_neg h2] at h; cases h
    · cases h
  case putfield i =>
    dsimp only [ax_step] at h
    split at h
    · rename_i y x r
      obtain ⟨u, v, r', rfl, hy, hx, hr⟩ := ax_gs2 hs
      by_cases h2 : x.1 = 2
      · rw [if_pos h2] at h
        have hv := (ax_tag hx).2.2.2.1 h2
        subst hv
        split at h
        · rename_i t fs hfs
          obtain ⟨⟨ct, cfs⟩, e1, e2, e3⟩ := ax_gw_at hw hfs
          dsimp only at e2 e3
          by_cases hc : t = a ∧ a < 100 ∧ k < ax_len fs ∧ ax_fit env (P.2.2.1 a k) y = true
          · rw [if_pos hc] at h
            have hlen := ax_seg_len e3
            dsimp only [sx_step]
            unfold sx_putf
            dsimp only
            rw [e1]
            dsimp only
            rw [if_pos ⟨by rw [e2]; exact hc.1, hc.2.1, by rw [hlen]; exact hc.2.2.1, ax_fit_ok he hy hc.2.2.2⟩]
            exact ax_res1 h he hl hr (ax_gw_set hw e2 (ax_seg_put e3 (by rw [hlen]; exact hc.2.2.1) hy))
          · rw [if_neg hc] at h; cases h
        · cases h
      · rw [if_neg h2] at h; cases h
    · cases h
  case iaload => exact ax_aget_ok (Or.inl rfl) h he hl hs hw
  case baload => exact ax_aget_ok (Or.inr rfl) h he hl hs hw
  case iastore => exact ax_aput_ok (Or.inl ⟨rfl, rfl⟩) h he hl hs hw
  case bastore => exact ax_aput_ok (Or.inr ⟨rfl, rfl⟩) h he hl hs hw
  case arraylength =>
    dsimp only [ax_step] at h
    split at h
    · rename_i x r
      obtain ⟨v, r', rfl, hx, hr⟩ := ax_gs1 hs
      by_cases h2 : x.1 = 2
      · rw [if_pos h2] at h
        have hv := (ax_tag hx).2.2.2.1 h2
        subst hv
        split at h
        · rename_i t fs hfs
          obtain ⟨⟨ct, cfs⟩, e1, e2, e3⟩ := ax_gw_at hw hfs
          dsimp only at e2 e3
          by_cases hc : (t = 100 ∨ t = 101) ∧ ax_len fs < 2147483648
          · rw [if_pos hc] at h
            have hlen := ax_seg_len e3
            dsimp only [sx_step]
            unfold sx_alen
            dsimp only
            rw [e1]
            dsimp only
            rw [if_pos (by rw [e2]; exact hc.1), hlen]
            exact ax_res1 h he hl ⟨⟨_, rfl, by rw [ax_ofNat hc.2]; exact Int.le_refl _, by rw [ax_ofNat hc.2]; exact Int.le_refl _⟩, hr⟩ hw
          · rw [if_neg hc] at h; cases h
        · cases h
      · rw [if_neg h2] at h
        by_cases h3 : x.1 = 3
        · rw [if_pos h3] at h
          have hv := (ax_tag hx).2.2.2.2 h3
          subst hv
          exact ax_res1 h he hl ⟨by show Value.int _ = .int (ax_var xs 8); rfl, hr⟩ hw
        · rw [if_neg h3] at h; cases h
    · cases h
  case new i =>
    dsimp only [ax_step] at h
    dsimp only [sx_step]
    unfold sx_newc
    split at h
    · rename_i q0 hq0
      by_cases hc : a < 100 ∧ (List.range q0.2.2).all (fun j => ax_nofp (P.2.2.1 a j)) = true
      · rw [if_pos hc] at h
        rw [hq0]
        dsimp only
        rw [if_pos hc.1]
        cases h
        refine ⟨_, rfl, _, List.mem_singleton.mpr rfl, rfl, ⟨he, hl, ⟨?_, hs⟩, ?_⟩, rfl, rfl⟩
        · show Value.ref _ = .ref ((aw.length : Int)).toNat
          rw [ax_gw_len hw]; rfl
        · refine ax_gw_push rfl ?_ hw
          unfold sx_dflt
          rw [List.range_eq_range']
          exact ax_rep_ok _ _ (fun j h1 h2 => ax_dv_ok (List.all_eq_true.mp hc.2 j (List.mem_range.mpr (by omega))))
      · rw [if_neg hc] at h; cases h
    · cases h
  case newarray t =>
    dsimp only [ax_step] at h
    split at h
    · rename_i x r
      obtain ⟨v, r', rfl, hx, hr⟩ := ax_gs1 hs
      by_cases hc : x.1 = 0 ∧ x.2.1 = x.2.2 ∧ 0 ≤ x.2.1 ∧ x.2.1 < 1000000
      · rw [if_pos hc] at h
        obtain ⟨x0, rfl, g1, g2⟩ := ax_iv_ok (p := (x.2.1, x.2.2)) he hx (by unfold ax_iv; rw [hc.1]; rfl)
        dsimp only at g1 g2
        have e : x0.toNatClampNeg = x.2.1.toNat := by show x0.toInt.toNat = _; omega
        dsimp only [sx_step]
        unfold sx_newa
        dsimp only
        rw [if_neg (by
          rintro (h | h)
          · exact ax_nonneg (by omega) h
          · rw [e] at h; omega)]
        cases h
        rw [e]
        refine ⟨_, rfl, _, List.mem_singleton.mpr rfl, rfl, ⟨he, hl, ⟨?_, hr⟩, ?_⟩, rfl, rfl⟩
        · show Value.ref _ = .ref ((aw.length : Int)).toNat
          rw [ax_gw_len hw]; rfl
        · have hsg : ax_seg xs (ax_con x.2.1.toNat (0, 0, 0) []) (List.replicate x.2.1.toNat (Value.int 0)) := by
            refine ax_seg_con (Nat.le_of_eq (List.length_replicate ..).symm) (fun v hv => ?_) ?_
            · have := List.eq_of_mem_replicate (List.mem_of_mem_take hv)
              rw [this]
              exact ⟨0, rfl, by decide, by decide⟩
            · rw [List.drop_eq_nil_of_le (by simp)]
              rfl
          exact ax_gw_push rfl hsg hw
      · rw [if_neg hc] at h; cases h
    · cases h
  case invokespecial i =>
    dsimp only [ax_step] at h
    dsimp only [sx_step]
    by_cases ha : a = 1000
    · rw [if_pos ha] at h ⊢
      split at h
      · rename_i x r
        obtain ⟨v, r', rfl, hx, hr⟩ := ax_gs1 hs
        by_cases hc : x.1 = 2 ∧ ax_csum r ≤ 8
        · rw [if_pos hc] at h
          have hv := (ax_tag hx).2.2.2.1 hc.1
          subst hv
          unfold sx_oini
          dsimp only
          rw [if_pos (by rw [ax_gs_csum hr]; exact hc.2)]
          exact ax_res1 h he hl hr hw
        · rw [if_neg hc] at h; cases h
      · cases h
    · rw [if_neg ha] at h; cases h
  case invokestatic i =>
    dsimp only [ax_step] at h
    dsimp only [sx_step]
    by_cases h1 : a = 1001
    · rw [if_pos h1] at h ⊢
      exact ax_copy_ok h he hl hs hw
    · rw [if_neg h1] at h ⊢
      by_cases h2 : a = 1002
      · rw [if_pos h2] at h ⊢
        exact ax_mm_ok (Or.inl ⟨rfl, rfl⟩) h he hl hs hw
      · rw [if_neg h2] at h ⊢
        by_cases h3 : a = 1003
        · rw [if_pos h3] at h ⊢
          exact ax_mm_ok (Or.inr ⟨rfl, rfl⟩) h he hl hs hw
        · rw [if_neg h3] at h; cases h
  all_goals (cases h)
end AXU
