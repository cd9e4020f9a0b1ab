/-! one theorem for a step -/
section SXS
variable {p : Program} {l : Launch} {e : Env} {R : Room} {s : State} {m : MethodId} {args : Array Value} {below : List Frame} {meth : Method} {c : Code} {Q : State → Prop}
variable {P : sx_P} {D : va_G} {cA : Nat → ClassId} {N0 b nL : Nat} {xs : List Int32} {own : String} {cc : ByteArray}
theorem sx_ifc_G (hF : sx_Fx P D cA N0 b nL xs own cc p R s m args c) {pc tgt : Nat} {off : Int} {k : ClassFile.Cond} {x : Int32} {lv : sx_L} {rest : List Value} {w : sx_W} {cells slots : Nat} (hd : decode cc pc = .ok (.ifCond k off, 3)) (ht : (pc : Int) + off = (tgt : Int))
    (kk : sx_G p l e R s m args below meth c Q P D cA N0 b nL cells slots w (if sx_cond k x 0 then tgt else pc + 3) lv rest) : sx_G p l e R s m args below meth c Q P D cA N0 b nL cells slots w pc lv (.int x :: rest) := by
  intro H locs ls hH hS hl
  have k1 := kk H locs ls hH hS hl
  have kt : sx_cond k x 0 = true → W p l e R s m args below meth c H locs cells slots Q (F0 m tgt ls (sx_st N0 b rest)) := fun h => by have k2 := k1; rw [h] at k2; exact k2
  have kf : sx_cond k x 0 = false → W p l e R s m args below meth c H locs cells slots Q (F0 m (pc + 3) ls (sx_st N0 b rest)) := fun h => by have k2 := k1; rw [h] at k2; exact k2
  cases k
  · exact lv_if_eq hF.1 hF.2.1 hd ht (fun h => kt (by simp [sx_cond, h])) (fun h => kf (by simp [sx_cond, h]))
  · exact lv_if_ne hF.1 hF.2.1 hd ht (fun h => kt (by simp [sx_cond, h])) (fun h => kf (by simp [sx_cond, h]))
  · exact lv_if_lt hF.1 hF.2.1 hd ht (fun h => kt (by simp [sx_cond, h])) (fun h => kf (by simp [sx_cond, h]))
  · exact lv_if_ge hF.1 hF.2.1 hd ht (fun h => kt (by simp [sx_cond, h])) (fun h => kf (by simp [sx_cond, h]))
  · exact lv_if_gt hF.1 hF.2.1 hd ht (fun h => kt (by simp [sx_cond, h])) (fun h => kf (by simp [sx_cond, h]))
  · exact lv_if_le hF.1 hF.2.1 hd ht (fun h => kt (by simp [sx_cond, h])) (fun h => kf (by simp [sx_cond, h]))
theorem sx_icm_G (hF : sx_Fx P D cA N0 b nL xs own cc p R s m args c) {pc tgt : Nat} {off : Int} {k : ClassFile.Cond} {x y : Int32} {lv : sx_L} {rest : List Value} {w : sx_W} {cells slots : Nat} (hd : decode cc pc = .ok (.if_icmp k off, 3)) (ht : (pc : Int) + off = (tgt : Int))
    (kk : sx_G p l e R s m args below meth c Q P D cA N0 b nL cells slots w (if sx_cond k x y then tgt else pc + 3) lv rest) : sx_G p l e R s m args below meth c Q P D cA N0 b nL cells slots w pc lv (.int y :: .int x :: rest) := by
  intro H locs ls hH hS hl
  have k1 := kk H locs ls hH hS hl
  have kt : sx_cond k x y = true → W p l e R s m args below meth c H locs cells slots Q (F0 m tgt ls (sx_st N0 b rest)) := fun h => by have k2 := k1; rw [h] at k2; exact k2
  have kf : sx_cond k x y = false → W p l e R s m args below meth c H locs cells slots Q (F0 m (pc + 3) ls (sx_st N0 b rest)) := fun h => by have k2 := k1; rw [h] at k2; exact k2
  cases k
  · exact lv_icmp_eq hF.1 hF.2.1 hd ht (fun h => kt (by simp [sx_cond, h])) (fun h => kf (by simp [sx_cond, h]))
  · exact lv_icmp_ne hF.1 hF.2.1 hd ht (fun h => kt (by simp [sx_cond, h])) (fun h => kf (by simp [sx_cond, h]))
  · exact lv_icmp_lt hF.1 hF.2.1 hd ht (fun h => kt (by simp [sx_cond, h])) (fun h => kf (by simp [sx_cond, h]))
  · exact lv_icmp_ge hF.1 hF.2.1 hd ht (fun h => kt (by simp [sx_cond, h])) (fun h => kf (by simp [sx_cond, h]))
  · exact lv_icmp_gt hF.1 hF.2.1 hd ht (fun h => kt (by simp [sx_cond, h])) (fun h => kf (by simp [sx_cond, h]))
  · exact lv_icmp_le hF.1 hF.2.1 hd ht (fun h => kt (by simp [sx_cond, h])) (fun h => kf (by simp [sx_cond, h]))
theorem sx_cat_sh {v : Value} (h : v.category = 1) : (sx_sh N0 b v).category = 1 := by rw [sx_sh_cat]; exact h
theorem sx_lvk {lv : sx_L} {i : Nat} {v : Value} (h : sx_get lv i = some v) : ∃ k : Nat, (sx_lv N0 b lv)[k]? = some (i, sx_sh N0 b v) :=
  List.getElem?_of_mem (List.mem_map.mpr ⟨(i, v), sx_lv_mem (N0 := N0) (b := b) h, rfl⟩)
theorem sx_step_G (hF : sx_Fx P D cA N0 b nL xs own cc p R s m args c) (hO : sx_kindOk P) {ini : Bool} (hini : ini = true → meth.name = "<init>") {E : sx_E} (hdec : sx_dec cc E = true) (hp : sx_pool P own ini E = true) {lv : sx_L} {st : List Value} {w : sx_W} {r : sx_R} {cells slots : Nat}
    (hs : sx_step P xs nL E lv st w = some r) (hc : cells + r.2.2.2.2.1 ≤ R.cells) (hsl : slots + r.2.2.2.2.2 ≤ R.slots) (kk : sx_G p l e R s m args below meth c Q P D cA N0 b nL (cells + r.2.2.2.2.1) (slots + r.2.2.2.2.2) r.2.2.2.1 r.1 r.2.1 r.2.2.1) : sx_G p l e R s m args below meth c Q P D cA N0 b nL cells slots w E.1 lv st := by
  obtain ⟨pc, I, len, a, k, q, z⟩ := E
  unfold sx_dec at hdec
  rw [Bool.and_eq_true, decide_eq_true_eq, Bool.or_eq_true, decide_eq_true_eq] at hdec
  obtain ⟨hd, hlen⟩ := hdec
  have hx := hF.1
  have hb := hF.2.1
  dsimp only at hd hlen
  show sx_G p l e R s m args below meth c Q P D cA N0 b nL cells slots w pc lv st
  have hL : sx_isSw I = false → decode cc pc = .ok (I, sx_len I) := fun h => by
    rcases hlen with h1 | h1
    · rw [h] at h1; cases h1
    · rw [h1]; exact hd
  cases I
  case iconst n => cases hs; exact sx_pure kk (fun H locs ls hl k1 => lv_iconst hx hb (hL rfl) rfl k1)
  case bipush n => cases hs; exact sx_pure kk (fun H locs ls hl k1 => lv_bipush hx hb (hL rfl) rfl k1)
  case sipush n => cases hs; exact sx_pure kk (fun H locs ls hl k1 => lv_sipush hx hb (hL rfl) rfl k1)
  case lconst n => cases hs; exact sx_pure kk (fun H locs ls hl k1 => lv_lconst hx hb (hL rfl) rfl k1)
  case ldc i => cases hs; exact sx_pure kk (fun H locs ls hl k1 => lv_ldc hx hb hF.2.2.2.1 (sx_wd_at hF hp) (hL rfl) k1)
  case ldc_w i => cases hs; exact sx_pure kk (fun H locs ls hl k1 => lv_ldcw hx hb hF.2.2.2.1 (sx_wd_at hF hp) (hL rfl) k1)
  case ldc2_w i => cases hs; exact sx_pure kk (fun H locs ls hl k1 => lv_ldc2 hx hb hF.2.2.2.1 (sx_wd_at hF hp) (hL rfl) k1)
  case iload_n i =>
    obtain ⟨x, h1, rfl⟩ := sx_ild_inv hs
    exact sx_pure kk (fun H locs ls hl k1 => lv_iload_n hx hb (hL rfl) rfl (sx_lv_at hl h1) k1)
  case iload i =>
    obtain ⟨x, h1, rfl⟩ := sx_ild_inv hs
    exact sx_pure kk (fun H locs ls hl k1 => lv_iload hx hb (hL rfl) (sx_lv_at hl h1) k1)
  case lload_n i =>
    obtain ⟨x, h1, rfl⟩ := sx_lld_inv hs
    exact sx_pure kk (fun H locs ls hl k1 => lv_lload_n hx hb (hL rfl) rfl (sx_lv_at hl h1) k1)
  case lload i =>
    obtain ⟨x, h1, rfl⟩ := sx_lld_inv hs
    exact sx_pure kk (fun H locs ls hl k1 => lv_lload hx hb (hL rfl) (sx_lv_at hl h1) k1)
  case aload_n i =>
    obtain ⟨v, a0, h1, h2, rfl⟩ := sx_ald_inv N0 b hs
    exact sx_pure kk (fun H locs ls hl k1 => lv_aload_n (x := a0) hx hb (hL rfl) rfl (by rw [← h2]; exact sx_lv_at hl h1) (by rw [← h2]; exact k1))
  case aload i =>
    obtain ⟨v, a0, h1, h2, rfl⟩ := sx_ald_inv N0 b hs
    exact sx_pure kk (fun H locs ls hl k1 => lv_aload (x := a0) hx hb (hL rfl) (by rw [← h2]; exact sx_lv_at hl h1) (by rw [← h2]; exact k1))
  case istore_n i =>
    obtain ⟨x, rest, rfl, hi, rfl⟩ := sx_ist_inv hs
    exact fun H locs ls hH hS hl => lv_istore_n hx hb (hL rfl) rfl hl hi (sx_set_sh N0 b lv (i : Nat) (.int x)) (fun ls' hl' => kk H locs ls' hH hS hl')
  case istore i =>
    obtain ⟨x, rest, rfl, hi, rfl⟩ := sx_ist_inv hs
    exact fun H locs ls hH hS hl => lv_istore hx hb (hL rfl) hl hi (sx_set_sh N0 b lv i (.int x)) (fun ls' hl' => kk H locs ls' hH hS hl')
  case lstore_n i =>
    obtain ⟨x, rest, rfl, hi, rfl⟩ := sx_lst_inv hs
    exact fun H locs ls hH hS hl => lv_lstore_n hx hb (hL rfl) rfl hl hi (sx_set2_sh N0 b lv (i : Nat) (.long x)) (fun ls' hl' => kk H locs ls' hH hS hl')
  case lstore i =>
    obtain ⟨x, rest, rfl, hi, rfl⟩ := sx_lst_inv hs
    exact fun H locs ls hH hS hl => lv_lstore hx hb (hL rfl) hl hi (sx_set2_sh N0 b lv i (.long x)) (fun ls' hl' => kk H locs ls' hH hS hl')
  case astore_n i =>
    obtain ⟨x, rest, rfl, hi, rfl⟩ := sx_ast_inv hs
    exact fun H locs ls hH hS hl => lv_astore_n hx hb (hL rfl) rfl hl hi (sx_set_sh N0 b lv (i : Nat) (.ref x)) (fun ls' hl' => kk H locs ls' hH hS hl')
  case astore i =>
    obtain ⟨x, rest, rfl, hi, rfl⟩ := sx_ast_inv hs
    exact fun H locs ls hH hS hl => lv_astore hx hb (hL rfl) hl hi (sx_set_sh N0 b lv i (.ref x)) (fun ls' hl' => kk H locs ls' hH hS hl')
  case iinc i n =>
    obtain ⟨x, h1, hi, rfl⟩ := sx_iinc_inv hs
    obtain ⟨k0, hk0⟩ := sx_lvk (N0 := N0) (b := b) h1
    exact fun H locs ls hH hS hl => lv_iinc hx hb (hL rfl) hl hk0 rfl hi (sx_set_sh N0 b lv i (.int (x + Int32.ofInt n))) (fun ls' hl' => kk H locs ls' hH hS hl')
  case iadd =>
    obtain ⟨x, y, z, rest, rfl, hz, rfl⟩ := sx_b2_inv hs
    cases hz
    exact sx_pure kk (fun H locs ls hl k1 => lv_iadd hx hb (hL rfl) k1)
  case isub =>
    obtain ⟨x, y, z, rest, rfl, hz, rfl⟩ := sx_b2_inv hs
    cases hz
    exact sx_pure kk (fun H locs ls hl k1 => lv_isub hx hb (hL rfl) k1)
  case imul =>
    obtain ⟨x, y, z, rest, rfl, hz, rfl⟩ := sx_b2_inv hs
    cases hz
    exact sx_pure kk (fun H locs ls hl k1 => lv_imul hx hb (hL rfl) k1)
  case iand =>
    obtain ⟨x, y, z, rest, rfl, hz, rfl⟩ := sx_b2_inv hs
    cases hz
    exact sx_pure kk (fun H locs ls hl k1 => lv_iand hx hb (hL rfl) k1)
  case ior =>
    obtain ⟨x, y, z, rest, rfl, hz, rfl⟩ := sx_b2_inv hs
    cases hz
    exact sx_pure kk (fun H locs ls hl k1 => lv_ior hx hb (hL rfl) k1)
  case ixor =>
    obtain ⟨x, y, z, rest, rfl, hz, rfl⟩ := sx_b2_inv hs
    cases hz
    exact sx_pure kk (fun H locs ls hl k1 => lv_ixor hx hb (hL rfl) k1)
  case idiv =>
    obtain ⟨x, y, z, rest, rfl, hz, rfl⟩ := sx_b2_inv hs
    by_cases hy : y = 0
    · rw [if_pos hy] at hz; cases hz
    · rw [if_neg hy] at hz
      cases hz
      exact sx_pure kk (fun H locs ls hl k1 => lv_idiv hx hb (hL rfl) hy k1)
  case irem =>
    obtain ⟨x, y, z, rest, rfl, hz, rfl⟩ := sx_b2_inv hs
    by_cases hy : y = 0
    · rw [if_pos hy] at hz; cases hz
    · rw [if_neg hy] at hz
      cases hz
      exact sx_pure kk (fun H locs ls hl k1 => lv_irem hx hb (hL rfl) hy k1)
  case ishl =>
    obtain ⟨x, y, z, rest, rfl, hz, rfl⟩ := sx_b2_inv hs
    cases hz
    exact sx_pure kk (fun H locs ls hl k1 => lv_ishl hx hb (hL rfl) k1)
  case ishr =>
    obtain ⟨x, y, z, rest, rfl, hz, rfl⟩ := sx_b2_inv hs
    cases hz
    exact sx_pure kk (fun H locs ls hl k1 => lv_ishr hx hb (hL rfl) k1)
  case iushr =>
    obtain ⟨x, y, z, rest, rfl, hz, rfl⟩ := sx_b2_inv hs
    cases hz
    exact sx_pure kk (fun H locs ls hl k1 => lv_iushr hx hb (hL rfl) rfl k1)
  case ineg =>
    obtain ⟨x, rest, rfl, rfl⟩ := sx_u1_inv hs
    exact sx_pure kk (fun H locs ls hl k1 => lv_ineg hx hb (hL rfl) k1)
  case i2l =>
    obtain ⟨x, rest, rfl, rfl⟩ := sx_u1_inv hs
    exact sx_pure kk (fun H locs ls hl k1 => lv_i2l hx hb (hL rfl) rfl k1)
  case i2b =>
    obtain ⟨x, rest, rfl, rfl⟩ := sx_u1_inv hs
    exact sx_pure kk (fun H locs ls hl k1 => lv_i2b hx hb (hL rfl) rfl k1)
  case l2i =>
    obtain ⟨x, rest, rfl, rfl⟩ := sx_u2_inv hs
    exact sx_pure kk (fun H locs ls hl k1 => lv_l2i hx hb (hL rfl) rfl k1)
  case ladd =>
    obtain ⟨x, y, rest, rfl, rfl⟩ := sx_l2_inv hs
    exact sx_pure kk (fun H locs ls hl k1 => lv_ladd hx hb (hL rfl) k1)
  case lsub =>
    obtain ⟨x, y, rest, rfl, rfl⟩ := sx_l2_inv hs
    exact sx_pure kk (fun H locs ls hl k1 => lv_lsub hx hb (hL rfl) k1)
  case lmul =>
    obtain ⟨x, y, rest, rfl, rfl⟩ := sx_l2_inv hs
    exact sx_pure kk (fun H locs ls hl k1 => lv_lmul hx hb (hL rfl) k1)
  case land =>
    obtain ⟨x, y, rest, rfl, rfl⟩ := sx_l2_inv hs
    exact sx_pure kk (fun H locs ls hl k1 => lv_land hx hb (hL rfl) k1)
  case lor =>
    obtain ⟨x, y, rest, rfl, rfl⟩ := sx_l2_inv hs
    exact sx_pure kk (fun H locs ls hl k1 => lv_lor hx hb (hL rfl) k1)
  case lxor =>
    obtain ⟨x, y, rest, rfl, rfl⟩ := sx_l2_inv hs
    exact sx_pure kk (fun H locs ls hl k1 => lv_lxor hx hb (hL rfl) k1)
  case lshl =>
    obtain ⟨x, y, rest, rfl, rfl⟩ := sx_ls_inv hs
    exact sx_pure kk (fun H locs ls hl k1 => lv_lshl hx hb (hL rfl) rfl k1)
  case lushr =>
    obtain ⟨x, y, rest, rfl, rfl⟩ := sx_ls_inv hs
    exact sx_pure kk (fun H locs ls hl k1 => lv_lushr hx hb (hL rfl) rfl k1)
  case lcmp =>
    dsimp only [sx_step] at hs
    split at hs
    · rename_i y x rest
      cases hs
      exact sx_pure kk (fun H locs ls hl k1 => W.lcmp hx hb (hL rfl) k1)
    · cases hs
  case dup =>
    dsimp only [sx_step] at hs
    unfold sx_d1 at hs
    split at hs
    · rename_i v rest
      by_cases hv : v.category = 1
      · rw [if_pos hv] at hs; cases hs
        exact sx_pure kk (fun H locs ls hl k1 => lv_dup hx hb (hL rfl) (sx_cat_sh hv) k1)
      · rw [if_neg hv] at hs; cases hs
    · cases hs
  case pop =>
    dsimp only [sx_step] at hs
    unfold sx_p1 at hs
    split at hs
    · rename_i v rest
      by_cases hv : v.category = 1
      · rw [if_pos hv] at hs; cases hs
        exact sx_pure kk (fun H locs ls hl k1 => lv_pop hx hb (hL rfl) (sx_cat_sh hv) k1)
      · rw [if_neg hv] at hs; cases hs
    · cases hs
  case pop2 =>
    dsimp only [sx_step] at hs
    unfold sx_p2 at hs
    split at hs
    · rename_i v rest
      by_cases hv : v.category = 2
      · rw [if_pos hv] at hs; cases hs
        exact sx_pure kk (fun H locs ls hl k1 => lv_pop2_2 hx hb (hL rfl) (by rw [sx_sh_cat]; exact hv) k1)
      · rw [if_neg hv] at hs; cases hs
    · cases hs
  case dup_x1 =>
    dsimp only [sx_step] at hs
    unfold sx_dx1 at hs
    split at hs
    · rename_i v u rest
      by_cases hv : v.category = 1 ∧ u.category = 1
      · rw [if_pos hv] at hs; cases hs
        exact sx_pure kk (fun H locs ls hl k1 => lv_dup_x1 hx hb (hL rfl) (sx_cat_sh hv.1) (sx_cat_sh hv.2) k1)
      · rw [if_neg hv] at hs; cases hs
    · cases hs
  case dup2 =>
    dsimp only [sx_step] at hs
    unfold sx_d2 at hs
    split at hs
    · rename_i v u rest
      by_cases hv : v.category = 1 ∧ u.category = 1
      · rw [if_pos hv] at hs; cases hs
        exact sx_pure kk (fun H locs ls hl k1 => lv_dup2_11 hx hb (hL rfl) (sx_cat_sh hv.1) (sx_cat_sh hv.2) k1)
      · rw [if_neg hv] at hs; cases hs
    · cases hs
  case ifCond kc off =>
    dsimp only [sx_step] at hs
    split at hs
    · rename_i x rest
      obtain ⟨tgt, ht, rfl⟩ := sx_jmp_inv hs
      exact sx_ifc_G hF (hL rfl) ht kk
    · cases hs
  case if_icmp kc off =>
    dsimp only [sx_step] at hs
    split at hs
    · rename_i y x rest
      obtain ⟨tgt, ht, rfl⟩ := sx_jmp_inv hs
      exact sx_icm_G hF (hL rfl) ht kk
    · cases hs
  case goto off =>
    obtain ⟨tgt, ht, rfl⟩ := sx_jmp_inv hs
    exact sx_pure kk (fun H locs ls hl k1 => lv_goto hx hb (hL rfl) ht k1)
  case tableswitch d lo hi offs =>
    dsimp only [sx_step] at hs
    unfold sx_tsw at hs
    split at hs
    · rename_i x rest
      by_cases ho : x.toInt < lo ∨ hi < x.toInt
      · rw [if_pos ho] at hs
        obtain ⟨tgt, ht, rfl⟩ := sx_jmp_inv hs
        exact sx_pure kk (fun H locs ls hl k1 => lv_tableOut hx hb hd ho ht k1)
      · rw [if_neg ho] at hs
        split at hs
        · rename_i off hoff
          obtain ⟨tgt, ht, rfl⟩ := sx_jmp_inv hs
          exact sx_pure kk (fun H locs ls hl k1 => lv_tableIn hx hb hd (fun q => ho (Or.inl q)) (fun q => ho (Or.inr q)) hoff ht k1)
        · cases hs
    · cases hs
  case lookupswitch d ps =>
    dsimp only [sx_step] at hs
    unfold sx_lsw at hs
    split at hs
    · rename_i x rest
      split at hs
      · rename_i hp0
        obtain ⟨tgt, ht, rfl⟩ := sx_jmp_inv hs
        exact sx_pure kk (fun H locs ls hl k1 => lv_lookup hx hb hd hp0 rfl ht k1)
      · cases hs
    · cases hs
  case getfield i => exact sx_getf_G (i := i) (q := q) (z := z) hF hO (hL rfl) hp hs kk
  case putfield i => exact sx_putf_G (i := i) (q := q) (z := z) hF hO hini (hL rfl) hp hs kk
  case iaload => exact sx_aget_G (t := 0) hF (Or.inl ⟨rfl, rfl⟩) (hL rfl) hs kk
  case baload => exact sx_aget_G (t := 1) hF (Or.inr ⟨rfl, rfl⟩) (hL rfl) hs kk
  case iastore => exact sx_aput_G (t := 0) hF (Or.inl ⟨rfl, rfl, rfl⟩) (hL rfl) hs kk
  case bastore => exact sx_aput_G (t := 1) hF (Or.inr ⟨rfl, rfl, rfl⟩) (hL rfl) hs kk
  case arraylength => exact sx_alen_G hF (hL rfl) hs kk
  case new i => exact sx_newc_G (i := i) (k := k) (q := q) (z := z) hF hO (hL rfl) hp hs hc hsl kk
  case newarray t => exact sx_newa_G (k := k) (q := q) (z := z) hF (hL rfl) hp hs hc hsl kk
  case invokespecial i =>
    dsimp only [sx_step] at hs
    split at hs
    · exact sx_oini_G (i := i) (a := a) (k := k) (q := q) (z := z) hF (hL rfl) hp hs kk
    · cases hs
  case invokestatic i =>
    dsimp only [sx_step] at hs
    split at hs
    · rename_i ha
      subst ha
      exact sx_copy_G (i := i) (k := k) (q := q) (z := z) hF (hL rfl) hp hs kk
    · split at hs
      · rename_i ha
        exact sx_mm_G (i := i) (k := k) (q := q) (z := z) hF (Or.inl ⟨ha, rfl⟩) (hL rfl) hp hs hc hsl kk
      · split at hs
        · rename_i ha
          exact sx_mm_G (i := i) (k := k) (q := q) (z := z) hF (Or.inr ⟨ha, rfl⟩) (hL rfl) hp hs hc hsl kk
        · cases hs
  all_goals (cases hs)
end SXS
