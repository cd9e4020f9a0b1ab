/-! steps that make cells, copy rows, and what stands behind them: one theorem of a step -/
theorem sx_vpV_dflt {P : sx_P} {ci N : Nat} (N0 b : Nat) {j : Nat} (hj : j < N) : defaultValue (P.2.2.1 ci j) = vp_V ((sx_dflt P ci N).map (sx_sh N0 b)) j := by
  unfold vp_V sx_dflt
  rw [List.map_map, List.getD_eq_getElem?_getD, List.getElem?_map, List.getElem?_range hj]
  show _ = sx_sh N0 b (defaultValue (P.2.2.1 ci j))
  rw [sx_dflt_sh]
theorem sx_nn (z : Int32) (hz : ¬ z < 0) : z.toInt = (z.toNatClampNeg : Int) := by
  have hz0 : (0 : Int) ≤ z.toInt := by
    have := Int32.not_lt.mp hz
    simpa using Int32.le_iff_toInt_le.mp this
  show z.toInt = ((z.toInt.toNat : Nat) : Int)
  omega
/-- a row with a part of another one laid over it -/
theorem sx_cpy {f g : List Value} {sp dp n j : Nat} (h4 : sp + n ≤ f.length) (h5 : dp + n ≤ g.length) : (g.take dp ++ ((f.drop sp).take n ++ g.drop (dp + n)))[j]? = if dp ≤ j ∧ j < dp + n then f[sp + (j - dp)]? else g[j]? := by
  have l1 : (g.take dp).length = dp := by rw [List.length_take]; omega
  have l2 : ((f.drop sp).take n).length = n := by rw [List.length_take, List.length_drop]; omega
  by_cases h1 : j < dp
  · rw [List.getElem?_append_left (by omega), if_neg (by omega), List.getElem?_take_of_lt h1]
  · rw [List.getElem?_append_right (by omega), l1]
    by_cases h2 : j < dp + n
    · rw [if_pos ⟨by omega, h2⟩, List.getElem?_append_left (by omega), List.getElem?_take_of_lt (by omega), List.getElem?_drop]
    · rw [if_neg (by omega), List.getElem?_append_right (by omega), l2, List.getElem?_drop]
      congr 1
      omega
section SXM
variable {p : Program} {l : Launch} {e : Env} {R : Room} {s : State} {m : MethodId} {args : Array Value} {below : List Frame} {meth : Method} {c : Code} {Q : State → Prop}
variable {P : sx_P} {D : va_G} {cA : Nat → ClassId} {N0 b nL : Nat} {xs : List Int32} {own : String} {cc : ByteArray}
theorem sx_newc_G (hF : sx_Fx P D cA N0 b nL xs own cc p R s m args c) (hO : sx_kindOk P) {pc i ci k q : Nat} {z : Int} {lv : sx_L} {st : List Value} {w : sx_W} {r : sx_R} {cells slots : Nat} (hd : decode cc pc = .ok (.new i, 3)) (hp : sx_pool P own false (pc, .new i, 3, ci, k, q, z) = true)
    (hs : sx_newc P pc lv st w ci = some r) (hc : cells + r.2.2.2.2.1 ≤ R.cells) (hsl : slots + r.2.2.2.2.2 ≤ R.slots) (kk : sx_G p l e R s m args below meth c Q P D cA N0 b nL (cells + r.2.2.2.2.1) (slots + r.2.2.2.2.2) r.2.2.2.1 r.1 r.2.1 r.2.2.1) : sx_G p l e R s m args below meth c Q P D cA N0 b nL cells slots w pc lv st := by
  unfold sx_newc at hs
  simp only [sx_pool] at hp
  split at hs
  · rename_i q0 hcl
    obtain ⟨C, T, N⟩ := q0
    by_cases hci : ci < 100
    · rw [if_pos hci] at hs
      cases hs
      rw [hcl] at hp
      simp only [Bool.and_eq_true] at hp
      obtain ⟨⟨hlink, hins⟩, hini⟩ := hp
      obtain ⟨h1, h2, h3⟩ := hO ci _ hcl
      have hKn := hF.2.2.2.2.2.1.1.1 ci _ hcl
      have hts : ∀ w ∈ u_ws C T N, w.before args s = true := fun w hw => by
        obtain ⟨j, hj, rfl⟩ := List.mem_map.mp hw
        exact hF.2.2.2.2.1 _ (h1 j (List.mem_range.mp hj)).1 (h1 j (List.mem_range.mp hj)).2
      intro H locs ls hH hS hl
      refine W.newcK hF.1 hF.2.1 hF.2.2.2.1 (sx_wd_at hF hlink) (sx_wd_at hF hins) (sx_wd_at hF hini) rfl hd hc hsl hKn.2.1 hH.1 fun H1 kC hkC e1 z1 o1 => ?_
      refine kk H1 locs ls (hH.push (by rw [z1, hH.1]) ?_ (fun q hq => o1 q (by rw [← hH.1]; exact hq))) ⟨Nat.le_trans hS.1 (by rw [z1, hH.1]; omega), fun x g1 g2 => (o1 x (by rw [← hH.1]; exact Nat.lt_of_lt_of_le g1 hS.1)).trans (hS.2.1 x g1 g2), hS.2.2⟩ hl
      unfold sx_e
      rw [if_pos hci]
      exact ⟨_, hcl, (u_born (P.2.2.1 ci) hts (fun _ h => h) hKn hkC e1 h2).to (fun j hj => sx_vpV_dflt N0 b hj)⟩
    · rw [if_neg hci] at hs; cases hs
  · cases hs
theorem sx_newa_at (hF : sx_Fx P D cA N0 b nL xs own cc p R s m args c) {pc t : Nat} {at0 : ArrayType} {ty : FieldType} (hty : newarray.typeOf at0 = ty) (hpr : defaultValue ty = .int 0) (hcb : componentBytes ty ≤ 4) (hRA : ∀ cX, s.vm.findClass ("[" ++ ty.toString) = some cX → cX = cA t) {n : Int32} {rest : List Value} {lv : sx_L} {w : sx_W} {cells slots : Nat} (hd : decode cc pc = .ok (.newarray at0, 2)) (hwd : (Cond.arrayClass ty).before args s = true) (h0 : ¬ (n < 0 ∨ 1000000 ≤ n.toNatClampNeg))
    (hc : cells + 1 ≤ R.cells) (hsl : slots + n.toNatClampNeg ≤ R.slots) (kk : sx_G p l e R s m args below meth c Q P D cA N0 b nL (cells + 1) (slots + n.toNatClampNeg) (w ++ [(100 + t, List.replicate n.toNatClampNeg (.int 0))]) (pc + 2) lv (.ref w.length :: rest)) : sx_G p l e R s m args below meth c Q P D cA N0 b nL cells slots w pc lv (.int n :: rest) := by
  subst hty
  intro H locs ls hH hS hl
  have hbytes : n.toNatClampNeg * componentBytes (newarray.typeOf at0) ≤ 536870912 := by
    have h1 : n.toNatClampNeg < 1000000 := Nat.not_le.mp fun q => h0 (Or.inr q)
    exact Nat.le_trans (Nat.mul_le_mul (Nat.le_of_lt h1) hcb) (by decide)
  refine va_newaK hF.1 hF.2.1 hwd rfl hd rfl (fun q => h0 (Or.inl q)) rfl hbytes hc hsl hH.1 fun H1 cX e1 z1 o1 hAr hNm => ?_
  refine kk H1 locs ls (hH.push (by rw [z1, hH.1]) ?_ (fun q hq => o1 q (by rw [← hH.1]; exact hq))) ⟨Nat.le_trans hS.1 (by rw [z1, hH.1]; omega), fun x g1 g2 => (o1 x (by rw [← hH.1]; exact Nat.lt_of_lt_of_le g1 hS.1)).trans (hS.2.1 x g1 g2), hS.2.2⟩ hl
  unfold sx_e
  rw [if_neg (by show ¬ 100 + t < 100; omega)]
  show H1[N0 + w.length]? = some (vp_cell (cA (100 + t - 100)) (sx_arr (List.replicate n.toNatClampNeg (.int 0))))
  rw [e1, show 100 + t - 100 = t by omega, hRA cX hNm, hpr]
  show some (arrV _ _ _) = some (arrV (cA t) (List.replicate n.toNatClampNeg (Value.int 0)).length (fun q => .int (sx_toI ((List.replicate n.toNatClampNeg (Value.int 0)).getD q .null))))
  rw [List.length_replicate]
  congr 1
  apply sx_arrV_ext
  intro q hq
  rw [List.getD_eq_getElem?_getD, List.getElem?_replicate, if_pos hq]
  rfl
theorem sx_newa_G (hF : sx_Fx P D cA N0 b nL xs own cc p R s m args c) {pc a k q : Nat} {z : Int} {at0 : ArrayType} {lv : sx_L} {st : List Value} {w : sx_W} {r : sx_R} {cells slots : Nat} (hd : decode cc pc = .ok (.newarray at0, 2)) (hp : sx_pool P own false (pc, .newarray at0, 2, a, k, q, z) = true)
    (hs : sx_newa pc lv st w a = some r) (hc : cells + r.2.2.2.2.1 ≤ R.cells) (hsl : slots + r.2.2.2.2.2 ≤ R.slots) (kk : sx_G p l e R s m args below meth c Q P D cA N0 b nL (cells + r.2.2.2.2.1) (slots + r.2.2.2.2.2) r.2.2.2.1 r.1 r.2.1 r.2.2.1) : sx_G p l e R s m args below meth c Q P D cA N0 b nL cells slots w pc lv st := by
  unfold sx_newa at hs
  split at hs
  · rename_i n rest
    by_cases h0 : n < 0 ∨ 1000000 ≤ n.toNatClampNeg
    · rw [if_pos h0] at hs; cases hs
    · rw [if_neg h0] at hs
      cases hs
      have hK := hF.2.2.2.2.2.1.1
      simp only [sx_pool, Bool.or_eq_true, Bool.and_eq_true, decide_eq_true_eq] at hp
      rcases hp with ⟨⟨rfl, rfl⟩, hw⟩ | ⟨⟨rfl, rfl⟩, hw⟩
      · exact sx_newa_at (t := 0) (ty := .int) hF rfl rfl (by decide) (fun cX h => Option.some.inj (h.symm.trans (hK.2 0 _ rfl).2)) hd (sx_wd_at hF hw) h0 hc hsl kk
      · exact sx_newa_at (t := 1) (ty := .byte) hF rfl rfl (by decide) (fun cX h => Option.some.inj (h.symm.trans (hK.2 1 _ rfl).2)) hd (sx_wd_at hF hw) h0 hc hsl kk
  · cases hs
theorem sx_csum_sh (st : List Value) : ((sx_st N0 b st).map fun v => v.category).sum = sx_csum st := by
  unfold sx_csum sx_st
  rw [List.map_map]
  congr 1
  apply List.map_congr_left
  intro v _
  exact sx_sh_cat N0 b v
theorem sx_oini_G (hF : sx_Fx P D cA N0 b nL xs own cc p R s m args c) {pc i a k q : Nat} {z : Int} {lv : sx_L} {st : List Value} {w : sx_W} {r : sx_R} {cells slots : Nat} (hd : decode cc pc = .ok (.invokespecial i, 3)) (hp : sx_pool P own false (pc, .invokespecial i, 3, a, k, q, z) = true)
    (hs : sx_oini pc lv st w = some r) (kk : sx_G p l e R s m args below meth c Q P D cA N0 b nL (cells + r.2.2.2.2.1) (slots + r.2.2.2.2.2) r.2.2.2.1 r.1 r.2.1 r.2.2.1) : sx_G p l e R s m args below meth c Q P D cA N0 b nL cells slots w pc lv st := by
  unfold sx_oini at hs
  split at hs
  · rename_i a0 rest
    by_cases h0 : sx_csum rest ≤ 8
    · rw [if_pos h0] at hs
      cases hs
      simp only [sx_pool, Bool.and_eq_true, decide_eq_true_eq] at hp
      obtain ⟨⟨⟨-, h1⟩, h2⟩, h3⟩ := hp
      intro H locs ls hH hS hl
      refine W.objInit (a := N0 + a0) (rest := sx_st N0 b rest) hF.1 hF.2.1 hF.2.2.2.1 (sx_wd_at hF h1) (sx_wd_at hF h2) (sx_wd_at hF h3) rfl (by rw [hF.2.2.1]; exact hl.1) rfl hd hF.2.2.2.2.2.2.2.2.2.1 ?_ (kk H locs ls hH hS hl)
      rw [sx_csum_sh]
      have := hF.2.2.2.2.2.2.2.2.2.2
      show 2 * 0 + _ + 12 ≤ _
      omega
    · rw [if_neg h0] at hs; cases hs
  · cases hs
theorem sx_copy_G (hF : sx_Fx P D cA N0 b nL xs own cc p R s m args c) {pc i k q : Nat} {z : Int} {lv : sx_L} {st : List Value} {w : sx_W} {r : sx_R} {cells slots : Nat} (hd : decode cc pc = .ok (.invokestatic i, 3)) (hp : sx_pool P own false (pc, .invokestatic i, 3, 1001, k, q, z) = true)
    (hs : sx_copy pc lv st w = some r) (kk : sx_G p l e R s m args below meth c Q P D cA N0 b nL (cells + r.2.2.2.2.1) (slots + r.2.2.2.2.2) r.2.2.2.1 r.1 r.2.1 r.2.2.1) : sx_G p l e R s m args below meth c Q P D cA N0 b nL cells slots w pc lv st := by
  unfold sx_copy at hs
  split at hs
  · rename_i n dp a1 sp a0 rest
    split at hs
    · rename_i c0 f c1 g hw0 hw1
      by_cases h0 : c0 = 100 ∧ c1 = 100 ∧ ¬ sp < 0 ∧ ¬ dp < 0 ∧ ¬ n < 0 ∧ sp.toNatClampNeg + n.toNatClampNeg ≤ f.length ∧ dp.toNatClampNeg + n.toNatClampNeg ≤ g.length ∧ sx_csum rest ≤ 8
      · rw [if_pos h0] at hs
        cases hs
        obtain ⟨rfl, rfl, h1, h2, h3, h4, h5, h6⟩ := h0
        simp only [sx_pool, if_true, Bool.and_eq_true] at hp
        obtain ⟨⟨⟨p1, p2⟩, p3⟩, p4⟩ := hp
        intro H locs ls hH hS hl
        have hK := hF.2.2.2.2.2.1.1
        have hc0 := sx_vecAt (t := 0) hH hw0
        have hc1 := sx_vecAt (t := 0) hH hw1
        intro T hT X
        obtain ⟨-, k0, hk0, cm0, hkk0⟩ := (hK.2 0 _ rfl).1 f.length (fun j => .int (sx_toI (f.getD j .null)))
        obtain ⟨-, k1, hk1, cm1, hkk1⟩ := (hK.2 0 _ rfl).1 g.length (fun j => .int (sx_toI (g.getD j .null)))
        have hsz : sx_csum rest = ((sx_st N0 b rest).map fun v => v.category).sum := (sx_csum_sh rest).symm
        obtain ⟨vm', X', step⟩ := X.arraycopy hF.1 hF.2.2.2.1 (sx_wd_at hF p1) (sx_wd_at hF p2) (sx_wd_at hF p3) (sx_wd_at hF p4) (src := N0 + a0) (dst := N0 + a1) (srcPos := sp) (destPos := dp) (n := n) (by rw [hT]; exact hc0) (by rw [hT]; exact hc1)
          (fun _ h => by cases h) (fun _ h => by cases h) (fun h => by cases h) (fun h => by cases h) hk0 hk1 hkk0 hkk1 (by simp [sx_tys, refKind]) h1 h2 h3
          (by rw [sx_nn sp h1, sx_nn n h3]; show ¬ _ > ((arrV _ _ _).slots.size : Int); rw [arrV_size]; omega)
          (by rw [sx_nn dp h2, sx_nn n h3]; show ¬ _ > ((arrV _ _ _).slots.size : Int); rw [arrV_size]; omega)
          (fun vm₁ _ i hi => by
            have e : (arrV (cA 0) f.length (fun j => .int (sx_toI (f.getD j .null)))).slots.getD (sp.toNatClampNeg + i) .null = .int (sx_toI (f.getD (sp.toNatClampNeg + i) .null)) := by
              rw [Array.getD_eq_getD_getElem?, arrV_read _ _ (by omega)]
              rfl
            refine ⟨?_, ?_⟩
            · rw [e]
              rfl
            · rw [e]
              exact trivial)
          (g := F0 m pc ls (.int n :: .int dp :: .ref (N0 + a1) :: .int sp :: .ref (N0 + a0) :: sx_st N0 b rest)) rfl (by rw [hF.2.2.1]; exact hl.1) (rest := sx_st N0 b rest) rfl (by rw [hF.2.1]; exact hd) hF.2.2.2.2.2.2.2.2.2.1 (by
            show 2 * 0 + _ + _ ≤ _
            have h64 := hF.2.2.2.2.2.2.2.2.2.2
            have hnf : nativeFrameWords "java/lang/System" "arraycopy" 5 = 7 := by decide +kernel
            rw [hnf, ← hsz]
            omega)
        have e1 : copied (arrV (cA 0) f.length (fun j => .int (sx_toI (f.getD j .null)))) (arrV (cA 0) g.length (fun j => .int (sx_toI (g.getD j .null)))) sp dp n = arrV (cA 0) (g.take dp.toNatClampNeg ++ ((f.drop sp.toNatClampNeg).take n.toNatClampNeg ++ g.drop (dp.toNatClampNeg + n.toNatClampNeg))).length (fun j => .int (sx_toI ((g.take dp.toNatClampNeg ++ ((f.drop sp.toNatClampNeg).take n.toNatClampNeg ++ g.drop (dp.toNatClampNeg + n.toNatClampNeg))).getD j .null))) := by
          have e2 : copied (arrV (cA 0) f.length (fun j => .int (sx_toI (f.getD j .null)))) (arrV (cA 0) g.length (fun j => .int (sx_toI (g.getD j .null)))) sp dp n = arrV (cA 0) g.length (fun j => .int (va_cpy (fun j => sx_toI (f.getD j .null)) (fun j => sx_toI (g.getD j .null)) sp.toNatClampNeg dp.toNatClampNeg n.toNatClampNeg j)) := va_copied (fun z => .int z) (cA 0) (cA 0) (fun j => sx_toI (f.getD j .null)) (fun j => sx_toI (g.getD j .null)) h4
          have hlen : (g.take dp.toNatClampNeg ++ ((f.drop sp.toNatClampNeg).take n.toNatClampNeg ++ g.drop (dp.toNatClampNeg + n.toNatClampNeg))).length = g.length := by
            rw [List.length_append, List.length_append, List.length_take, List.length_take, List.length_drop, List.length_drop]
            omega
          rw [e2, hlen]
          apply sx_arrV_ext
          intro j hj
          rw [List.getD_eq_getElem?_getD, sx_cpy h4 h5]
          unfold va_cpy
          by_cases hb : dp.toNatClampNeg ≤ j ∧ j < dp.toNatClampNeg + n.toNatClampNeg
          · rw [if_pos hb, if_pos hb]
            show Value.int (sx_toI (f.getD _ .null)) = _
            rw [List.getD_eq_getElem?_getD]
          · rw [if_neg hb, if_neg hb]
            show Value.int (sx_toI (g.getD _ .null)) = _
            rw [List.getD_eq_getElem?_getD]
        rw [e1] at X' step
        generalize hv : (g.take dp.toNatClampNeg ++ ((f.drop sp.toNatClampNeg).take n.toNatClampNeg ++ g.drop (dp.toNatClampNeg + n.toNatClampNeg))) = vs at X' step kk
        have hlt : N0 + a1 < H.size := (Array.getElem?_eq_some_iff.mp hc1).1
        have hheap : ((T.setVm vm').setCell (N0 + a1) (arrV (cA 0) vs.length (fun j => .int (sx_toI (vs.getD j .null))))).heap = H.setIfInBounds (N0 + a1) (arrV (cA 0) vs.length (fun j => .int (sx_toI (vs.getD j .null)))) := by rw [← hT]; rfl
        have oq : ∀ q : Nat, q ≠ N0 + a1 → (H.setIfInBounds (N0 + a1) (arrV (cA 0) vs.length (fun j => .int (sx_toI (vs.getD j .null)))))[q]? = H[q]? := fun q hq => by simp [Array.getElem?_setIfInBounds, Ne.symm hq]
        obtain ⟨t, a1', b1⟩ := kk (H.setIfInBounds (N0 + a1) (arrV (cA 0) vs.length (fun j => .int (sx_toI (vs.getD j .null))))) _ ls (hH.put (List.getElem?_eq_some_iff.mp hw1).1 (Array.size_setIfInBounds ..) (by
          unfold sx_e
          rw [if_neg (show ¬ 100 < 100 by decide)]
          show (H.setIfInBounds (N0 + a1) _)[N0 + a1]? = some _
          rw [Array.getElem?_setIfInBounds_self_of_lt hlt]
          rfl) oq) ⟨by rw [Array.size_setIfInBounds]; exact hS.1, fun q g1 g2 => by
            rw [oq q (fun e => g2 (by rw [e]; exact Nat.le_add_right _ _))]
            exact hS.2.1 q g1 g2, fun q hq => by
            rcases List.mem_append.mp hq with h | h
            · exact hS.2.2 q h
            · obtain ⟨z, -, hz⟩ := List.mem_map.mp h
              rw [← hz]
              exact Nat.le_add_right N0 a1⟩ hl _ hheap X'
        exact ⟨t, step t a1', b1⟩
      · rw [if_neg h0] at hs; cases hs
    · cases hs
  · cases hs
theorem sx_mm_G (hF : sx_Fx P D cA N0 b nL xs own cc p R s m args c) {pc i a k q : Nat} {z : Int} {f : Int32 → Int32 → Int32} (ha : (a = 1002 ∧ f = fun x y => if x < y then y else x) ∨ (a = 1003 ∧ f = fun x y => if y < x then y else x)) {lv : sx_L} {st : List Value} {w : sx_W} {r : sx_R} {cells slots : Nat} (hd : decode cc pc = .ok (.invokestatic i, 3)) (hp : sx_pool P own false (pc, .invokestatic i, 3, a, k, q, z) = true)
    (hs : sx_mm pc lv st w f = some r) (hc : cells + r.2.2.2.2.1 ≤ R.cells) (hsl : slots + r.2.2.2.2.2 ≤ R.slots) (kk : sx_G p l e R s m args below meth c Q P D cA N0 b nL (cells + r.2.2.2.2.1) (slots + r.2.2.2.2.2) r.2.2.2.1 r.1 r.2.1 r.2.2.1) : sx_G p l e R s m args below meth c Q P D cA N0 b nL cells slots w pc lv st := by
  unfold sx_mm at hs
  split at hs
  · rename_i y x rest
    by_cases h0 : sx_csum rest ≤ 8
    · rw [if_pos h0] at hs
      cases hs
      intro H locs ls hH hS hl
      have h64 := hF.2.2.2.2.2.2.2.2.2.2
      have hlo : ((sx_st N0 b rest).map fun v => v.category).sum + 13 ≤ R.locals := by rw [sx_csum_sh]; omega
      rcases ha with ⟨rfl, rfl⟩ | ⟨rfl, rfl⟩
      · simp only [sx_pool, if_true, Bool.and_eq_true, show ¬ (1002 = 1001) by decide, if_false] at hp
        obtain ⟨⟨⟨p1, p2⟩, p3⟩, p4⟩ := hp
        exact va_mmax hF.1 hF.2.1 (by rw [hF.2.2.1]; exact hl.1.symm) hF.2.2.2.1 (sx_wd_at hF p1) (sx_wd_at hF p2) (sx_wd_at hF p4) (sx_wd_at hF p3) hF.2.2.2.2.2.2.2.2.2.1 hlo hc hsl hd (kk H locs ls hH hS hl)
      · simp only [sx_pool, if_true, Bool.and_eq_true, show ¬ (1003 = 1001) by decide, show ¬ (1003 = 1002) by decide, if_false] at hp
        obtain ⟨⟨⟨p1, p2⟩, p3⟩, p4⟩ := hp
        exact va_mmin hF.1 hF.2.1 (by rw [hF.2.2.1]; exact hl.1.symm) hF.2.2.2.1 (sx_wd_at hF p1) (sx_wd_at hF p2) (sx_wd_at hF p4) (sx_wd_at hF p3) hF.2.2.2.2.2.2.2.2.2.1 hlo hc hsl hd (kk H locs ls hH hS hl)
    · rw [if_neg h0] at hs; cases hs
  · cases hs
end SXM
