section
/-! bytes of an int, as both put them on the tape -/
theorem tb_id {v : Int} (h : hB v) : (Int32.ofInt v).toInt = v := by
  unfold hB at h
  have e0 : (Int32.ofInt v).toInt = v.bmod (2 ^ 32) := Int32.toInt_ofInt
  have e1 : ((2 ^ 32 : Nat) : Int) = 4294967296 := by decide
  rw [e0, Int.bmod_def, e1]
  split <;> omega
theorem tb_nat (v : Int) : (Int32.ofInt v).toBitVec.toNat = (v % 4294967296).toNat := by
  have e1 : ((2 ^ 32 : Nat) : Int) = 4294967296 := by decide
  rw [Int32.toBitVec_ofInt, BitVec.toNat_ofInt, e1]
theorem tb_and0 (z : Int32) : gx_and z.toInt 255 = ((z.toBitVec.toNat % 256 : Nat) : Int) := by
  have e : (Int32.ofInt z.toInt &&& Int32.ofInt 255).toBitVec.toNat = z.toBitVec.toNat % 256 := by
    rw [Int32.ofInt_toInt]
    show (z.toBitVec &&& (Int32.ofInt 255).toBitVec).toNat = _
    have e2 : (Int32.ofInt 255).toBitVec.toNat = 2 ^ 8 - 1 := by decide
    rw [BitVec.toNat_and, e2, Nat.and_two_pow_sub_one_eq_mod]
  unfold gx_and
  rw [hiv_to (by rw [e]; omega), e]
theorem tb_and {v : Int} (h : hB v) : gx_and v 255 = v % 256 := by
  have := tb_and0 (Int32.ofInt v)
  rw [tb_id h, tb_nat] at this
  rw [this]
  omega
theorem tb_b8 {x : Int} (h : hB x) : hi2b x = (x + 128) % 256 - 128 := by
  unfold hi2b
  have e1 : ((2 ^ 8 : Nat) : Int) = 256 := by decide
  rw [Int8.toInt_toInt32, Int32.toInt_toInt8, tb_id h, Int.bmod_def, e1]
  split <;> omega
theorem tb_by {x : Int} (h : hB x) : hbyte x = (x + 128) % 256 - 128 := by
  unfold hbyte
  rw [vp_nar_byte]
  exact tb_b8 h
theorem tb_shr {v : Int} (h : hB v) {s : Nat} (hs : s < 32) : gx_shr v (s : Int) = v / ((2 ^ s : Nat) : Int) := by
  unfold gx_shr
  have e : (Int32.ofInt v >>> (Int32.ofInt (s : Int) &&& 31)).toInt = (((Int32.ofInt v).toBitVec).sshiftRight' ((Int32.ofInt (s : Int) &&& 31).toBitVec.smod 32)).toInt := rfl
  have e1 : (Int32.ofInt v).toBitVec.toInt = v := tb_id h
  rw [e, BitVec.toInt_sshiftRight', hi_sam s hs, e1, Int.shiftRight_eq_div_pow]
theorem tb_ush {v : Int} {s : Nat} (hs : s < 32) : gx_and (hushr v (s : Int)) 255 = (((v % 4294967296).toNat / 2 ^ s % 256 : Nat) : Int) := by
  have e : ((Int32.ofInt v).toUInt32 >>> UInt32.ofNat s).toInt32.toBitVec.toNat = (v % 4294967296).toNat / 2 ^ s := by
    show ((Int32.ofInt v).toUInt32 >>> UInt32.ofNat s).toNat = _
    rw [UInt32.toNat_shiftRight, UInt32.toNat_ofNat']
    have e1 : (Int32.ofInt v).toUInt32.toNat = (v % 4294967296).toNat := tb_nat v
    rw [e1, Nat.mod_eq_of_lt (show s % 2 ^ 32 < 32 by omega), Nat.mod_eq_of_lt (show s < 2 ^ 32 by omega), Nat.shiftRight_eq_div_pow]
  unfold hushr
  rw [hi_amt s hs, tb_and0, e]
/-- the byte i of an int, from the highest on -/
def tb4 (v : Int) (i : Nat) : Int := gx_and (hushr v ((24 - 8 * i : Nat) : Int)) 255
theorem tb_same {v : Int} (h : hB v) {i : Nat} (hi : i < 4) : gx_and (hbyte (hi2b (gx_shr v ((24 - 8 * i : Nat) : Int)))) 255 = tb4 v i := by
  unfold tb4
  have hb := h
  unfold hB at hb
  rw [tb_shr h (by omega), tb_ush (by omega)]
  have k : i = 0 ∨ i = 1 ∨ i = 2 ∨ i = 3 := by omega
  rcases k with rfl | rfl | rfl | rfl
  · have e : ((2 ^ (24 - 8 * 0) : Nat) : Int) = 16777216 := by decide
    have e2 : (2 : Nat) ^ (24 - 8 * 0) = 16777216 := by decide
    rw [e, e2, tb_b8 (by unfold hB; omega), tb_by (by unfold hB; omega), tb_and (by unfold hB; omega)]
    omega
  · have e : ((2 ^ (24 - 8 * 1) : Nat) : Int) = 65536 := by decide
    have e2 : (2 : Nat) ^ (24 - 8 * 1) = 65536 := by decide
    rw [e, e2, tb_b8 (by unfold hB; omega), tb_by (by unfold hB; omega), tb_and (by unfold hB; omega)]
    omega
  · have e : ((2 ^ (24 - 8 * 2) : Nat) : Int) = 256 := by decide
    have e2 : (2 : Nat) ^ (24 - 8 * 2) = 256 := by decide
    rw [e, e2, tb_b8 (by unfold hB; omega), tb_by (by unfold hB; omega), tb_and (by unfold hB; omega)]
    omega
  · have e : ((2 ^ (24 - 8 * 3) : Nat) : Int) = 1 := by decide
    have e2 : (2 : Nat) ^ (24 - 8 * 3) = 1 := by decide
    rw [e, e2, tb_b8 (by unfold hB; omega), tb_by (by unfold hB; omega), tb_and (by unfold hB; omega)]
    omega
end
section
/-! the tape stands alike -/
def hTp (m : gx_M) : Prop := 0 ≤ m 1 1 ∧ m 1 1 ≤ 260 ∧ m 1 1 = m 86 4 ∧ ∀ k : Nat, (k : Int) < m 1 1 → gx_and (m 90 k) 255 = m 2 k
def hPT : List (Nat × Nat × Nat) := [(1, 1, 2), (2, 0, 260), (86, 4, 5), (90, 0, 260)]
theorem hTp_c {m m' : gx_M} (h : hAg hPT m m') (hR : hTp m) : hTp m' := by
  obtain ⟨h1, h2, h3, h4⟩ := hR
  have e1 : m' 1 1 = m 1 1 := h.at 1 1 2 (by decide) (by omega) (by omega)
  have e2 : m' 86 4 = m 86 4 := h.at 86 4 5 (by decide) (by omega) (by omega)
  refine ⟨by omega, by omega, by omega, fun k hk => ?_⟩
  rw [h.at 90 0 260 (by decide) (by omega) (by omega), h.at 2 0 260 (by decide) (by omega) (by omega)]
  exact h4 k (by omega)
/-- both take what is there, or neither does -/
theorem hTp_tk {m m1 m2 : gx_M} {mods1 mods2 : bx_M} {C : Int → Prop} (hR : hTp m) (f1 : gx_fw mods1 m m1) (f2 : gx_fw mods2 m1 m2) (d1 : hDisj mods1 [(2, 0, 260), (86, 4, 5), (90, 0, 260)] = true) (d2 : hDisj mods2 [(1, 1, 2), (2, 0, 260), (90, 0, 260)] = true) (q1 : (C (m 1 1) → m1 1 1 = 0) ∧ (¬ C (m 1 1) → m1 1 1 = m 1 1)) (q2 : (C (m1 86 4) → m2 86 4 = 0) ∧ (¬ C (m1 86 4) → m2 86 4 = m1 86 4)) : hTp m2 := by
  obtain ⟨h1, h2, h3, h4⟩ := hR
  have g1 := hDisj_ok f1 d1
  have g2 := hDisj_ok f2 d2
  have a1 : m1 86 4 = m 86 4 := g1.at 86 4 5 (by decide) (by omega) (by omega)
  have a2 : m2 1 1 = m1 1 1 := g2.at 1 1 2 (by decide) (by omega) (by omega)
  rw [a1, ← h3] at q2
  have e : (m1 1 1 = 0 ∧ m2 86 4 = 0) ∨ (m1 1 1 = m 1 1 ∧ m2 86 4 = m 1 1) := by
    rcases Classical.em (C (m 1 1)) with c | c
    · exact .inl ⟨q1.1 c, q2.1 c⟩
    · exact .inr ⟨q1.2 c, q2.2 c⟩
  refine ⟨by omega, by omega, by omega, fun k hk => ?_⟩
  rw [g2.at 90 0 260 (by decide) (by omega) (by omega), g2.at 2 0 260 (by decide) (by omega) (by omega), g1.at 90 0 260 (by decide) (by omega) (by omega), g1.at 2 0 260 (by decide) (by omega) (by omega)]
  exact h4 k (by omega)
theorem hway_tk {gX : gx_M → Prop} {xs : List Int32} {M1 M2 : sx_M} {L1 L2 : hLs} {mods1 mods2 : bx_M} {T : hV → Prop} {C : Int → Prop} (c1 : hCon gX xs M1 L1 mods1 T) (c2 : hCon gX xs M2 L2 mods2 T) (d1 : hDisj mods1 [(2, 0, 260), (86, 4, 5), (90, 0, 260)] = true) (d2 : hDisj mods2 [(1, 1, 2), (2, 0, 260), (90, 0, 260)] = true) (q1 : ∀ n m, hJ gX m → hxn xs n M1 0 L1 [] m (fun _ m1 => (C (m 1 1) → m1 1 1 = 0) ∧ (¬ C (m 1 1) → m1 1 1 = m 1 1))) (q2 : ∀ n m, hJ gX m → hxn xs n M2 0 L2 [] m (fun _ m1 => (C (m 86 4) → m1 86 4 = 0) ∧ (¬ C (m 86 4) → m1 86 4 = m 86 4))) : hWay gX hTp xs M1 M2 L1 L2 (hCi T) := fun n m j r =>
  hx_and (c1 n m j) (q1 n m j) (fun r1 m1 ⟨⟨v1, e1, t1⟩, j1, f1⟩ k1 => ⟨v1, e1, hx_and (c2 n m1 j1) (q2 n m1 j1) (fun r2 m2 ⟨⟨v2, e2, t2⟩, j2, f2⟩ k2 => ⟨v2, e2, j2, hTp_tk r f1 f2 d1 d2 k1 k2, t1, t2⟩)⟩)
/-- a contract of the reader from inside a method on, with what is 0 at its end -/
theorem hm_0 {xs : List Int32} {w : sx_W} {c k : Nat} (hc : c < 100000) (h : ∀ v, bx_rd xs w c k = some v → bx_c (0, 0, 0) v) : hm w c k = 0 := by
  unfold hm
  rw [bx_rd_w hc] at h
  cases e : gx_rd w c k with
  | none => rfl
  | some v =>
    obtain ⟨-, x, rfl, h1, h2⟩ := h v e
    show x.toInt = 0
    dsimp only at h1 h2
    omega
theorem hx_Kp {xs : List Int32} {gX : gx_M → Prop} {n mi pc dk c0 k0 : Nat} {pre : ax_L} {a0 : ax_V} {mods : bx_M} {lm : List Nat} {ctr : Option (Nat × Bool)} {M : sx_M} {L : hLs} {m : gx_M} {Q : hQ} (hc : hXc gX) (hK : bx_Kok yp_P xs bw_INV (gx_XW gX) (mi, pc, pre, [], [(some (some a0), 0, [], [(c0, k0, (0, 0, 0))])], mods, lm, dk, ctr)) (hM : yp_P.2.2.2.1[mi]? = some M) (hc0 : c0 < 100000) (ha : a0.1 = 0) (hp : hpre pre L) (hj : hJ gX m) (h : ∀ v m', m' c0 k0 = 0 → Q (some (.inl v)) m') : hxn xs n M pc L [] m Q := by
  intro d lv sv w o hl' hs' hw hm' he
  have := hs0 hs'
  subst this
  subst hm'
  have hrun : sx_rn yp_P xs (max d dk) M pc lv [] w o := sx_rn_up (Nat.le_max_left d dk) ⟨n, he⟩
  obtain ⟨e, hem, lv', w', g1, g2, g3, g4⟩ := hK M hM (max d dk) (Nat.le_max_right d dk) lv w (hpre_ok hp hl') (hJ_w hc hw hj) (fun q hq => by cases hq)
  rw [List.mem_singleton] at hem
  subst hem
  obtain ⟨rv, k1, k2⟩ := g4
  have eo := sx_rn_fun hrun k2
  subst eo
  obtain ⟨i1, i2⟩ := hJ_of hc g1.1 g1.2
  have hz : hm w' c0 k0 = 0 := hm_0 hc0 (g2 (c0, k0, (0, 0, 0)) (List.mem_singleton.mpr rfl))
  cases rv with
  | none => exact k1.elim
  | some u =>
    obtain ⟨t, lo, hi⟩ := a0
    obtain ⟨n4, hg'⟩ := k1
    dsimp only at ha
    subst ha
    obtain ⟨x, rfl, q1, q2⟩ := hg'
    exact ⟨some (.inl x.toInt), ⟨x, rfl, rfl⟩, i1, h x.toInt _ hz⟩
end
section
/-! the tape: contracts from behind the first question on -/
def bf_48 : bx_K := (48, 16, [(0, (2, 0, 0)), (1, (0, 1, 160))], [], [(some (some (0, (-2147483648), 2147483647)), 0, [], [(1, 1, (0, 0, 0))])], [(1, 1, 2), (3, 1, 2), (3, 2, 3), (3, 3, 4), (3, 4, 5), (4, 0, 260), (6, 0, 8), (12, 0, 40), (13, 0, 40), (14, 0, 40), (15, 0, 40), (16, 0, 40), (17, 0, 640), (44, 9, 10), (44, 10, 11), (44, 11, 12), (51, 0, 64), (61, 5, 6), (62, 0, 16), (63, 0, 16), (64, 0, 16), (65, 0, 16), (66, 0, 16)], [2, 3], 8, none)
set_option maxRecDepth 10000000 in
theorem bg_48 : bx_chk yp_P [bk_30, bk_88, bk_247] 1500 bw_INV bw_PC yp_m48 bf_48 = true := by decide +kernel
theorem bh_48 {xs : List Int32} {X : sx_W → Prop} (h : bw_H xs X) : bx_Kok yp_P xs bw_INV X bf_48 := bx_chk_K h.1 h.2.1 (List.forall_mem_cons.mpr ⟨bo_30 h, (List.forall_mem_cons.mpr ⟨bo_88 h, (List.forall_mem_cons.mpr ⟨bo_247 h, bx_Tnil⟩)⟩)⟩) (M := yp_m48) rfl bg_48
def bf_70 : bx_K := (70, 16, [(0, (2, 0, 0)), (1, (0, 1, 160))], [], [(some (some (0, (-2147483648), 2147483647)), 0, [], [(1, 1, (0, 0, 0))])], [(1, 1, 2), (3, 1, 2), (3, 2, 3), (3, 3, 4), (3, 4, 5), (4, 0, 260), (31, 0, 1), (31, 1, 2), (31, 2, 3), (31, 3, 4), (31, 4, 5), (32, 0, 8), (33, 0, 40), (34, 0, 40), (35, 0, 40), (36, 0, 40), (37, 0, 40), (38, 0, 40), (39, 0, 40), (40, 0, 40), (41, 0, 40), (42, 0, 40), (43, 0, 640), (44, 9, 10), (44, 10, 11), (44, 11, 12), (51, 0, 64), (61, 5, 6), (62, 0, 16), (63, 0, 16), (64, 0, 16), (65, 0, 16), (66, 0, 16)], [2], 8, none)
set_option maxRecDepth 10000000 in
theorem bg_70 : bx_chk yp_P [bk_30, bk_36, bk_88, bk_246] 1500 bw_INV bw_PC yp_m70 bf_70 = true := by decide +kernel
theorem bh_70 {xs : List Int32} {X : sx_W → Prop} (h : bw_H xs X) : bx_Kok yp_P xs bw_INV X bf_70 := bx_chk_K h.1 h.2.1 (List.forall_mem_cons.mpr ⟨bo_30 h, (List.forall_mem_cons.mpr ⟨bo_36 h, (List.forall_mem_cons.mpr ⟨bo_88 h, (List.forall_mem_cons.mpr ⟨bo_246 h, bx_Tnil⟩)⟩)⟩)⟩) (M := yp_m70) rfl bg_70
def bf_107 : bx_K := (107, 15, [(0, (2, 0, 0)), (1, (0, 1, 6)), (2, (0, (-2147483648), 2147483647)), (3, (0, (-2147483648), 2147483647))], [], [(some (some (0, (-2147483648), 2147483647)), 0, [], [(1, 1, (0, 0, 0))])], [(1, 1, 2), (3, 1, 2), (3, 2, 3), (3, 3, 4), (3, 4, 5), (4, 0, 260), (44, 9, 10), (44, 10, 11), (44, 11, 12), (51, 0, 64), (81, 1, 2), (82, 0, 8), (83, 0, 64), (84, 0, 1792), (85, 0, 8)], [4, 5], 7, none)
set_option maxRecDepth 10000000 in
theorem bg_107 : bx_chk yp_P [bk_30, bk_91, bk_197, bk_259, bk_266, bk_418] 1500 bw_INV bw_PC yp_m107 bf_107 = true := by decide +kernel
theorem bh_107 {xs : List Int32} {X : sx_W → Prop} (h : bw_H xs X) : bx_Kok yp_P xs bw_INV X bf_107 := bx_chk_K h.1 h.2.1 (List.forall_mem_cons.mpr ⟨bo_30 h, (List.forall_mem_cons.mpr ⟨bo_91 h, (List.forall_mem_cons.mpr ⟨bo_197 h, (List.forall_mem_cons.mpr ⟨bo_259 h, (List.forall_mem_cons.mpr ⟨bo_266 h, (List.forall_mem_cons.mpr ⟨bo_418 h, bx_Tnil⟩)⟩)⟩)⟩)⟩)⟩) (M := yp_m107) rfl bg_107
def bf_120 : bx_K := (120, 15, [(0, (2, 0, 0)), (1, (0, 1, 8)), (2, (0, (-2147483648), 2147483647))], [], [(some (some (0, (-2147483648), 2147483647)), 0, [], [(1, 1, (0, 0, 0))])], [(1, 1, 2), (3, 1, 2), (3, 2, 3), (3, 3, 4), (3, 4, 5), (4, 0, 260), (44, 9, 10), (44, 10, 11), (44, 11, 12), (51, 0, 64), (81, 1, 2), (82, 0, 8), (83, 0, 64), (85, 0, 8)], [], 7, none)
set_option maxRecDepth 10000000 in
theorem bg_120 : bx_chk yp_P [bk_30, bk_90, bk_196, bk_258, bk_259] 1500 bw_INV bw_PC yp_m120 bf_120 = true := by decide +kernel
theorem bh_120 {xs : List Int32} {X : sx_W → Prop} (h : bw_H xs X) : bx_Kok yp_P xs bw_INV X bf_120 := bx_chk_K h.1 h.2.1 (List.forall_mem_cons.mpr ⟨bo_30 h, (List.forall_mem_cons.mpr ⟨bo_90 h, (List.forall_mem_cons.mpr ⟨bo_196 h, (List.forall_mem_cons.mpr ⟨bo_258 h, (List.forall_mem_cons.mpr ⟨bo_259 h, bx_Tnil⟩)⟩)⟩)⟩)⟩) (M := yp_m120) rfl bg_120
def bf_139 : bx_K := (139, 16, [(0, (2, 0, 0)), (1, (0, 1, 160)), (2, (0, (-2147483648), 2147483647))], [], [(some (some (0, (-2147483648), 2147483647)), 0, [], [(1, 1, (0, 0, 0))])], [(1, 1, 2), (3, 1, 2), (3, 2, 3), (3, 3, 4), (3, 4, 5), (4, 0, 260), (31, 0, 1), (31, 1, 2), (31, 2, 3), (31, 3, 4), (31, 4, 5), (32, 0, 8), (33, 0, 40), (34, 0, 40), (35, 0, 40), (36, 0, 40), (37, 0, 40), (38, 0, 40), (39, 0, 40), (40, 0, 40), (41, 0, 40), (42, 0, 40), (43, 0, 640), (44, 9, 10), (44, 10, 11), (44, 11, 12), (51, 0, 64), (61, 5, 6), (62, 0, 16), (63, 0, 16), (64, 0, 16), (65, 0, 16), (66, 0, 16), (67, 0, 6), (68, 0, 42)], [3], 13, none)
set_option maxRecDepth 10000000 in
theorem bg_139 : bx_chk yp_P [bk_30, bk_36, bk_88, bk_245] 1500 bw_INV bw_PC yp_m139 bf_139 = true := by decide +kernel
theorem bh_139 {xs : List Int32} {X : sx_W → Prop} (h : bw_H xs X) : bx_Kok yp_P xs bw_INV X bf_139 := bx_chk_K h.1 h.2.1 (List.forall_mem_cons.mpr ⟨bo_30 h, (List.forall_mem_cons.mpr ⟨bo_36 h, (List.forall_mem_cons.mpr ⟨bo_88 h, (List.forall_mem_cons.mpr ⟨bo_245 h, bx_Tnil⟩)⟩)⟩)⟩) (M := yp_m139) rfl bg_139
def bf_156 : bx_K := (156, 26, [(0, (2, 0, 0)), (1, (0, 0, 40))], [], [(some (some (0, (-2), 39)), 0, [], [(1, 1, (0, 0, 0))])], [(1, 1, 2), (3, 1, 2), (3, 2, 3), (3, 3, 4), (3, 4, 5), (4, 0, 260)], [2, 3], 3, none)
set_option maxRecDepth 10000000 in
theorem bg_156 : bx_chk yp_P [bk_30, bk_87] 1500 bw_INV bw_PC yp_m156 bf_156 = true := by decide +kernel
theorem bh_156 {xs : List Int32} {X : sx_W → Prop} (h : bw_H xs X) : bx_Kok yp_P xs bw_INV X bf_156 := bx_chk_K h.1 h.2.1 (List.forall_mem_cons.mpr ⟨bo_30 h, (List.forall_mem_cons.mpr ⟨bo_87 h, bx_Tnil⟩)⟩) (M := yp_m156) rfl bg_156
def bf_190 : bx_K := (190, 21, [(0, (2, 86, 0)), (1, (0, 1, 160))], [], [(some (some (0, (-2147483648), 2147483647)), 0, [], [(86, 4, (0, 0, 0))])], [(86, 4, 5), (86, 5, 6), (86, 6, 7), (86, 7, 8), (86, 8, 9), (86, 32, 33), (87, 240, 440), (87, 480, 1128), (102, 0, 260), (103, 0, 14), (104, 0, 16), (105, 0, 16), (106, 0, 16), (107, 0, 16), (108, 0, 16)], [2, 3], 9, none)
set_option maxRecDepth 10000000 in
theorem bg_190 : bx_chk yp_P [bf_acts, bk_198] 1500 bw_INV bw_PC yp_m190 bf_190 = true := by decide +kernel
theorem bh_190 {xs : List Int32} {X : sx_W → Prop} (h : bw_H xs X) : bx_Kok yp_P xs bw_INV X bf_190 := bx_chk_K h.1 h.2.1 (List.forall_mem_cons.mpr ⟨bp_facts ⟨h.1, h.2.1⟩, (List.forall_mem_cons.mpr ⟨bo_198 h, bx_Tnil⟩)⟩) (M := yp_m190) rfl bg_190
def bf_211 : bx_K := (211, 21, [(0, (2, 86, 0)), (1, (0, 1, 160))], [], [(some (some (0, (-2147483648), 2147483647)), 0, [], [(86, 4, (0, 0, 0))])], [(86, 4, 5), (86, 5, 6), (86, 6, 7), (86, 7, 8), (86, 8, 9), (86, 32, 33), (87, 0, 1131), (88, 0, 1131), (102, 0, 260), (103, 0, 14), (104, 0, 16), (105, 0, 16), (106, 0, 16), (107, 0, 16), (108, 0, 16)], [2], 9, none)
set_option maxRecDepth 10000000 in
theorem bg_211 : bx_chk yp_P [bk_100, bf_acts, bk_410, bk_411] 1500 bw_INV bw_PC yp_m211 bf_211 = true := by decide +kernel
theorem bh_211 {xs : List Int32} {X : sx_W → Prop} (h : bw_H xs X) : bx_Kok yp_P xs bw_INV X bf_211 := bx_chk_K h.1 h.2.1 (List.forall_mem_cons.mpr ⟨bo_100 h, (List.forall_mem_cons.mpr ⟨bp_facts ⟨h.1, h.2.1⟩, (List.forall_mem_cons.mpr ⟨bo_410 h, (List.forall_mem_cons.mpr ⟨bo_411 h, bx_Tnil⟩)⟩)⟩)⟩) (M := yp_m211) rfl bg_211
def bf_248 : bx_K := (248, 20, [(0, (2, 86, 0)), (1, (0, 1, 8)), (2, (0, (-2147483648), 2147483647))], [], [(some (some (0, (-2147483648), 2147483647)), 0, [], [(86, 4, (0, 0, 0))])], [(86, 4, 5), (86, 37, 38), (102, 0, 260), (103, 0, 14), (112, 0, 8), (115, 0, 8), (116, 0, 8)], [3, 4], 10, none)
set_option maxRecDepth 10000000 in
theorem bg_248 : bx_chk yp_P [bk_141, bk_206, bk_260, bk_261] 1500 bw_INV bw_PC yp_m248 bf_248 = true := by decide +kernel
theorem bh_248 {xs : List Int32} {X : sx_W → Prop} (h : bw_H xs X) : bx_Kok yp_P xs bw_INV X bf_248 := bx_chk_K h.1 h.2.1 (List.forall_mem_cons.mpr ⟨bo_141 h, (List.forall_mem_cons.mpr ⟨bo_206 h, (List.forall_mem_cons.mpr ⟨bo_260 h, (List.forall_mem_cons.mpr ⟨bo_261 h, bx_Tnil⟩)⟩)⟩)⟩) (M := yp_m248) rfl bg_248
def bf_272 : bx_K := (272, 23, [(0, (2, 86, 0)), (1, (0, 0, 40))], [], [(some (some (0, (-2), 39)), 0, [], [(86, 4, (0, 0, 0))])], [(86, 4, 5)], [2], 2, none)
set_option maxRecDepth 10000000 in
theorem bg_272 : bx_chk yp_P [bk_96] 1500 bw_INV bw_PC yp_m272 bf_272 = true := by decide +kernel
theorem bh_272 {xs : List Int32} {X : sx_W → Prop} (h : bw_H xs X) : bx_Kok yp_P xs bw_INV X bf_272 := bx_chk_K h.1 h.2.1 (List.forall_mem_cons.mpr ⟨bo_96 h, bx_Tnil⟩) (M := yp_m272) rfl bg_272
end
section
/-! the tape: who takes what, roads -/
/-- has from 0 on -/
theorem hs23 {xs : List Int32} {n : Nat} {Q : hQ} {m : gx_M} {x1 x2 : Int}
    (h1 : 1 ≤ x1 ∧ x1 ≤ x2 ∧ x1 ≤ m 1 1 → Q (some (.inl 1)) m) (h0 : ¬ (1 ≤ x1 ∧ x1 ≤ x2 ∧ x1 ≤ m 1 1) → Q (some (.inl 0)) m) : hxn xs n yp_m23 0 [(0, .inr (.inl 1)), (1, .inl x1), (2, .inl x2)] [] m Q := by
  refine hx_dn ?_
  refine hx_blks (npc := 2) (L' := [(0, .inr (.inl 1)), (1, .inl x1), (2, .inl x2)]) (st' := [.inl 1, .inl x1]) (m' := m) ((0, .iload_n 1, 1, 0, 0, 0, 0), (0, 0, 0)) [((1, .iconst 1, 1, 0, 0, 0, 0), (0, 0, 0))] (by decide +kernel) rfl ?_
  refine hx_cmp .lt 22 (by decide +kernel) (fun c1 => ?_) (fun c1 => ?_)
  · have c1 : x1 < 1 := c1
    refine hx_blk (npc := 23) (L' := [(0, .inr (.inl 1)), (1, .inl x1), (2, .inl x2)]) (st' := [.inl 0]) (m' := m) [((22, .iconst 0, 1, 0, 0, 0, 0), (0, 0, 0))] (by decide +kernel) rfl ?_
    exact hx_reti (by decide +kernel) (h0 (by omega))
  · have c1 : 1 ≤ x1 := by have h : ¬ (x1 < 1) := c1; omega
    refine hx_blk (npc := 7) (L' := [(0, .inr (.inl 1)), (1, .inl x1), (2, .inl x2)]) (st' := [.inl x2, .inl x1]) (m' := m) [((5, .iload_n 1, 1, 0, 0, 0, 0), (0, 0, 0)), ((6, .iload_n 2, 1, 0, 0, 0, 0), (0, 0, 0))] (by decide +kernel) rfl ?_
    refine hx_cmp .gt 22 (by decide +kernel) (fun c2 => ?_) (fun c2 => ?_)
    · have c2 : x2 < x1 := c2
      refine hx_blk (npc := 23) (L' := [(0, .inr (.inl 1)), (1, .inl x1), (2, .inl x2)]) (st' := [.inl 0]) (m' := m) [((22, .iconst 0, 1, 0, 0, 0, 0), (0, 0, 0))] (by decide +kernel) rfl ?_
      exact hx_reti (by decide +kernel) (h0 (by omega))
    · have c2 : x1 ≤ x2 := by have h : ¬ (x2 < x1) := c2; omega
      refine hx_blk (npc := 15) (L' := [(0, .inr (.inl 1)), (1, .inl x1), (2, .inl x2)]) (st' := [.inl (m 1 1), .inl x1]) (m' := m) [((10, .iload_n 1, 1, 0, 0, 0, 0), (0, 0, 0)), ((11, .aload_n 0, 1, 0, 0, 0, 0), (0, 0, 0)), ((12, .getfield 15, 3, 0, 1, 1033, 0), (0, 1, 0))] (by decide +kernel) rfl ?_
      refine hx_cmp .gt 22 (by decide +kernel) (fun c3 => ?_) (fun c3 => ?_)
      · have c3 : (m 1 1) < x1 := c3
        refine hx_blk (npc := 23) (L' := [(0, .inr (.inl 1)), (1, .inl x1), (2, .inl x2)]) (st' := [.inl 0]) (m' := m) [((22, .iconst 0, 1, 0, 0, 0, 0), (0, 0, 0))] (by decide +kernel) rfl ?_
        exact hx_reti (by decide +kernel) (h0 (by omega))
      · have c3 : x1 ≤ (m 1 1) := by have h : ¬ ((m 1 1) < x1) := c3; omega
        refine hx_blk (npc := 23) (L' := [(0, .inr (.inl 1)), (1, .inl x1), (2, .inl x2)]) (st' := [.inl 1]) (m' := m) [((18, .iconst 1, 1, 0, 0, 0, 0), (0, 0, 0)), ((19, .goto 4, 3, 0, 0, 0, 0), (0, 0, 0))] (by decide +kernel) rfl ?_
        exact hx_reti (by decide +kernel) (h1 (by omega))

/-- deals from 0 on -/
theorem ht48 {xs : List Int32} {n : Nat} {Q : hQ} {m : gx_M} {x1 : Int}
    (h1 : (1 ≤ x1 ∧ x1 ≤ 160 ∧ x1 ≤ m 1 1) → hxn xs n yp_m48 16 [(0, .inr (.inl 0)), (1, .inl x1)] [] m Q)
    (h2 : (¬ (1 ≤ x1 ∧ x1 ≤ 160 ∧ x1 ≤ m 1 1)) → Q (some (.inl (-1))) m) : hxn xs (n + 1) yp_m48 0 [(0, .inr (.inl 0)), (1, .inl x1)] [] m Q := by
  refine hx_blks (npc := 8) (L' := [(0, .inr (.inl 0)), (1, .inl x1)]) (st' := [.inl 160, .inl x1, .inr (.inl 1)]) (m' := m) ((0, .aload_n 0, 1, 0, 0, 0, 0), (0, 0, 0)) [((1, .getfield 10, 3, 9, 0, 2119, 0), (1, 0, 1)), ((4, .iload_n 1, 1, 0, 0, 0, 0), (0, 0, 0)), ((5, .sipush 160, 3, 0, 0, 0, 0), (0, 0, 0))] (by decide +kernel) rfl ?_
  refine hx_call (E := (8, .invokevirtual 124, 3, 23, 0, 2212, 0)) (M' := yp_m23) [.inr (.inl 1), .inl x1, .inl 160] [] rfl (by decide +kernel) rfl ⟨rfl, rfl⟩ rfl rfl (hs23 (fun c1 => ?_) (fun c1 => ?_))
  · have c1 : 1 ≤ x1 ∧ x1 ≤ 160 ∧ x1 ≤ m 1 1 := c1
    show hxn xs n yp_m48 11 [(0, .inr (.inl 0)), (1, .inl x1)] [.inl 1] m Q
    refine hx_if .ne 16 (by decide +kernel) (fun c2 => ?_) (fun c2 => ?_)
    · have c2 : (1 : Int) ≠ 0 := c2
      exact hx_pick [0, 1] (h1 c1)
    · have c2 : (1 : Int) = 0 := by have h : ¬ ((1 : Int) ≠ 0) := c2; omega
      exfalso; omega
  · have c1 : ¬ (1 ≤ x1 ∧ x1 ≤ 160 ∧ x1 ≤ m 1 1) := c1
    show hxn xs n yp_m48 11 [(0, .inr (.inl 0)), (1, .inl x1)] [.inl 0] m Q
    refine hx_if .ne 16 (by decide +kernel) (fun c2 => ?_) (fun c2 => ?_)
    · have c2 : (0 : Int) ≠ 0 := c2
      exfalso; omega
    · have c2 : (0 : Int) = 0 := by have h : ¬ ((0 : Int) ≠ 0) := c2; omega
      refine hx_blk (npc := 15) (L' := [(0, .inr (.inl 0)), (1, .inl x1)]) (st' := [.inl (-1)]) (m' := m) [((14, .iconst (-1), 1, 0, 0, 0, 0), (0, 0, 0))] (by decide +kernel) rfl ?_
      exact hx_reti (by decide +kernel) (h2 c1)

/-- judged from 0 on -/
theorem ht70 {xs : List Int32} {n : Nat} {Q : hQ} {m : gx_M} {x1 : Int}
    (h1 : (1 ≤ x1 ∧ x1 ≤ 160 ∧ x1 ≤ m 1 1) → hxn xs n yp_m70 16 [(0, .inr (.inl 0)), (1, .inl x1)] [] m Q)
    (h2 : (¬ (1 ≤ x1 ∧ x1 ≤ 160 ∧ x1 ≤ m 1 1)) → Q (some (.inl (-1))) m) : hxn xs (n + 1) yp_m70 0 [(0, .inr (.inl 0)), (1, .inl x1)] [] m Q := by
  refine hx_blks (npc := 8) (L' := [(0, .inr (.inl 0)), (1, .inl x1)]) (st' := [.inl 160, .inl x1, .inr (.inl 1)]) (m' := m) ((0, .aload_n 0, 1, 0, 0, 0, 0), (0, 0, 0)) [((1, .getfield 10, 3, 9, 0, 2119, 0), (1, 0, 1)), ((4, .iload_n 1, 1, 0, 0, 0, 0), (0, 0, 0)), ((5, .sipush 160, 3, 0, 0, 0, 0), (0, 0, 0))] (by decide +kernel) rfl ?_
  refine hx_call (E := (8, .invokevirtual 124, 3, 23, 0, 2212, 0)) (M' := yp_m23) [.inr (.inl 1), .inl x1, .inl 160] [] rfl (by decide +kernel) rfl ⟨rfl, rfl⟩ rfl rfl (hs23 (fun c1 => ?_) (fun c1 => ?_))
  · have c1 : 1 ≤ x1 ∧ x1 ≤ 160 ∧ x1 ≤ m 1 1 := c1
    show hxn xs n yp_m70 11 [(0, .inr (.inl 0)), (1, .inl x1)] [.inl 1] m Q
    refine hx_if .ne 16 (by decide +kernel) (fun c2 => ?_) (fun c2 => ?_)
    · have c2 : (1 : Int) ≠ 0 := c2
      exact hx_pick [0, 1] (h1 c1)
    · have c2 : (1 : Int) = 0 := by have h : ¬ ((1 : Int) ≠ 0) := c2; omega
      exfalso; omega
  · have c1 : ¬ (1 ≤ x1 ∧ x1 ≤ 160 ∧ x1 ≤ m 1 1) := c1
    show hxn xs n yp_m70 11 [(0, .inr (.inl 0)), (1, .inl x1)] [.inl 0] m Q
    refine hx_if .ne 16 (by decide +kernel) (fun c2 => ?_) (fun c2 => ?_)
    · have c2 : (0 : Int) ≠ 0 := c2
      exfalso; omega
    · have c2 : (0 : Int) = 0 := by have h : ¬ ((0 : Int) ≠ 0) := c2; omega
      refine hx_blk (npc := 15) (L' := [(0, .inr (.inl 0)), (1, .inl x1)]) (st' := [.inl (-1)]) (m' := m) [((14, .iconst (-1), 1, 0, 0, 0, 0), (0, 0, 0))] (by decide +kernel) rfl ?_
      exact hx_reti (by decide +kernel) (h2 c1)

/-- sold from 0 on -/
theorem ht107 {xs : List Int32} {n : Nat} {Q : hQ} {m : gx_M} {x1 x2 x3 : Int}
    (h1 : (1 ≤ x1 ∧ x1 ≤ 6 ∧ x1 ≤ m 1 1) → hxn xs n yp_m107 15 [(0, .inr (.inl 0)), (1, .inl x1), (2, .inl x2), (3, .inl x3)] [] m Q)
    (h2 : (¬ (1 ≤ x1 ∧ x1 ≤ 6 ∧ x1 ≤ m 1 1)) → Q (some (.inl (-1))) m) : hxn xs (n + 1) yp_m107 0 [(0, .inr (.inl 0)), (1, .inl x1), (2, .inl x2), (3, .inl x3)] [] m Q := by
  refine hx_blks (npc := 7) (L' := [(0, .inr (.inl 0)), (1, .inl x1), (2, .inl x2), (3, .inl x3)]) (st' := [.inl 6, .inl x1, .inr (.inl 1)]) (m' := m) ((0, .aload_n 0, 1, 0, 0, 0, 0), (0, 0, 0)) [((1, .getfield 10, 3, 9, 0, 2119, 0), (1, 0, 1)), ((4, .iload_n 1, 1, 0, 0, 0, 0), (0, 0, 0)), ((5, .bipush 6, 2, 0, 0, 0, 0), (0, 0, 0))] (by decide +kernel) rfl ?_
  refine hx_call (E := (7, .invokevirtual 124, 3, 23, 0, 2212, 0)) (M' := yp_m23) [.inr (.inl 1), .inl x1, .inl 6] [] rfl (by decide +kernel) rfl ⟨rfl, rfl⟩ rfl rfl (hs23 (fun c1 => ?_) (fun c1 => ?_))
  · have c1 : 1 ≤ x1 ∧ x1 ≤ 6 ∧ x1 ≤ m 1 1 := c1
    show hxn xs n yp_m107 10 [(0, .inr (.inl 0)), (1, .inl x1), (2, .inl x2), (3, .inl x3)] [.inl 1] m Q
    refine hx_if .ne 15 (by decide +kernel) (fun c2 => ?_) (fun c2 => ?_)
    · have c2 : (1 : Int) ≠ 0 := c2
      exact hx_pick [0, 1, 2, 3] (h1 c1)
    · have c2 : (1 : Int) = 0 := by have h : ¬ ((1 : Int) ≠ 0) := c2; omega
      exfalso; omega
  · have c1 : ¬ (1 ≤ x1 ∧ x1 ≤ 6 ∧ x1 ≤ m 1 1) := c1
    show hxn xs n yp_m107 10 [(0, .inr (.inl 0)), (1, .inl x1), (2, .inl x2), (3, .inl x3)] [.inl 0] m Q
    refine hx_if .ne 15 (by decide +kernel) (fun c2 => ?_) (fun c2 => ?_)
    · have c2 : (0 : Int) ≠ 0 := c2
      exfalso; omega
    · have c2 : (0 : Int) = 0 := by have h : ¬ ((0 : Int) ≠ 0) := c2; omega
      refine hx_blk (npc := 14) (L' := [(0, .inr (.inl 0)), (1, .inl x1), (2, .inl x2), (3, .inl x3)]) (st' := [.inl (-1)]) (m' := m) [((13, .iconst (-1), 1, 0, 0, 0, 0), (0, 0, 0))] (by decide +kernel) rfl ?_
      exact hx_reti (by decide +kernel) (h2 c1)

/-- ring from 0 on -/
theorem ht120 {xs : List Int32} {n : Nat} {Q : hQ} {m : gx_M} {x1 x2 : Int}
    (h1 : (1 ≤ x1 ∧ x1 ≤ 8 ∧ x1 ≤ m 1 1) → hxn xs n yp_m120 15 [(0, .inr (.inl 0)), (1, .inl x1), (2, .inl x2)] [] m Q)
    (h2 : (¬ (1 ≤ x1 ∧ x1 ≤ 8 ∧ x1 ≤ m 1 1)) → Q (some (.inl (-1))) m) : hxn xs (n + 1) yp_m120 0 [(0, .inr (.inl 0)), (1, .inl x1), (2, .inl x2)] [] m Q := by
  refine hx_blks (npc := 7) (L' := [(0, .inr (.inl 0)), (1, .inl x1), (2, .inl x2)]) (st' := [.inl 8, .inl x1, .inr (.inl 1)]) (m' := m) ((0, .aload_n 0, 1, 0, 0, 0, 0), (0, 0, 0)) [((1, .getfield 10, 3, 9, 0, 2119, 0), (1, 0, 1)), ((4, .iload_n 1, 1, 0, 0, 0, 0), (0, 0, 0)), ((5, .bipush 8, 2, 0, 0, 0, 0), (0, 0, 0))] (by decide +kernel) rfl ?_
  refine hx_call (E := (7, .invokevirtual 124, 3, 23, 0, 2212, 0)) (M' := yp_m23) [.inr (.inl 1), .inl x1, .inl 8] [] rfl (by decide +kernel) rfl ⟨rfl, rfl⟩ rfl rfl (hs23 (fun c1 => ?_) (fun c1 => ?_))
  · have c1 : 1 ≤ x1 ∧ x1 ≤ 8 ∧ x1 ≤ m 1 1 := c1
    show hxn xs n yp_m120 10 [(0, .inr (.inl 0)), (1, .inl x1), (2, .inl x2)] [.inl 1] m Q
    refine hx_if .ne 15 (by decide +kernel) (fun c2 => ?_) (fun c2 => ?_)
    · have c2 : (1 : Int) ≠ 0 := c2
      exact hx_pick [0, 1, 2] (h1 c1)
    · have c2 : (1 : Int) = 0 := by have h : ¬ ((1 : Int) ≠ 0) := c2; omega
      exfalso; omega
  · have c1 : ¬ (1 ≤ x1 ∧ x1 ≤ 8 ∧ x1 ≤ m 1 1) := c1
    show hxn xs n yp_m120 10 [(0, .inr (.inl 0)), (1, .inl x1), (2, .inl x2)] [.inl 0] m Q
    refine hx_if .ne 15 (by decide +kernel) (fun c2 => ?_) (fun c2 => ?_)
    · have c2 : (0 : Int) ≠ 0 := c2
      exfalso; omega
    · have c2 : (0 : Int) = 0 := by have h : ¬ ((0 : Int) ≠ 0) := c2; omega
      refine hx_blk (npc := 14) (L' := [(0, .inr (.inl 0)), (1, .inl x1), (2, .inl x2)]) (st' := [.inl (-1)]) (m' := m) [((13, .iconst (-1), 1, 0, 0, 0, 0), (0, 0, 0))] (by decide +kernel) rfl ?_
      exact hx_reti (by decide +kernel) (h2 c1)

/-- inOrder from 0 on -/
theorem ht139 {xs : List Int32} {n : Nat} {Q : hQ} {m : gx_M} {x1 x2 : Int}
    (h1 : (1 ≤ x1 ∧ x1 ≤ 160 ∧ x1 ≤ m 1 1) → hxn xs n yp_m139 16 [(0, .inr (.inl 0)), (1, .inl x1), (2, .inl x2)] [] m Q)
    (h2 : (¬ (1 ≤ x1 ∧ x1 ≤ 160 ∧ x1 ≤ m 1 1)) → Q (some (.inl (-1))) m) : hxn xs (n + 1) yp_m139 0 [(0, .inr (.inl 0)), (1, .inl x1), (2, .inl x2)] [] m Q := by
  refine hx_blks (npc := 8) (L' := [(0, .inr (.inl 0)), (1, .inl x1), (2, .inl x2)]) (st' := [.inl 160, .inl x1, .inr (.inl 1)]) (m' := m) ((0, .aload_n 0, 1, 0, 0, 0, 0), (0, 0, 0)) [((1, .getfield 10, 3, 9, 0, 2119, 0), (1, 0, 1)), ((4, .iload_n 1, 1, 0, 0, 0, 0), (0, 0, 0)), ((5, .sipush 160, 3, 0, 0, 0, 0), (0, 0, 0))] (by decide +kernel) rfl ?_
  refine hx_call (E := (8, .invokevirtual 124, 3, 23, 0, 2212, 0)) (M' := yp_m23) [.inr (.inl 1), .inl x1, .inl 160] [] rfl (by decide +kernel) rfl ⟨rfl, rfl⟩ rfl rfl (hs23 (fun c1 => ?_) (fun c1 => ?_))
  · have c1 : 1 ≤ x1 ∧ x1 ≤ 160 ∧ x1 ≤ m 1 1 := c1
    show hxn xs n yp_m139 11 [(0, .inr (.inl 0)), (1, .inl x1), (2, .inl x2)] [.inl 1] m Q
    refine hx_if .ne 16 (by decide +kernel) (fun c2 => ?_) (fun c2 => ?_)
    · have c2 : (1 : Int) ≠ 0 := c2
      exact hx_pick [0, 1, 2] (h1 c1)
    · have c2 : (1 : Int) = 0 := by have h : ¬ ((1 : Int) ≠ 0) := c2; omega
      exfalso; omega
  · have c1 : ¬ (1 ≤ x1 ∧ x1 ≤ 160 ∧ x1 ≤ m 1 1) := c1
    show hxn xs n yp_m139 11 [(0, .inr (.inl 0)), (1, .inl x1), (2, .inl x2)] [.inl 0] m Q
    refine hx_if .ne 16 (by decide +kernel) (fun c2 => ?_) (fun c2 => ?_)
    · have c2 : (0 : Int) ≠ 0 := c2
      exfalso; omega
    · have c2 : (0 : Int) = 0 := by have h : ¬ ((0 : Int) ≠ 0) := c2; omega
      refine hx_blk (npc := 15) (L' := [(0, .inr (.inl 0)), (1, .inl x1), (2, .inl x2)]) (st' := [.inl (-1)]) (m' := m) [((14, .iconst (-1), 1, 0, 0, 0, 0), (0, 0, 0))] (by decide +kernel) rfl ?_
      exact hx_reti (by decide +kernel) (h2 c1)

/-- check from 0 on -/
theorem ht156 {xs : List Int32} {n : Nat} {Q : hQ} {m : gx_M} {x1 : Int}
    (h1 : (x1 < 0) → Q (some (.inl (-2))) m)
    (h2 : (0 ≤ x1) → (40 < x1) → Q (some (.inl (-2))) m)
    (h3 : (0 ≤ x1) → (x1 ≤ 40) → ((4 * x1) ≤ (m 1 1)) → hxn xs n yp_m156 26 [(0, .inr (.inl 0)), (1, .inl x1)] [] m Q)
    (h4 : (0 ≤ x1) → (x1 ≤ 40) → ((m 1 1) < (4 * x1)) → Q (some (.inl (-2))) m) : hxn xs (n + 1) yp_m156 0 [(0, .inr (.inl 0)), (1, .inl x1)] [] m Q := by
  refine hx_blks (npc := 1) (L' := [(0, .inr (.inl 0)), (1, .inl x1)]) (st' := [.inl x1]) (m' := m) ((0, .iload_n 1, 1, 0, 0, 0, 0), (0, 0, 0)) [] (by decide +kernel) rfl ?_
  refine hx_if .lt 23 (by decide +kernel) (fun c1 => ?_) (fun c1 => ?_)
  · have c1 : x1 < 0 := c1
    refine hx_blk (npc := 25) (L' := [(0, .inr (.inl 0)), (1, .inl x1)]) (st' := [.inl (-2)]) (m' := m) [((23, .bipush (-2), 2, 0, 0, 0, 0), (0, 0, 0))] (by decide +kernel) rfl ?_
    exact hx_reti (by decide +kernel) (h1 c1)
  · have c1 : 0 ≤ x1 := by have h : ¬ (x1 < 0) := c1; omega
    refine hx_blk (npc := 7) (L' := [(0, .inr (.inl 0)), (1, .inl x1)]) (st' := [.inl 40, .inl x1]) (m' := m) [((4, .iload_n 1, 1, 0, 0, 0, 0), (0, 0, 0)), ((5, .bipush 40, 2, 0, 0, 0, 0), (0, 0, 0))] (by decide +kernel) rfl ?_
    refine hx_cmp .gt 23 (by decide +kernel) (fun c2 => ?_) (fun c2 => ?_)
    · have c2 : 40 < x1 := c2
      refine hx_blk (npc := 25) (L' := [(0, .inr (.inl 0)), (1, .inl x1)]) (st' := [.inl (-2)]) (m' := m) [((23, .bipush (-2), 2, 0, 0, 0, 0), (0, 0, 0))] (by decide +kernel) rfl ?_
      exact hx_reti (by decide +kernel) (h2 c1 c2)
    · have c2 : x1 ≤ 40 := by have h : ¬ (40 < x1) := c2; omega
      have e1 : gx_w (4 * x1) = 4 * x1 := gx_w_id (by omega) (by omega)
      refine hx_blk (npc := 20) (L' := [(0, .inr (.inl 0)), (1, .inl x1)]) (st' := [.inl (m 1 1), .inl (gx_w (4 * x1))]) (m' := m) [((10, .iconst 4, 1, 0, 0, 0, 0), (0, 0, 0)), ((11, .iload_n 1, 1, 0, 0, 0, 0), (0, 0, 0)), ((12, .imul, 1, 0, 0, 0, 0), (0, 0, 0)), ((13, .aload_n 0, 1, 0, 0, 0, 0), (0, 0, 0)), ((14, .getfield 10, 3, 9, 0, 2119, 0), (1, 0, 1)), ((17, .getfield 117, 3, 0, 1, 1035, 0), (0, 1, 0))] (by decide +kernel) rfl ?_
      rw [e1]
      refine hx_cmp .le 26 (by decide +kernel) (fun c3 => ?_) (fun c3 => ?_)
      · have c3 : (4 * x1) ≤ (m 1 1) := c3
        exact hx_pick [0, 1] (h3 c1 c2 c3)
      · have c3 : (m 1 1) < (4 * x1) := by have h : ¬ ((4 * x1) ≤ (m 1 1)) := c3; omega
        refine hx_blk (npc := 25) (L' := [(0, .inr (.inl 0)), (1, .inl x1)]) (st' := [.inl (-2)]) (m' := m) [((23, .bipush (-2), 2, 0, 0, 0, 0), (0, 0, 0))] (by decide +kernel) rfl ?_
        exact hx_reti (by decide +kernel) (h4 c1 c2 c3)

/-- deals from 0 on -/
theorem ht190 {xs : List Int32} {n : Nat} {Q : hQ} {m : gx_M} {x1 : Int}
    (h1 : (1 ≤ x1 ∧ x1 ≤ 160) → (x1 ≤ (m 86 4)) → hxn xs n yp_m190 21 [(0, .inr (.inl 86)), (1, .inl x1)] [] m Q)
    (h2 : (1 ≤ x1 ∧ x1 ≤ 160) → ((m 86 4) < x1) → Q (some (.inl (-1))) m)
    (h3 : (¬ (1 ≤ x1 ∧ x1 ≤ 160)) → Q (some (.inl (-1))) m) : hxn xs (n + 1) yp_m190 0 [(0, .inr (.inl 86)), (1, .inl x1)] [] m Q := by
  refine hx_blks (npc := 5) (L' := [(0, .inr (.inl 86)), (1, .inl x1)]) (st' := [.inl 160, .inl 1, .inl x1]) (m' := m) ((0, .iload_n 1, 1, 0, 0, 0, 0), (0, 0, 0)) [((1, .iconst 1, 1, 0, 0, 0, 0), (0, 0, 0)), ((2, .sipush 160, 3, 0, 0, 0, 0), (0, 0, 0))] (by decide +kernel) rfl ?_
  refine hx_call (E := (5, .invokestatic 108, 3, 162, 0, 6023, 0)) (M' := yp_m162) [.inl x1, .inl 1, .inl 160] [] rfl (by decide +kernel) rfl ⟨rfl, rfl⟩ rfl rfl (hs162 (fun c1 => ?_) (fun c1 => ?_))
  · have c1 : 1 ≤ x1 ∧ x1 ≤ 160 := c1
    show hxn xs n yp_m190 8 [(0, .inr (.inl 86)), (1, .inl x1)] [.inl 1] m Q
    refine hx_if .eq 19 (by decide +kernel) (fun c2 => ?_) (fun c2 => ?_)
    · have c2 : (1 : Int) = 0 := c2
      exfalso; omega
    · have c2 : (1 : Int) ≠ 0 := c2
      refine hx_blk (npc := 16) (L' := [(0, .inr (.inl 86)), (1, .inl x1)]) (st' := [.inl (m 86 4), .inl x1]) (m' := m) [((11, .iload_n 1, 1, 0, 0, 0, 0), (0, 0, 0)), ((12, .aload_n 0, 1, 0, 0, 0, 0), (0, 0, 0)), ((13, .getfield 124, 3, 10, 4, 5117, 0), (0, 86, 0))] (by decide +kernel) rfl ?_
      refine hx_cmp .le 21 (by decide +kernel) (fun c2 => ?_) (fun c2 => ?_)
      · have c2 : x1 ≤ (m 86 4) := c2
        exact hx_pick [0, 1] (h1 c1 c2)
      · have c2 : (m 86 4) < x1 := by have h : ¬ (x1 ≤ (m 86 4)) := c2; omega
        refine hx_blk (npc := 20) (L' := [(0, .inr (.inl 86)), (1, .inl x1)]) (st' := [.inl (-1)]) (m' := m) [((19, .iconst (-1), 1, 0, 0, 0, 0), (0, 0, 0))] (by decide +kernel) rfl ?_
        exact hx_reti (by decide +kernel) (h2 c1 c2)
  · have c1 : ¬ (1 ≤ x1 ∧ x1 ≤ 160) := c1
    show hxn xs n yp_m190 8 [(0, .inr (.inl 86)), (1, .inl x1)] [.inl 0] m Q
    refine hx_if .eq 19 (by decide +kernel) (fun c2 => ?_) (fun c2 => ?_)
    · have c2 : (0 : Int) = 0 := c2
      refine hx_blk (npc := 20) (L' := [(0, .inr (.inl 86)), (1, .inl x1)]) (st' := [.inl (-1)]) (m' := m) [((19, .iconst (-1), 1, 0, 0, 0, 0), (0, 0, 0))] (by decide +kernel) rfl ?_
      exact hx_reti (by decide +kernel) (h3 c1)
    · have c2 : (0 : Int) ≠ 0 := c2
      exfalso; omega

/-- judged from 0 on -/
theorem ht211 {xs : List Int32} {n : Nat} {Q : hQ} {m : gx_M} {x1 : Int}
    (h1 : (1 ≤ x1 ∧ x1 ≤ 160) → (x1 ≤ (m 86 4)) → hxn xs n yp_m211 21 [(0, .inr (.inl 86)), (1, .inl x1)] [] m Q)
    (h2 : (1 ≤ x1 ∧ x1 ≤ 160) → ((m 86 4) < x1) → Q (some (.inl (-1))) m)
    (h3 : (¬ (1 ≤ x1 ∧ x1 ≤ 160)) → Q (some (.inl (-1))) m) : hxn xs (n + 1) yp_m211 0 [(0, .inr (.inl 86)), (1, .inl x1)] [] m Q := by
  refine hx_blks (npc := 5) (L' := [(0, .inr (.inl 86)), (1, .inl x1)]) (st' := [.inl 160, .inl 1, .inl x1]) (m' := m) ((0, .iload_n 1, 1, 0, 0, 0, 0), (0, 0, 0)) [((1, .iconst 1, 1, 0, 0, 0, 0), (0, 0, 0)), ((2, .sipush 160, 3, 0, 0, 0, 0), (0, 0, 0))] (by decide +kernel) rfl ?_
  refine hx_call (E := (5, .invokestatic 108, 3, 162, 0, 6023, 0)) (M' := yp_m162) [.inl x1, .inl 1, .inl 160] [] rfl (by decide +kernel) rfl ⟨rfl, rfl⟩ rfl rfl (hs162 (fun c1 => ?_) (fun c1 => ?_))
  · have c1 : 1 ≤ x1 ∧ x1 ≤ 160 := c1
    show hxn xs n yp_m211 8 [(0, .inr (.inl 86)), (1, .inl x1)] [.inl 1] m Q
    refine hx_if .eq 19 (by decide +kernel) (fun c2 => ?_) (fun c2 => ?_)
    · have c2 : (1 : Int) = 0 := c2
      exfalso; omega
    · have c2 : (1 : Int) ≠ 0 := c2
      refine hx_blk (npc := 16) (L' := [(0, .inr (.inl 86)), (1, .inl x1)]) (st' := [.inl (m 86 4), .inl x1]) (m' := m) [((11, .iload_n 1, 1, 0, 0, 0, 0), (0, 0, 0)), ((12, .aload_n 0, 1, 0, 0, 0, 0), (0, 0, 0)), ((13, .getfield 124, 3, 10, 4, 5117, 0), (0, 86, 0))] (by decide +kernel) rfl ?_
      refine hx_cmp .le 21 (by decide +kernel) (fun c2 => ?_) (fun c2 => ?_)
      · have c2 : x1 ≤ (m 86 4) := c2
        exact hx_pick [0, 1] (h1 c1 c2)
      · have c2 : (m 86 4) < x1 := by have h : ¬ (x1 ≤ (m 86 4)) := c2; omega
        refine hx_blk (npc := 20) (L' := [(0, .inr (.inl 86)), (1, .inl x1)]) (st' := [.inl (-1)]) (m' := m) [((19, .iconst (-1), 1, 0, 0, 0, 0), (0, 0, 0))] (by decide +kernel) rfl ?_
        exact hx_reti (by decide +kernel) (h2 c1 c2)
  · have c1 : ¬ (1 ≤ x1 ∧ x1 ≤ 160) := c1
    show hxn xs n yp_m211 8 [(0, .inr (.inl 86)), (1, .inl x1)] [.inl 0] m Q
    refine hx_if .eq 19 (by decide +kernel) (fun c2 => ?_) (fun c2 => ?_)
    · have c2 : (0 : Int) = 0 := c2
      refine hx_blk (npc := 20) (L' := [(0, .inr (.inl 86)), (1, .inl x1)]) (st' := [.inl (-1)]) (m' := m) [((19, .iconst (-1), 1, 0, 0, 0, 0), (0, 0, 0))] (by decide +kernel) rfl ?_
      exact hx_reti (by decide +kernel) (h3 c1)
    · have c2 : (0 : Int) ≠ 0 := c2
      exfalso; omega

/-- ring from 0 on -/
theorem ht248 {xs : List Int32} {n : Nat} {Q : hQ} {m : gx_M} {x1 x2 : Int}
    (h1 : (1 ≤ x1 ∧ x1 ≤ 8) → (x1 ≤ (m 86 4)) → hxn xs n yp_m248 20 [(0, .inr (.inl 86)), (1, .inl x1), (2, .inl x2)] [] m Q)
    (h2 : (1 ≤ x1 ∧ x1 ≤ 8) → ((m 86 4) < x1) → Q (some (.inl (-1))) m)
    (h3 : (¬ (1 ≤ x1 ∧ x1 ≤ 8)) → Q (some (.inl (-1))) m) : hxn xs (n + 1) yp_m248 0 [(0, .inr (.inl 86)), (1, .inl x1), (2, .inl x2)] [] m Q := by
  refine hx_blks (npc := 4) (L' := [(0, .inr (.inl 86)), (1, .inl x1), (2, .inl x2)]) (st' := [.inl 8, .inl 1, .inl x1]) (m' := m) ((0, .iload_n 1, 1, 0, 0, 0, 0), (0, 0, 0)) [((1, .iconst 1, 1, 0, 0, 0, 0), (0, 0, 0)), ((2, .bipush 8, 2, 0, 0, 0, 0), (0, 0, 0))] (by decide +kernel) rfl ?_
  refine hx_call (E := (4, .invokestatic 108, 3, 162, 0, 6023, 0)) (M' := yp_m162) [.inl x1, .inl 1, .inl 8] [] rfl (by decide +kernel) rfl ⟨rfl, rfl⟩ rfl rfl (hs162 (fun c1 => ?_) (fun c1 => ?_))
  · have c1 : 1 ≤ x1 ∧ x1 ≤ 8 := c1
    show hxn xs n yp_m248 7 [(0, .inr (.inl 86)), (1, .inl x1), (2, .inl x2)] [.inl 1] m Q
    refine hx_if .eq 18 (by decide +kernel) (fun c2 => ?_) (fun c2 => ?_)
    · have c2 : (1 : Int) = 0 := c2
      exfalso; omega
    · have c2 : (1 : Int) ≠ 0 := c2
      refine hx_blk (npc := 15) (L' := [(0, .inr (.inl 86)), (1, .inl x1), (2, .inl x2)]) (st' := [.inl (m 86 4), .inl x1]) (m' := m) [((10, .iload_n 1, 1, 0, 0, 0, 0), (0, 0, 0)), ((11, .aload_n 0, 1, 0, 0, 0, 0), (0, 0, 0)), ((12, .getfield 124, 3, 10, 4, 5117, 0), (0, 86, 0))] (by decide +kernel) rfl ?_
      refine hx_cmp .le 20 (by decide +kernel) (fun c2 => ?_) (fun c2 => ?_)
      · have c2 : x1 ≤ (m 86 4) := c2
        exact hx_pick [0, 1, 2] (h1 c1 c2)
      · have c2 : (m 86 4) < x1 := by have h : ¬ (x1 ≤ (m 86 4)) := c2; omega
        refine hx_blk (npc := 19) (L' := [(0, .inr (.inl 86)), (1, .inl x1), (2, .inl x2)]) (st' := [.inl (-1)]) (m' := m) [((18, .iconst (-1), 1, 0, 0, 0, 0), (0, 0, 0))] (by decide +kernel) rfl ?_
        exact hx_reti (by decide +kernel) (h2 c1 c2)
  · have c1 : ¬ (1 ≤ x1 ∧ x1 ≤ 8) := c1
    show hxn xs n yp_m248 7 [(0, .inr (.inl 86)), (1, .inl x1), (2, .inl x2)] [.inl 0] m Q
    refine hx_if .eq 18 (by decide +kernel) (fun c2 => ?_) (fun c2 => ?_)
    · have c2 : (0 : Int) = 0 := c2
      refine hx_blk (npc := 19) (L' := [(0, .inr (.inl 86)), (1, .inl x1), (2, .inl x2)]) (st' := [.inl (-1)]) (m' := m) [((18, .iconst (-1), 1, 0, 0, 0, 0), (0, 0, 0))] (by decide +kernel) rfl ?_
      exact hx_reti (by decide +kernel) (h3 c1)
    · have c2 : (0 : Int) ≠ 0 := c2
      exfalso; omega

/-- check from 0 on -/
theorem ht272 {xs : List Int32} {n : Nat} {Q : hQ} {m : gx_M} {x1 : Int}
    (h1 : (0 ≤ x1 ∧ x1 ≤ 40) → (x1 ≤ (gx_w (Int.tdiv (m 86 4) 4))) → hxn xs n yp_m272 23 [(0, .inr (.inl 86)), (1, .inl x1)] [] m Q)
    (h2 : (0 ≤ x1 ∧ x1 ≤ 40) → ((gx_w (Int.tdiv (m 86 4) 4)) < x1) → Q (some (.inl (-2))) m)
    (h3 : (¬ (0 ≤ x1 ∧ x1 ≤ 40)) → Q (some (.inl (-2))) m) : hxn xs (n + 1) yp_m272 0 [(0, .inr (.inl 86)), (1, .inl x1)] [] m Q := by
  refine hx_blks (npc := 4) (L' := [(0, .inr (.inl 86)), (1, .inl x1)]) (st' := [.inl 40, .inl 0, .inl x1]) (m' := m) ((0, .iload_n 1, 1, 0, 0, 0, 0), (0, 0, 0)) [((1, .iconst 0, 1, 0, 0, 0, 0), (0, 0, 0)), ((2, .bipush 40, 2, 0, 0, 0, 0), (0, 0, 0))] (by decide +kernel) rfl ?_
  refine hx_call (E := (4, .invokestatic 108, 3, 162, 0, 6023, 0)) (M' := yp_m162) [.inl x1, .inl 0, .inl 40] [] rfl (by decide +kernel) rfl ⟨rfl, rfl⟩ rfl rfl (hs162 (fun c1 => ?_) (fun c1 => ?_))
  · have c1 : 0 ≤ x1 ∧ x1 ≤ 40 := c1
    show hxn xs n yp_m272 7 [(0, .inr (.inl 86)), (1, .inl x1)] [.inl 1] m Q
    refine hx_if .eq 20 (by decide +kernel) (fun c2 => ?_) (fun c2 => ?_)
    · have c2 : (1 : Int) = 0 := c2
      exfalso; omega
    · have c2 : (1 : Int) ≠ 0 := c2
      refine hx_blk (npc := 17) (L' := [(0, .inr (.inl 86)), (1, .inl x1)]) (st' := [.inl (gx_w (Int.tdiv (m 86 4) 4)), .inl x1]) (m' := m) [((10, .iload_n 1, 1, 0, 0, 0, 0), (0, 0, 0)), ((11, .aload_n 0, 1, 0, 0, 0, 0), (0, 0, 0)), ((12, .getfield 124, 3, 10, 4, 5117, 0), (0, 86, 0)), ((15, .iconst 4, 1, 0, 0, 0, 0), (0, 0, 0)), ((16, .idiv, 1, 0, 0, 0, 0), (0, 0, 0))] (by decide +kernel) rfl ?_
      refine hx_cmp .le 23 (by decide +kernel) (fun c2 => ?_) (fun c2 => ?_)
      · have c2 : x1 ≤ (gx_w (Int.tdiv (m 86 4) 4)) := c2
        exact hx_pick [0, 1] (h1 c1 c2)
      · have c2 : (gx_w (Int.tdiv (m 86 4) 4)) < x1 := by have h : ¬ (x1 ≤ (gx_w (Int.tdiv (m 86 4) 4))) := c2; omega
        refine hx_blk (npc := 22) (L' := [(0, .inr (.inl 86)), (1, .inl x1)]) (st' := [.inl (-2)]) (m' := m) [((20, .bipush (-2), 2, 0, 0, 0, 0), (0, 0, 0))] (by decide +kernel) rfl ?_
        exact hx_reti (by decide +kernel) (h2 c1 c2)
  · have c1 : ¬ (0 ≤ x1 ∧ x1 ≤ 40) := c1
    show hxn xs n yp_m272 7 [(0, .inr (.inl 86)), (1, .inl x1)] [.inl 0] m Q
    refine hx_if .eq 20 (by decide +kernel) (fun c2 => ?_) (fun c2 => ?_)
    · have c2 : (0 : Int) = 0 := c2
      refine hx_blk (npc := 22) (L' := [(0, .inr (.inl 86)), (1, .inl x1)]) (st' := [.inl (-2)]) (m' := m) [((20, .bipush (-2), 2, 0, 0, 0, 0), (0, 0, 0))] (by decide +kernel) rfl ?_
      exact hx_reti (by decide +kernel) (h3 c1)
    · have c2 : (0 : Int) ≠ 0 := c2
      exfalso; omega

/-- sold from 0 on -/
theorem ht242 {xs : List Int32} {n : Nat} {Q : hQ} {m : gx_M} {x1 x2 x3 : Int}
    (h1 : (1 ≤ x1 ∧ x1 ≤ 6) → (x1 ≤ (m 86 4)) → hxn xs n yp_m242 20 [(0, .inr (.inl 86)), (1, .inl x1), (2, .inl x2), (3, .inl x3)] [] m Q)
    (h2 : (1 ≤ x1 ∧ x1 ≤ 6) → ((m 86 4) < x1) → Q (some (.inl (-1))) m)
    (h3 : (¬ (1 ≤ x1 ∧ x1 ≤ 6)) → Q (some (.inl (-1))) m) : hxn xs (n + 1) yp_m242 0 [(0, .inr (.inl 86)), (1, .inl x1), (2, .inl x2), (3, .inl x3)] [] m Q := by
  refine hx_blks (npc := 4) (L' := [(0, .inr (.inl 86)), (1, .inl x1), (2, .inl x2), (3, .inl x3)]) (st' := [.inl 6, .inl 1, .inl x1]) (m' := m) ((0, .iload_n 1, 1, 0, 0, 0, 0), (0, 0, 0)) [((1, .iconst 1, 1, 0, 0, 0, 0), (0, 0, 0)), ((2, .bipush 6, 2, 0, 0, 0, 0), (0, 0, 0))] (by decide +kernel) rfl ?_
  refine hx_call (E := (4, .invokestatic 108, 3, 162, 0, 6023, 0)) (M' := yp_m162) [.inl x1, .inl 1, .inl 6] [] rfl (by decide +kernel) rfl ⟨rfl, rfl⟩ rfl rfl (hs162 (fun c1 => ?_) (fun c1 => ?_))
  · have c1 : 1 ≤ x1 ∧ x1 ≤ 6 := c1
    show hxn xs n yp_m242 7 [(0, .inr (.inl 86)), (1, .inl x1), (2, .inl x2), (3, .inl x3)] [.inl 1] m Q
    refine hx_if .eq 18 (by decide +kernel) (fun c2 => ?_) (fun c2 => ?_)
    · have c2 : (1 : Int) = 0 := c2
      exfalso; omega
    · have c2 : (1 : Int) ≠ 0 := c2
      refine hx_blk (npc := 15) (L' := [(0, .inr (.inl 86)), (1, .inl x1), (2, .inl x2), (3, .inl x3)]) (st' := [.inl (m 86 4), .inl x1]) (m' := m) [((10, .iload_n 1, 1, 0, 0, 0, 0), (0, 0, 0)), ((11, .aload_n 0, 1, 0, 0, 0, 0), (0, 0, 0)), ((12, .getfield 124, 3, 10, 4, 5117, 0), (0, 86, 0))] (by decide +kernel) rfl ?_
      refine hx_cmp .le 20 (by decide +kernel) (fun c2 => ?_) (fun c2 => ?_)
      · have c2 : x1 ≤ (m 86 4) := c2
        exact hx_pick [0, 1, 2, 3] (h1 c1 c2)
      · have c2 : (m 86 4) < x1 := by have h : ¬ (x1 ≤ (m 86 4)) := c2; omega
        refine hx_blk (npc := 19) (L' := [(0, .inr (.inl 86)), (1, .inl x1), (2, .inl x2), (3, .inl x3)]) (st' := [.inl (-1)]) (m' := m) [((18, .iconst (-1), 1, 0, 0, 0, 0), (0, 0, 0))] (by decide +kernel) rfl ?_
        exact hx_reti (by decide +kernel) (h2 c1 c2)
  · have c1 : ¬ (1 ≤ x1 ∧ x1 ≤ 6) := c1
    show hxn xs n yp_m242 7 [(0, .inr (.inl 86)), (1, .inl x1), (2, .inl x2), (3, .inl x3)] [.inl 0] m Q
    refine hx_if .eq 18 (by decide +kernel) (fun c2 => ?_) (fun c2 => ?_)
    · have c2 : (0 : Int) = 0 := c2
      refine hx_blk (npc := 19) (L' := [(0, .inr (.inl 86)), (1, .inl x1), (2, .inl x2), (3, .inl x3)]) (st' := [.inl (-1)]) (m' := m) [((18, .iconst (-1), 1, 0, 0, 0, 0), (0, 0, 0))] (by decide +kernel) rfl ?_
      exact hx_reti (by decide +kernel) (h3 c1)
    · have c2 : (0 : Int) ≠ 0 := c2
      exfalso; omega

/-- inOrder from 0 on -/
theorem ht213 {xs : List Int32} {n : Nat} {Q : hQ} {m : gx_M} {x1 x2 : Int}
    (h1 : (1 ≤ x1 ∧ x1 ≤ 160) → (x1 ≤ (m 86 4)) → hxn xs n yp_m213 21 [(0, .inr (.inl 86)), (1, .inl x1), (2, .inl x2)] [] m Q)
    (h2 : (1 ≤ x1 ∧ x1 ≤ 160) → ((m 86 4) < x1) → Q (some (.inl (-1))) m)
    (h3 : (¬ (1 ≤ x1 ∧ x1 ≤ 160)) → Q (some (.inl (-1))) m) : hxn xs (n + 1) yp_m213 0 [(0, .inr (.inl 86)), (1, .inl x1), (2, .inl x2)] [] m Q := by
  refine hx_blks (npc := 5) (L' := [(0, .inr (.inl 86)), (1, .inl x1), (2, .inl x2)]) (st' := [.inl 160, .inl 1, .inl x1]) (m' := m) ((0, .iload_n 1, 1, 0, 0, 0, 0), (0, 0, 0)) [((1, .iconst 1, 1, 0, 0, 0, 0), (0, 0, 0)), ((2, .sipush 160, 3, 0, 0, 0, 0), (0, 0, 0))] (by decide +kernel) rfl ?_
  refine hx_call (E := (5, .invokestatic 108, 3, 162, 0, 6023, 0)) (M' := yp_m162) [.inl x1, .inl 1, .inl 160] [] rfl (by decide +kernel) rfl ⟨rfl, rfl⟩ rfl rfl (hs162 (fun c1 => ?_) (fun c1 => ?_))
  · have c1 : 1 ≤ x1 ∧ x1 ≤ 160 := c1
    show hxn xs n yp_m213 8 [(0, .inr (.inl 86)), (1, .inl x1), (2, .inl x2)] [.inl 1] m Q
    refine hx_if .eq 19 (by decide +kernel) (fun c2 => ?_) (fun c2 => ?_)
    · have c2 : (1 : Int) = 0 := c2
      exfalso; omega
    · have c2 : (1 : Int) ≠ 0 := c2
      refine hx_blk (npc := 16) (L' := [(0, .inr (.inl 86)), (1, .inl x1), (2, .inl x2)]) (st' := [.inl (m 86 4), .inl x1]) (m' := m) [((11, .iload_n 1, 1, 0, 0, 0, 0), (0, 0, 0)), ((12, .aload_n 0, 1, 0, 0, 0, 0), (0, 0, 0)), ((13, .getfield 124, 3, 10, 4, 5117, 0), (0, 86, 0))] (by decide +kernel) rfl ?_
      refine hx_cmp .le 21 (by decide +kernel) (fun c2 => ?_) (fun c2 => ?_)
      · have c2 : x1 ≤ (m 86 4) := c2
        exact hx_pick [0, 1, 2] (h1 c1 c2)
      · have c2 : (m 86 4) < x1 := by have h : ¬ (x1 ≤ (m 86 4)) := c2; omega
        refine hx_blk (npc := 20) (L' := [(0, .inr (.inl 86)), (1, .inl x1), (2, .inl x2)]) (st' := [.inl (-1)]) (m' := m) [((19, .iconst (-1), 1, 0, 0, 0, 0), (0, 0, 0))] (by decide +kernel) rfl ?_
        exact hx_reti (by decide +kernel) (h2 c1 c2)
  · have c1 : ¬ (1 ≤ x1 ∧ x1 ≤ 160) := c1
    show hxn xs n yp_m213 8 [(0, .inr (.inl 86)), (1, .inl x1), (2, .inl x2)] [.inl 0] m Q
    refine hx_if .eq 19 (by decide +kernel) (fun c2 => ?_) (fun c2 => ?_)
    · have c2 : (0 : Int) = 0 := c2
      refine hx_blk (npc := 20) (L' := [(0, .inr (.inl 86)), (1, .inl x1), (2, .inl x2)]) (st' := [.inl (-1)]) (m' := m) [((19, .iconst (-1), 1, 0, 0, 0, 0), (0, 0, 0))] (by decide +kernel) rfl ?_
      exact hx_reti (by decide +kernel) (h3 c1)
    · have c2 : (0 : Int) ≠ 0 := c2
      exfalso; omega

/-- feed from 0 on -/
theorem hr20_0 {xs : List Int32} {n : Nat} {Q : hQ} {m : gx_M} {x1 x2 x3 x4 x5 : Int}
    (h1 : ((gx_w ((m 1 1) + 20)) ≤ 260) → hxn xs n yp_m21 0 [(0, .inr (.inl 1)), (1, .inl x1)] [] m (fun r m' => hxn xs n yp_m20 26 [(0, .inr (.inl 0)), (2, .inl x2), (3, .inl x3), (4, .inl x4), (5, .inl x5)] (hrs r ++ []) m' Q))
    (h2 : (260 < (gx_w ((m 1 1) + 20))) → Q (some (.inl (-1))) m) : hxn xs (n + 1) yp_m20 0 [(0, .inr (.inl 0)), (1, .inl x1), (2, .inl x2), (3, .inl x3), (4, .inl x4), (5, .inl x5)] [] m Q := by
  refine hx_blks (npc := 13) (L' := [(0, .inr (.inl 0)), (1, .inl x1), (2, .inl x2), (3, .inl x3), (4, .inl x4), (5, .inl x5)]) (st' := [.inl 260, .inl (gx_w ((m 1 1) + 20))]) (m' := m) ((0, .aload_n 0, 1, 0, 0, 0, 0), (0, 0, 0)) [((1, .getfield 10, 3, 9, 0, 2119, 0), (1, 0, 1)), ((4, .getfield 117, 3, 0, 1, 1035, 0), (0, 1, 0)), ((7, .bipush 20, 2, 0, 0, 0, 0), (0, 0, 0)), ((9, .iadd, 1, 0, 0, 0, 0), (0, 0, 0)), ((10, .sipush 260, 3, 0, 0, 0, 0), (0, 0, 0))] (by decide +kernel) rfl ?_
  refine hx_cmp .le 18 (by decide +kernel) (fun c1 => ?_) (fun c1 => ?_)
  · have c1 : (gx_w ((m 1 1) + 20)) ≤ 260 := c1
    refine hx_blk (npc := 23) (L' := [(0, .inr (.inl 0)), (1, .inl x1), (2, .inl x2), (3, .inl x3), (4, .inl x4), (5, .inl x5)]) (st' := [.inl x1, .inr (.inl 1)]) (m' := m) [((18, .aload_n 0, 1, 0, 0, 0, 0), (0, 0, 0)), ((19, .getfield 10, 3, 9, 0, 2119, 0), (1, 0, 1)), ((22, .iload_n 1, 1, 0, 0, 0, 0), (0, 0, 0))] (by decide +kernel) rfl ?_
    exact hx_call (E := (23, .invokevirtual 120, 3, 21, 0, 2204, 0)) (M' := yp_m21) [.inr (.inl 1), .inl x1] [] rfl (by decide +kernel) rfl ⟨rfl, rfl⟩ rfl rfl (hx_mono (h1 c1) (fun r m' h' => hx_pick [0, 2, 3, 4, 5] h'))
  · have c1 : 260 < (gx_w ((m 1 1) + 20)) := by have h : ¬ ((gx_w ((m 1 1) + 20)) ≤ 260) := c1; omega
    refine hx_blk (npc := 17) (L' := [(0, .inr (.inl 0)), (1, .inl x1), (2, .inl x2), (3, .inl x3), (4, .inl x4), (5, .inl x5)]) (st' := [.inl (-1)]) (m' := m) [((16, .iconst (-1), 1, 0, 0, 0, 0), (0, 0, 0))] (by decide +kernel) rfl ?_
    exact hx_reti (by decide +kernel) (h2 c1)

/-- feed from 26 on -/
theorem hr20_26 {xs : List Int32} {n : Nat} {Q : hQ} {m : gx_M} {x2 x3 x4 x5 : Int}
    (h1 : hxn xs n yp_m21 0 [(0, .inr (.inl 1)), (1, .inl x2)] [] m (fun r m' => hxn xs n yp_m20 34 [(0, .inr (.inl 0)), (3, .inl x3), (4, .inl x4), (5, .inl x5)] (hrs r ++ []) m' Q)) : hxn xs (n + 1) yp_m20 26 [(0, .inr (.inl 0)), (2, .inl x2), (3, .inl x3), (4, .inl x4), (5, .inl x5)] [] m Q := by
  refine hx_blks (npc := 31) (L' := [(0, .inr (.inl 0)), (2, .inl x2), (3, .inl x3), (4, .inl x4), (5, .inl x5)]) (st' := [.inl x2, .inr (.inl 1)]) (m' := m) ((26, .aload_n 0, 1, 0, 0, 0, 0), (0, 0, 0)) [((27, .getfield 10, 3, 9, 0, 2119, 0), (1, 0, 1)), ((30, .iload_n 2, 1, 0, 0, 0, 0), (0, 0, 0))] (by decide +kernel) rfl ?_
  exact hx_call (E := (31, .invokevirtual 120, 3, 21, 0, 2204, 0)) (M' := yp_m21) [.inr (.inl 1), .inl x2] [] rfl (by decide +kernel) rfl ⟨rfl, rfl⟩ rfl rfl (hx_mono h1 (fun r m' h' => hx_pick [0, 3, 4, 5] h'))

/-- feed from 34 on -/
theorem hr20_34 {xs : List Int32} {n : Nat} {Q : hQ} {m : gx_M} {x3 x4 x5 : Int}
    (h1 : hxn xs n yp_m21 0 [(0, .inr (.inl 1)), (1, .inl x3)] [] m (fun r m' => hxn xs n yp_m20 42 [(0, .inr (.inl 0)), (4, .inl x4), (5, .inl x5)] (hrs r ++ []) m' Q)) : hxn xs (n + 1) yp_m20 34 [(0, .inr (.inl 0)), (3, .inl x3), (4, .inl x4), (5, .inl x5)] [] m Q := by
  refine hx_blks (npc := 39) (L' := [(0, .inr (.inl 0)), (3, .inl x3), (4, .inl x4), (5, .inl x5)]) (st' := [.inl x3, .inr (.inl 1)]) (m' := m) ((34, .aload_n 0, 1, 0, 0, 0, 0), (0, 0, 0)) [((35, .getfield 10, 3, 9, 0, 2119, 0), (1, 0, 1)), ((38, .iload_n 3, 1, 0, 0, 0, 0), (0, 0, 0))] (by decide +kernel) rfl ?_
  exact hx_call (E := (39, .invokevirtual 120, 3, 21, 0, 2204, 0)) (M' := yp_m21) [.inr (.inl 1), .inl x3] [] rfl (by decide +kernel) rfl ⟨rfl, rfl⟩ rfl rfl (hx_mono h1 (fun r m' h' => hx_pick [0, 4, 5] h'))

/-- feed from 42 on -/
theorem hr20_42 {xs : List Int32} {n : Nat} {Q : hQ} {m : gx_M} {x4 x5 : Int}
    (h1 : hxn xs n yp_m21 0 [(0, .inr (.inl 1)), (1, .inl x4)] [] m (fun r m' => hxn xs n yp_m20 51 [(0, .inr (.inl 0)), (5, .inl x5)] (hrs r ++ []) m' Q)) : hxn xs (n + 1) yp_m20 42 [(0, .inr (.inl 0)), (4, .inl x4), (5, .inl x5)] [] m Q := by
  refine hx_blks (npc := 48) (L' := [(0, .inr (.inl 0)), (4, .inl x4), (5, .inl x5)]) (st' := [.inl x4, .inr (.inl 1)]) (m' := m) ((42, .aload_n 0, 1, 0, 0, 0, 0), (0, 0, 0)) [((43, .getfield 10, 3, 9, 0, 2119, 0), (1, 0, 1)), ((46, .iload 4, 2, 0, 0, 0, 0), (0, 0, 0))] (by decide +kernel) rfl ?_
  exact hx_call (E := (48, .invokevirtual 120, 3, 21, 0, 2204, 0)) (M' := yp_m21) [.inr (.inl 1), .inl x4] [] rfl (by decide +kernel) rfl ⟨rfl, rfl⟩ rfl rfl (hx_mono h1 (fun r m' h' => hx_pick [0, 5] h'))

/-- feed from 51 on -/
theorem hr20_51 {xs : List Int32} {n : Nat} {Q : hQ} {m : gx_M} {x5 : Int}
    (h1 : hxn xs n yp_m21 0 [(0, .inr (.inl 1)), (1, .inl x5)] [] m (fun r m' => hxn xs n yp_m20 60 [(0, .inr (.inl 0))] (hrs r ++ []) m' Q)) : hxn xs (n + 1) yp_m20 51 [(0, .inr (.inl 0)), (5, .inl x5)] [] m Q := by
  refine hx_blks (npc := 57) (L' := [(0, .inr (.inl 0)), (5, .inl x5)]) (st' := [.inl x5, .inr (.inl 1)]) (m' := m) ((51, .aload_n 0, 1, 0, 0, 0, 0), (0, 0, 0)) [((52, .getfield 10, 3, 9, 0, 2119, 0), (1, 0, 1)), ((55, .iload 5, 2, 0, 0, 0, 0), (0, 0, 0))] (by decide +kernel) rfl ?_
  exact hx_call (E := (57, .invokevirtual 120, 3, 21, 0, 2204, 0)) (M' := yp_m21) [.inr (.inl 1), .inl x5] [] rfl (by decide +kernel) rfl ⟨rfl, rfl⟩ rfl rfl (hx_mono h1 (fun r m' h' => hx_pick [0] h'))

/-- feed from 60 on -/
theorem hr20_60 {xs : List Int32} {n : Nat} {Q : hQ} {m : gx_M}
    (h1 : Q (some (.inl (m 1 1))) m) : hxn xs (n + 1) yp_m20 60 [(0, .inr (.inl 0))] [] m Q := by
  refine hx_blks (npc := 67) (L' := [(0, .inr (.inl 0))]) (st' := [.inl (m 1 1)]) (m' := m) ((60, .aload_n 0, 1, 0, 0, 0, 0), (0, 0, 0)) [((61, .getfield 10, 3, 9, 0, 2119, 0), (1, 0, 1)), ((64, .getfield 117, 3, 0, 1, 1035, 0), (0, 1, 0))] (by decide +kernel) rfl ?_
  exact hx_reti (by decide +kernel) h1

/-- put from 0 on -/
theorem hr21_0 {xs : List Int32} {n : Nat} {Q : hQ} {m : gx_M} {x1 : Int}
    (h1 : hxn xs n yp_m21 3 [(0, .inr (.inl 1)), (1, .inl x1), (2, .inl 24)] [] m Q) : hxn xs (n + 1) yp_m21 0 [(0, .inr (.inl 1)), (1, .inl x1)] [] m Q := by
  refine hx_blks (npc := 3) (L' := [(0, .inr (.inl 1)), (1, .inl x1), (2, .inl 24)]) (st' := []) (m' := m) ((0, .bipush 24, 2, 0, 0, 0, 0), (0, 0, 0)) [((2, .istore_n 2, 1, 0, 0, 0, 0), (0, 0, 0))] (by decide +kernel) rfl ?_
  exact hx_pick [0, 1, 2] h1

/-- put from 3 on -/
theorem hr21_3 {xs : List Int32} {n : Nat} {Q : hQ} {m : gx_M} {x1 x2 : Int} (r_x2 : (-8) ≤ x2 ∧ x2 ≤ 24)
    (h1 : (x2 < 0) → Q none m)
    (h2 : (0 ≤ x2) → ((m 1 1) < 0) → hxn xs n yp_m21 3 [(0, .inr (.inl 1)), (1, .inl x1), (2, .inl (x2 + (-8)))] [] m Q)
    (h3 : (0 ≤ x2) → (0 ≤ (m 1 1)) → (260 ≤ (m 1 1)) → hxn xs n yp_m21 3 [(0, .inr (.inl 1)), (1, .inl x1), (2, .inl (x2 + (-8)))] [] m Q)
    (h4 : (0 ≤ x2) → (0 ≤ (m 1 1)) → ((m 1 1) < 260) → hxn xs n yp_m21 3 [(0, .inr (.inl 1)), (1, .inl x1), (2, .inl (x2 + (-8)))] [] (gx_u (gx_u m 1 1 ((m 1 1) + 1)) 2 (m 1 1).toNat (gx_and (hushr x1 x2) 255)) Q) : hxn xs (n + 1) yp_m21 3 [(0, .inr (.inl 1)), (1, .inl x1), (2, .inl x2)] [] m Q := by
  refine hx_blks (npc := 4) (L' := [(0, .inr (.inl 1)), (1, .inl x1), (2, .inl x2)]) (st' := [.inl x2]) (m' := m) ((3, .iload_n 2, 1, 0, 0, 0, 0), (0, 0, 0)) [] (by decide +kernel) rfl ?_
  refine hx_if .lt 53 (by decide +kernel) (fun c1 => ?_) (fun c1 => ?_)
  · have c1 : x2 < 0 := c1
    exact hx_ret0 (by decide +kernel) (h1 c1)
  · have c1 : 0 ≤ x2 := by have h : ¬ (x2 < 0) := c1; omega
    refine hx_blk (npc := 11) (L' := [(0, .inr (.inl 1)), (1, .inl x1), (2, .inl x2)]) (st' := [.inl (m 1 1)]) (m' := m) [((7, .aload_n 0, 1, 0, 0, 0, 0), (0, 0, 0)), ((8, .getfield 15, 3, 0, 1, 1033, 0), (0, 1, 0))] (by decide +kernel) rfl ?_
    refine hx_if .lt 47 (by decide +kernel) (fun c2 => ?_) (fun c2 => ?_)
    · have c2 : (m 1 1) < 0 := c2
      have e1 : gx_w (x2 + (-8)) = x2 + (-8) := gx_w_id (by omega) (by omega)
      refine hx_blk (npc := 3) (L' := [(0, .inr (.inl 1)), (1, .inl x1), (2, .inl (gx_w (x2 + (-8))))]) (st' := []) (m' := m) [((47, .iinc 2 (-8), 3, 0, 0, 0, 0), (0, 0, 0)), ((50, .goto (-47), 3, 0, 0, 0, 0), (0, 0, 0))] (by decide +kernel) rfl ?_
      rw [e1]
      exact hx_pick [0, 1, 2] (h2 c1 c2)
    · have c2 : 0 ≤ (m 1 1) := by have h : ¬ ((m 1 1) < 0) := c2; omega
      refine hx_blk (npc := 21) (L' := [(0, .inr (.inl 1)), (1, .inl x1), (2, .inl x2)]) (st' := [.inl 260, .inl (m 1 1)]) (m' := m) [((14, .aload_n 0, 1, 0, 0, 0, 0), (0, 0, 0)), ((15, .getfield 15, 3, 0, 1, 1033, 0), (0, 1, 0)), ((18, .sipush 260, 3, 0, 0, 0, 0), (0, 0, 0))] (by decide +kernel) rfl ?_
      refine hx_cmp .ge 47 (by decide +kernel) (fun c3 => ?_) (fun c3 => ?_)
      · have c3 : 260 ≤ (m 1 1) := c3
        have e2 : gx_w (x2 + (-8)) = x2 + (-8) := gx_w_id (by omega) (by omega)
        refine hx_blk (npc := 3) (L' := [(0, .inr (.inl 1)), (1, .inl x1), (2, .inl (gx_w (x2 + (-8))))]) (st' := []) (m' := m) [((47, .iinc 2 (-8), 3, 0, 0, 0, 0), (0, 0, 0)), ((50, .goto (-47), 3, 0, 0, 0, 0), (0, 0, 0))] (by decide +kernel) rfl ?_
        rw [e2]
        exact hx_pick [0, 1, 2] (h3 c1 c2 c3)
      · have c3 : (m 1 1) < 260 := by have h : ¬ (260 ≤ (m 1 1)) := c3; omega
        have e3 : gx_w ((m 1 1) + 1) = (m 1 1) + 1 := gx_w_id (by omega) (by omega)
        have f4 := gx_and_bd (hushr x1 x2) 255 (by decide)
        have e5 : gx_w (x2 + (-8)) = x2 + (-8) := gx_w_id (by omega) (by omega)
        refine hx_blk (npc := 3) (L' := [(0, .inr (.inl 1)), (1, .inl x1), (2, .inl (gx_w (x2 + (-8))))]) (st' := []) (m' := (gx_u (gx_u m 1 1 (gx_w ((m 1 1) + 1))) 2 (m 1 1).toNat (gx_and (hushr x1 x2) 255))) [((24, .aload_n 0, 1, 0, 0, 0, 0), (0, 0, 0)), ((25, .getfield 9, 3, 0, 0, 1031, 0), (1, 1, 2)), ((28, .aload_n 0, 1, 0, 0, 0, 0), (0, 0, 0)), ((29, .dup, 1, 0, 0, 0, 0), (0, 0, 0)), ((30, .getfield 15, 3, 0, 1, 1033, 0), (0, 1, 0)), ((33, .dup_x1, 1, 0, 0, 0, 0), (0, 0, 0)), ((34, .iconst 1, 1, 0, 0, 0, 0), (0, 0, 0)), ((35, .iadd, 1, 0, 0, 0, 0), (0, 0, 0)), ((36, .putfield 15, 3, 0, 1, 1033, 0), (0, 1, 0)), ((39, .iload_n 1, 1, 0, 0, 0, 0), (0, 0, 0)), ((40, .iload_n 2, 1, 0, 0, 0, 0), (0, 0, 0)), ((41, .iushr, 1, 0, 0, 0, 0), (0, 0, 0)), ((42, .sipush 255, 3, 0, 0, 0, 0), (0, 0, 0)), ((45, .iand, 1, 0, 0, 0, 0), (0, 0, 0)), ((46, .iastore, 1, 0, 0, 0, 0), (0, 2, 0)), ((47, .iinc 2 (-8), 3, 0, 0, 0, 0), (0, 0, 0)), ((50, .goto (-47), 3, 0, 0, 0, 0), (0, 0, 0))] (by decide +kernel) rfl ?_
        rw [e3, e5]
        exact hx_pick [0, 1, 2] (h4 c1 c2 c3)

/-- feed from 0 on -/
theorem hr166_0 {xs : List Int32} {n : Nat} {Q : hQ} {m : gx_M} {x1 x2 x3 x4 x5 : Int}
    (h1 : ((gx_w ((m 86 4) + 20)) ≤ 260) → hxn xs n yp_m167 0 [(0, .inr (.inl 86)), (1, .inl x1)] [] m (fun r m' => hxn xs n yp_m166 20 [(0, .inr (.inl 86)), (2, .inl x2), (3, .inl x3), (4, .inl x4), (5, .inl x5)] (hrs r ++ []) m' Q))
    (h2 : (260 < (gx_w ((m 86 4) + 20))) → Q (some (.inl (-1))) m) : hxn xs (n + 1) yp_m166 0 [(0, .inr (.inl 86)), (1, .inl x1), (2, .inl x2), (3, .inl x3), (4, .inl x4), (5, .inl x5)] [] m Q := by
  refine hx_blks (npc := 10) (L' := [(0, .inr (.inl 86)), (1, .inl x1), (2, .inl x2), (3, .inl x3), (4, .inl x4), (5, .inl x5)]) (st' := [.inl 260, .inl (gx_w ((m 86 4) + 20))]) (m' := m) ((0, .aload_n 0, 1, 0, 0, 0, 0), (0, 0, 0)) [((1, .getfield 124, 3, 10, 4, 5117, 0), (0, 86, 0)), ((4, .bipush 20, 2, 0, 0, 0, 0), (0, 0, 0)), ((6, .iadd, 1, 0, 0, 0, 0), (0, 0, 0)), ((7, .sipush 260, 3, 0, 0, 0, 0), (0, 0, 0))] (by decide +kernel) rfl ?_
  refine hx_cmp .le 15 (by decide +kernel) (fun c1 => ?_) (fun c1 => ?_)
  · have c1 : (gx_w ((m 86 4) + 20)) ≤ 260 := c1
    refine hx_blk (npc := 17) (L' := [(0, .inr (.inl 86)), (1, .inl x1), (2, .inl x2), (3, .inl x3), (4, .inl x4), (5, .inl x5)]) (st' := [.inl x1, .inr (.inl 86)]) (m' := m) [((15, .aload_n 0, 1, 0, 0, 0, 0), (0, 0, 0)), ((16, .iload_n 1, 1, 0, 0, 0, 0), (0, 0, 0))] (by decide +kernel) rfl ?_
    exact hx_call (E := (17, .invokevirtual 128, 3, 167, 0, 6042, 0)) (M' := yp_m167) [.inr (.inl 86), .inl x1] [] rfl (by decide +kernel) rfl ⟨rfl, rfl⟩ rfl rfl (hx_mono (h1 c1) (fun r m' h' => hx_pick [0, 2, 3, 4, 5] h'))
  · have c1 : 260 < (gx_w ((m 86 4) + 20)) := by have h : ¬ ((gx_w ((m 86 4) + 20)) ≤ 260) := c1; omega
    refine hx_blk (npc := 14) (L' := [(0, .inr (.inl 86)), (1, .inl x1), (2, .inl x2), (3, .inl x3), (4, .inl x4), (5, .inl x5)]) (st' := [.inl (-1)]) (m' := m) [((13, .iconst (-1), 1, 0, 0, 0, 0), (0, 0, 0))] (by decide +kernel) rfl ?_
    exact hx_reti (by decide +kernel) (h2 c1)

/-- feed from 20 on -/
theorem hr166_20 {xs : List Int32} {n : Nat} {Q : hQ} {m : gx_M} {x2 x3 x4 x5 : Int}
    (h1 : hxn xs n yp_m167 0 [(0, .inr (.inl 86)), (1, .inl x2)] [] m (fun r m' => hxn xs n yp_m166 25 [(0, .inr (.inl 86)), (3, .inl x3), (4, .inl x4), (5, .inl x5)] (hrs r ++ []) m' Q)) : hxn xs (n + 1) yp_m166 20 [(0, .inr (.inl 86)), (2, .inl x2), (3, .inl x3), (4, .inl x4), (5, .inl x5)] [] m Q := by
  refine hx_blks (npc := 22) (L' := [(0, .inr (.inl 86)), (2, .inl x2), (3, .inl x3), (4, .inl x4), (5, .inl x5)]) (st' := [.inl x2, .inr (.inl 86)]) (m' := m) ((20, .aload_n 0, 1, 0, 0, 0, 0), (0, 0, 0)) [((21, .iload_n 2, 1, 0, 0, 0, 0), (0, 0, 0))] (by decide +kernel) rfl ?_
  exact hx_call (E := (22, .invokevirtual 128, 3, 167, 0, 6042, 0)) (M' := yp_m167) [.inr (.inl 86), .inl x2] [] rfl (by decide +kernel) rfl ⟨rfl, rfl⟩ rfl rfl (hx_mono h1 (fun r m' h' => hx_pick [0, 3, 4, 5] h'))

/-- feed from 25 on -/
theorem hr166_25 {xs : List Int32} {n : Nat} {Q : hQ} {m : gx_M} {x3 x4 x5 : Int}
    (h1 : hxn xs n yp_m167 0 [(0, .inr (.inl 86)), (1, .inl x3)] [] m (fun r m' => hxn xs n yp_m166 30 [(0, .inr (.inl 86)), (4, .inl x4), (5, .inl x5)] (hrs r ++ []) m' Q)) : hxn xs (n + 1) yp_m166 25 [(0, .inr (.inl 86)), (3, .inl x3), (4, .inl x4), (5, .inl x5)] [] m Q := by
  refine hx_blks (npc := 27) (L' := [(0, .inr (.inl 86)), (3, .inl x3), (4, .inl x4), (5, .inl x5)]) (st' := [.inl x3, .inr (.inl 86)]) (m' := m) ((25, .aload_n 0, 1, 0, 0, 0, 0), (0, 0, 0)) [((26, .iload_n 3, 1, 0, 0, 0, 0), (0, 0, 0))] (by decide +kernel) rfl ?_
  exact hx_call (E := (27, .invokevirtual 128, 3, 167, 0, 6042, 0)) (M' := yp_m167) [.inr (.inl 86), .inl x3] [] rfl (by decide +kernel) rfl ⟨rfl, rfl⟩ rfl rfl (hx_mono h1 (fun r m' h' => hx_pick [0, 4, 5] h'))

/-- feed from 30 on -/
theorem hr166_30 {xs : List Int32} {n : Nat} {Q : hQ} {m : gx_M} {x4 x5 : Int}
    (h1 : hxn xs n yp_m167 0 [(0, .inr (.inl 86)), (1, .inl x4)] [] m (fun r m' => hxn xs n yp_m166 36 [(0, .inr (.inl 86)), (5, .inl x5)] (hrs r ++ []) m' Q)) : hxn xs (n + 1) yp_m166 30 [(0, .inr (.inl 86)), (4, .inl x4), (5, .inl x5)] [] m Q := by
  refine hx_blks (npc := 33) (L' := [(0, .inr (.inl 86)), (4, .inl x4), (5, .inl x5)]) (st' := [.inl x4, .inr (.inl 86)]) (m' := m) ((30, .aload_n 0, 1, 0, 0, 0, 0), (0, 0, 0)) [((31, .iload 4, 2, 0, 0, 0, 0), (0, 0, 0))] (by decide +kernel) rfl ?_
  exact hx_call (E := (33, .invokevirtual 128, 3, 167, 0, 6042, 0)) (M' := yp_m167) [.inr (.inl 86), .inl x4] [] rfl (by decide +kernel) rfl ⟨rfl, rfl⟩ rfl rfl (hx_mono h1 (fun r m' h' => hx_pick [0, 5] h'))

/-- feed from 36 on -/
theorem hr166_36 {xs : List Int32} {n : Nat} {Q : hQ} {m : gx_M} {x5 : Int}
    (h1 : hxn xs n yp_m167 0 [(0, .inr (.inl 86)), (1, .inl x5)] [] m (fun r m' => hxn xs n yp_m166 42 [(0, .inr (.inl 86))] (hrs r ++ []) m' Q)) : hxn xs (n + 1) yp_m166 36 [(0, .inr (.inl 86)), (5, .inl x5)] [] m Q := by
  refine hx_blks (npc := 39) (L' := [(0, .inr (.inl 86)), (5, .inl x5)]) (st' := [.inl x5, .inr (.inl 86)]) (m' := m) ((36, .aload_n 0, 1, 0, 0, 0, 0), (0, 0, 0)) [((37, .iload 5, 2, 0, 0, 0, 0), (0, 0, 0))] (by decide +kernel) rfl ?_
  exact hx_call (E := (39, .invokevirtual 128, 3, 167, 0, 6042, 0)) (M' := yp_m167) [.inr (.inl 86), .inl x5] [] rfl (by decide +kernel) rfl ⟨rfl, rfl⟩ rfl rfl (hx_mono h1 (fun r m' h' => hx_pick [0] h'))

/-- feed from 42 on -/
theorem hr166_42 {xs : List Int32} {n : Nat} {Q : hQ} {m : gx_M}
    (h1 : Q (some (.inl (m 86 4))) m) : hxn xs (n + 1) yp_m166 42 [(0, .inr (.inl 86))] [] m Q := by
  refine hx_blks (npc := 46) (L' := [(0, .inr (.inl 86))]) (st' := [.inl (m 86 4)]) (m' := m) ((42, .aload_n 0, 1, 0, 0, 0, 0), (0, 0, 0)) [((43, .getfield 124, 3, 10, 4, 5117, 0), (0, 86, 0))] (by decide +kernel) rfl ?_
  exact hx_reti (by decide +kernel) h1

/-- types from 0 on -/
theorem hr167_0 {xs : List Int32} {n : Nat} {Q : hQ} {m : gx_M} {x1 : Int}
    (h1 : hxn xs n yp_m167 2 [(0, .inr (.inl 86)), (1, .inl x1), (2, .inl 3)] [] m Q) : hxn xs (n + 1) yp_m167 0 [(0, .inr (.inl 86)), (1, .inl x1)] [] m Q := by
  refine hx_blks (npc := 2) (L' := [(0, .inr (.inl 86)), (1, .inl x1), (2, .inl 3)]) (st' := []) (m' := m) ((0, .iconst 3, 1, 0, 0, 0, 0), (0, 0, 0)) [((1, .istore_n 2, 1, 0, 0, 0, 0), (0, 0, 0))] (by decide +kernel) rfl ?_
  exact hx_pick [0, 1, 2] h1

/-- types from 2 on -/
theorem hr167_2 {xs : List Int32} {n : Nat} {Q : hQ} {m : gx_M} {x1 x2 : Int} (r_x2 : (-1) ≤ x2 ∧ x2 ≤ 3)
    (h1 : (x2 < 0) → Q none m)
    (h2 : (0 ≤ x2) → hxn xs n yp_m167 2 [(0, .inr (.inl 86)), (1, .inl x1), (2, .inl (x2 + (-1)))] [] (gx_u (gx_u m 90 (m 86 4).toNat (hbyte (hi2b (gx_shr x1 (8 * x2))))) 86 4 (gx_w ((m 86 4) + 1))) Q) : hxn xs (n + 1) yp_m167 2 [(0, .inr (.inl 86)), (1, .inl x1), (2, .inl x2)] [] m Q := by
  refine hx_blks (npc := 3) (L' := [(0, .inr (.inl 86)), (1, .inl x1), (2, .inl x2)]) (st' := [.inl x2]) (m' := m) ((2, .iload_n 2, 1, 0, 0, 0, 0), (0, 0, 0)) [] (by decide +kernel) rfl ?_
  refine hx_if .lt 38 (by decide +kernel) (fun c1 => ?_) (fun c1 => ?_)
  · have c1 : x2 < 0 := c1
    exact hx_ret0 (by decide +kernel) (h1 c1)
  · have c1 : 0 ≤ x2 := by have h : ¬ (x2 < 0) := c1; omega
    have e1 : gx_w (8 * x2) = 8 * x2 := gx_w_id (by omega) (by omega)
    have e2 : gx_w (x2 + (-1)) = x2 + (-1) := gx_w_id (by omega) (by omega)
    refine hx_blk (npc := 2) (L' := [(0, .inr (.inl 86)), (1, .inl x1), (2, .inl (gx_w (x2 + (-1))))]) (st' := []) (m' := (gx_u (gx_u m 90 (m 86 4).toNat (hbyte (hi2b (gx_shr x1 (gx_w (8 * x2)))))) 86 4 (gx_w ((m 86 4) + 1)))) [((6, .aload_n 0, 1, 0, 0, 0, 0), (0, 0, 0)), ((7, .getfield 19, 3, 10, 3, 5116, 0), (1, 86, 90)), ((10, .aload_n 0, 1, 0, 0, 0, 0), (0, 0, 0)), ((11, .getfield 124, 3, 10, 4, 5117, 0), (0, 86, 0)), ((14, .iload_n 1, 1, 0, 0, 0, 0), (0, 0, 0)), ((15, .bipush 8, 2, 0, 0, 0, 0), (0, 0, 0)), ((17, .iload_n 2, 1, 0, 0, 0, 0), (0, 0, 0)), ((18, .imul, 1, 0, 0, 0, 0), (0, 0, 0)), ((19, .ishr, 1, 0, 0, 0, 0), (0, 0, 0)), ((20, .i2b, 1, 0, 0, 0, 0), (0, 0, 0)), ((21, .bastore, 1, 0, 0, 0, 0), (0, 90, 0)), ((22, .aload_n 0, 1, 0, 0, 0, 0), (0, 0, 0)), ((23, .aload_n 0, 1, 0, 0, 0, 0), (0, 0, 0)), ((24, .getfield 124, 3, 10, 4, 5117, 0), (0, 86, 0)), ((27, .iconst 1, 1, 0, 0, 0, 0), (0, 0, 0)), ((28, .iadd, 1, 0, 0, 0, 0), (0, 0, 0)), ((29, .putfield 124, 3, 10, 4, 5117, 0), (0, 86, 0)), ((32, .iinc 2 (-1), 3, 0, 0, 0, 0), (0, 0, 0)), ((35, .goto (-33), 3, 0, 0, 0, 0), (0, 0, 0))] (by decide +kernel) rfl ?_
    rw [e1, e2]
    exact hx_pick [0, 1, 2] (h2 c1)
end
section
/-! the tape: the ways of those that take from it -/
section HZ
variable {xs : List Int32} {a1 a2 a3 : Int}
theorem hz48 (H : bw_H xs (gx_XW gx_X)) (b1 : hB a1) : ∀ n m, hJ gx_X m → hxn xs n yp_m48 0 [(0, .inr (.inl 0)), (1, .inl a1)] [] m (fun _ m1 => ((1 ≤ a1 ∧ a1 ≤ 160 ∧ a1 ≤ (m 1 1)) → m1 1 1 = 0) ∧ (¬ (1 ≤ a1 ∧ a1 ≤ 160 ∧ a1 ≤ (m 1 1)) → m1 1 1 = (m 1 1))) := by
  intro n m j
  exact hx_dn (ht48 (fun c0 => hx_Kp gx_X_c (bh_48 H) rfl (by decide) rfl ⟨⟨by decide, rfl, rfl⟩, ⟨rfl, by dsimp only; omega, by dsimp only; omega⟩, trivial⟩ j (fun v m1 e => ⟨fun _ => e, fun nc => absurd (c0) nc⟩)) (fun c0 => ⟨fun yc => absurd yc (c0), fun _ => rfl⟩))
theorem hz70 (H : bw_H xs (gx_XW gx_X)) (b1 : hB a1) : ∀ n m, hJ gx_X m → hxn xs n yp_m70 0 [(0, .inr (.inl 0)), (1, .inl a1)] [] m (fun _ m1 => ((1 ≤ a1 ∧ a1 ≤ 160 ∧ a1 ≤ (m 1 1)) → m1 1 1 = 0) ∧ (¬ (1 ≤ a1 ∧ a1 ≤ 160 ∧ a1 ≤ (m 1 1)) → m1 1 1 = (m 1 1))) := by
  intro n m j
  exact hx_dn (ht70 (fun c0 => hx_Kp gx_X_c (bh_70 H) rfl (by decide) rfl ⟨⟨by decide, rfl, rfl⟩, ⟨rfl, by dsimp only; omega, by dsimp only; omega⟩, trivial⟩ j (fun v m1 e => ⟨fun _ => e, fun nc => absurd (c0) nc⟩)) (fun c0 => ⟨fun yc => absurd yc (c0), fun _ => rfl⟩))
theorem hz107 (H : bw_H xs (gx_XW gx_X)) (b1 : hB a1) (b2 : hB a2) (b3 : hB a3) : ∀ n m, hJ gx_X m → hxn xs n yp_m107 0 [(0, .inr (.inl 0)), (1, .inl a1), (2, .inl a2), (3, .inl a3)] [] m (fun _ m1 => ((1 ≤ a1 ∧ a1 ≤ 6 ∧ a1 ≤ (m 1 1)) → m1 1 1 = 0) ∧ (¬ (1 ≤ a1 ∧ a1 ≤ 6 ∧ a1 ≤ (m 1 1)) → m1 1 1 = (m 1 1))) := by
  intro n m j
  exact hx_dn (ht107 (fun c0 => hx_Kp gx_X_c (bh_107 H) rfl (by decide) rfl ⟨⟨by decide, rfl, rfl⟩, ⟨rfl, by dsimp only; omega, by dsimp only; omega⟩, ⟨rfl, b2⟩, ⟨rfl, b3⟩, trivial⟩ j (fun v m1 e => ⟨fun _ => e, fun nc => absurd (c0) nc⟩)) (fun c0 => ⟨fun yc => absurd yc (c0), fun _ => rfl⟩))
theorem hz120 (H : bw_H xs (gx_XW gx_X)) (b1 : hB a1) (b2 : hB a2) : ∀ n m, hJ gx_X m → hxn xs n yp_m120 0 [(0, .inr (.inl 0)), (1, .inl a1), (2, .inl a2)] [] m (fun _ m1 => ((1 ≤ a1 ∧ a1 ≤ 8 ∧ a1 ≤ (m 1 1)) → m1 1 1 = 0) ∧ (¬ (1 ≤ a1 ∧ a1 ≤ 8 ∧ a1 ≤ (m 1 1)) → m1 1 1 = (m 1 1))) := by
  intro n m j
  exact hx_dn (ht120 (fun c0 => hx_Kp gx_X_c (bh_120 H) rfl (by decide) rfl ⟨⟨by decide, rfl, rfl⟩, ⟨rfl, by dsimp only; omega, by dsimp only; omega⟩, ⟨rfl, b2⟩, trivial⟩ j (fun v m1 e => ⟨fun _ => e, fun nc => absurd (c0) nc⟩)) (fun c0 => ⟨fun yc => absurd yc (c0), fun _ => rfl⟩))
theorem hz139 (H : bw_H xs (gx_XW gx_X)) (b1 : hB a1) (b2 : hB a2) : ∀ n m, hJ gx_X m → hxn xs n yp_m139 0 [(0, .inr (.inl 0)), (1, .inl a1), (2, .inl a2)] [] m (fun _ m1 => ((1 ≤ a1 ∧ a1 ≤ 160 ∧ a1 ≤ (m 1 1)) → m1 1 1 = 0) ∧ (¬ (1 ≤ a1 ∧ a1 ≤ 160 ∧ a1 ≤ (m 1 1)) → m1 1 1 = (m 1 1))) := by
  intro n m j
  exact hx_dn (ht139 (fun c0 => hx_Kp gx_X_c (bh_139 H) rfl (by decide) rfl ⟨⟨by decide, rfl, rfl⟩, ⟨rfl, by dsimp only; omega, by dsimp only; omega⟩, ⟨rfl, b2⟩, trivial⟩ j (fun v m1 e => ⟨fun _ => e, fun nc => absurd (c0) nc⟩)) (fun c0 => ⟨fun yc => absurd yc (c0), fun _ => rfl⟩))
theorem hz156 (H : bw_H xs (gx_XW gx_X)) (b1 : hB a1) : ∀ n m, hJ gx_X m → hxn xs n yp_m156 0 [(0, .inr (.inl 0)), (1, .inl a1)] [] m (fun _ m1 => ((0 ≤ a1 ∧ a1 ≤ 40 ∧ 4 * a1 ≤ (m 1 1)) → m1 1 1 = 0) ∧ (¬ (0 ≤ a1 ∧ a1 ≤ 40 ∧ 4 * a1 ≤ (m 1 1)) → m1 1 1 = (m 1 1))) := by
  intro n m j
  have hb : hB a1 := b1
  unfold hB at hb
  refine hx_dn (ht156 (fun _ => ?_) (fun _ _ => ?_) (fun _ _ _ => ?_) (fun _ _ _ => ?_))
  all_goals first
    | exact ⟨fun c => by omega, fun _ => rfl⟩
    | exact hx_Kp gx_X_c (bh_156 H) rfl (by decide) rfl ⟨⟨by decide, rfl, rfl⟩, ⟨rfl, by dsimp only; omega, by dsimp only; omega⟩, trivial⟩ j (fun v m1 e => ⟨fun _ => e, fun nc => absurd (by omega) nc⟩)
theorem hz190 (H : bw_H xs (gx_XW gx_X)) (b1 : hB a1) : ∀ n m, hJ gx_X m → hxn xs n yp_m190 0 [(0, .inr (.inl 86)), (1, .inl a1)] [] m (fun _ m1 => ((1 ≤ a1 ∧ a1 ≤ 160 ∧ a1 ≤ (m 86 4)) → m1 86 4 = 0) ∧ (¬ (1 ≤ a1 ∧ a1 ≤ 160 ∧ a1 ≤ (m 86 4)) → m1 86 4 = (m 86 4))) := by
  intro n m j
  refine hx_dn (ht190 (fun c1 c2 => ?_) (fun c1 c2 => ?_) (fun c1 => ?_))
  all_goals first
    | exact ⟨fun c => by omega, fun _ => rfl⟩
    | exact hx_Kp gx_X_c (bh_190 H) rfl (by decide) rfl ⟨⟨by decide, rfl, rfl⟩, ⟨rfl, by dsimp only; omega, by dsimp only; omega⟩, trivial⟩ j (fun v m1 e => ⟨fun _ => e, fun nc => absurd (by omega) nc⟩)
theorem hz211 (H : bw_H xs (gx_XW gx_X)) (b1 : hB a1) : ∀ n m, hJ gx_X m → hxn xs n yp_m211 0 [(0, .inr (.inl 86)), (1, .inl a1)] [] m (fun _ m1 => ((1 ≤ a1 ∧ a1 ≤ 160 ∧ a1 ≤ (m 86 4)) → m1 86 4 = 0) ∧ (¬ (1 ≤ a1 ∧ a1 ≤ 160 ∧ a1 ≤ (m 86 4)) → m1 86 4 = (m 86 4))) := by
  intro n m j
  refine hx_dn (ht211 (fun c1 c2 => ?_) (fun c1 c2 => ?_) (fun c1 => ?_))
  all_goals first
    | exact ⟨fun c => by omega, fun _ => rfl⟩
    | exact hx_Kp gx_X_c (bh_211 H) rfl (by decide) rfl ⟨⟨by decide, rfl, rfl⟩, ⟨rfl, by dsimp only; omega, by dsimp only; omega⟩, trivial⟩ j (fun v m1 e => ⟨fun _ => e, fun nc => absurd (by omega) nc⟩)
theorem hz248 (H : bw_H xs (gx_XW gx_X)) (b1 : hB a1) (b2 : hB a2) : ∀ n m, hJ gx_X m → hxn xs n yp_m248 0 [(0, .inr (.inl 86)), (1, .inl a1), (2, .inl a2)] [] m (fun _ m1 => ((1 ≤ a1 ∧ a1 ≤ 8 ∧ a1 ≤ (m 86 4)) → m1 86 4 = 0) ∧ (¬ (1 ≤ a1 ∧ a1 ≤ 8 ∧ a1 ≤ (m 86 4)) → m1 86 4 = (m 86 4))) := by
  intro n m j
  refine hx_dn (ht248 (fun c1 c2 => ?_) (fun c1 c2 => ?_) (fun c1 => ?_))
  all_goals first
    | exact ⟨fun c => by omega, fun _ => rfl⟩
    | exact hx_Kp gx_X_c (bh_248 H) rfl (by decide) rfl ⟨⟨by decide, rfl, rfl⟩, ⟨rfl, by dsimp only; omega, by dsimp only; omega⟩, ⟨rfl, b2⟩, trivial⟩ j (fun v m1 e => ⟨fun _ => e, fun nc => absurd (by omega) nc⟩)
theorem hz272 (H : bw_H xs (gx_XW gx_X)) (b1 : hB a1) : ∀ n m, hJ gx_X m → hxn xs n yp_m272 0 [(0, .inr (.inl 86)), (1, .inl a1)] [] m (fun _ m1 => ((0 ≤ a1 ∧ a1 ≤ 40 ∧ 4 * a1 ≤ (m 86 4)) → m1 86 4 = 0) ∧ (¬ (0 ≤ a1 ∧ a1 ≤ 40 ∧ 4 * a1 ≤ (m 86 4)) → m1 86 4 = (m 86 4))) := by
  intro n m j
  have hc : 0 ≤ m 86 4 ∧ m 86 4 ≤ 260 := ⟨(j.1 86 10 _ 4 0 260 rfl rfl).1, (j.1 86 10 _ 4 0 260 rfl rfl).2⟩
  have ht : gx_w (Int.tdiv (m 86 4) 4) = m 86 4 / 4 := by
    rw [Int.tdiv_eq_ediv_of_nonneg (by omega), gx_w_id (by omega) (by omega)]
  refine hx_dn (ht272 (fun c1 c2 => ?_) (fun c1 c2 => ?_) (fun c1 => ?_))
  all_goals (try rw [ht] at c2)
  all_goals first
    | exact ⟨fun c => by omega, fun _ => rfl⟩
    | exact hx_Kp gx_X_c (bh_272 H) rfl (by decide) rfl ⟨⟨by decide, rfl, rfl⟩, ⟨rfl, by dsimp only; omega, by dsimp only; omega⟩, trivial⟩ j (fun v m1 e => ⟨fun _ => e, fun nc => absurd (by omega) nc⟩)
theorem hz242 (H : bw_H xs (gx_XW gx_X)) (b1 : hB a1) (b2 : hB a2) (b3 : hB a3) : ∀ n m, hJ gx_X m → hxn xs n yp_m242 0 [(0, .inr (.inl 86)), (1, .inl a1), (2, .inl a2), (3, .inl a3)] [] m (fun _ m1 => ((1 ≤ a1 ∧ a1 ≤ 6 ∧ a1 ≤ (m 86 4)) → m1 86 4 = 0) ∧ (¬ (1 ≤ a1 ∧ a1 ≤ 6 ∧ a1 ≤ (m 86 4)) → m1 86 4 = (m 86 4))) := by
  intro n m j
  refine hx_dn (ht242 (fun c1 c2 => ?_) (fun c1 c2 => ?_) (fun c1 => ?_))
  all_goals first
    | exact ⟨fun c => by omega, fun _ => rfl⟩
    | exact hx_Kp gx_X_c (gk_fsold ⟨H.1, H.2.1⟩) rfl (by decide) rfl ⟨⟨by decide, rfl, rfl⟩, ⟨rfl, by dsimp only; omega, by dsimp only; omega⟩, ⟨rfl, b2⟩, ⟨rfl, b3⟩, trivial⟩ j (fun v m1 e => ⟨fun _ => e, fun nc => absurd (by omega) nc⟩)
theorem hz213 (H : bw_H xs (gx_XW gx_X)) (b1 : hB a1) (b2 : hB a2) : ∀ n m, hJ gx_X m → hxn xs n yp_m213 0 [(0, .inr (.inl 86)), (1, .inl a1), (2, .inl a2)] [] m (fun _ m1 => ((1 ≤ a1 ∧ a1 ≤ 160 ∧ a1 ≤ (m 86 4)) → m1 86 4 = 0) ∧ (¬ (1 ≤ a1 ∧ a1 ≤ 160 ∧ a1 ≤ (m 86 4)) → m1 86 4 = (m 86 4))) := by
  intro n m j
  refine hx_dn (ht213 (fun c1 c2 => ?_) (fun c1 c2 => ?_) (fun c1 => ?_))
  all_goals first
    | exact ⟨fun c => by omega, fun _ => rfl⟩
    | exact hx_Kp gx_X_c (gk_forder ⟨H.1, H.2.1⟩) rfl (by decide) rfl ⟨⟨by decide, rfl, rfl⟩, ⟨rfl, by dsimp only; omega, by dsimp only; omega⟩, ⟨rfl, b2⟩, trivial⟩ j (fun v m1 e => ⟨fun _ => e, fun nc => absurd (by omega) nc⟩)
end HZ
end
section
/-! feed -/
section FD
variable {xs : List Int32} {n : Nat} {Q : hQ} {m : gx_M}
theorem hl21 {v : Int} {c : Nat} (h260 : c + 4 ≤ 260) (h : ∀ m', m' 1 1 = ((c + 4 : Nat) : Int) → (∀ i, i < 4 → m' 2 (c + i) = tb4 v i) → (∀ d k, ¬ (d = 1 ∧ k = 1) → ¬ (d = 2 ∧ c ≤ k ∧ k < c + 4) → m' d k = m d k) → Q none m') : ∀ e i : Nat, i + e = 4 → ∀ m', m' 1 1 = ((c + i : Nat) : Int) → (∀ j, j < i → m' 2 (c + j) = tb4 v j) → (∀ d k, ¬ (d = 1 ∧ k = 1) → ¬ (d = 2 ∧ c ≤ k ∧ k < c + 4) → m' d k = m d k) → hxn xs n yp_m21 3 [(0, .inr (.inl 1)), (1, .inl v), (2, .inl (24 - 8 * (i : Int)))] [] m' Q := by
  intro e
  induction e with
  | zero =>
    intro i hi m' h1 h2 h3
    have e : i = 4 := by omega
    subst e
    exact hx_dn (hr21_3 (by omega) (fun _ => h m' h1 h2 h3) (fun c => absurd c (by omega)) (fun c => absurd c (by omega)) (fun c => absurd c (by omega)))
  | succ e ih =>
    intro i hi m' h1 h2 h3
    refine hx_dn (hr21_3 (by omega) (fun c => absurd c (by omega)) (fun _ c => absurd c (by omega)) (fun _ _ c => absurd c (by omega)) (fun _ _ _ => ?_))
    have e1 : 24 - 8 * (i : Int) + (-8) = 24 - 8 * ((i + 1 : Nat) : Int) := by omega
    have e2 : 24 - 8 * (i : Int) = ((24 - 8 * i : Nat) : Int) := by omega
    have e3 : gx_and (hushr v (24 - 8 * (i : Int))) 255 = tb4 v i := by
      unfold tb4
      rw [e2]
    rw [e3, e1, h1, Int.toNat_natCast]
    refine ih (i + 1) (by omega) _ ?_ (fun j hj => ?_) (fun d k a b => ?_)
    · rw [gx_u_ne (by omega), gx_u_self]
      omega
    · by_cases e : j = i
      · rw [e, gx_u_self]
      · rw [gx_u_ne (by omega), gx_u_ne (by omega)]
        exact h2 j (by omega)
    · rw [gx_u_ne (by omega), gx_u_ne (by omega)]
      exact h3 d k a b
theorem hl167 {v : Int} (hv : hB v) {c : Nat} (h260 : c + 4 ≤ 260) (h : ∀ m', m' 86 4 = ((c + 4 : Nat) : Int) → (∀ i, i < 4 → gx_and (m' 90 (c + i)) 255 = tb4 v i) → (∀ d k, ¬ (d = 86 ∧ k = 4) → ¬ (d = 90 ∧ c ≤ k ∧ k < c + 4) → m' d k = m d k) → Q none m') : ∀ e i : Nat, i + e = 4 → ∀ m', m' 86 4 = ((c + i : Nat) : Int) → (∀ j, j < i → gx_and (m' 90 (c + j)) 255 = tb4 v j) → (∀ d k, ¬ (d = 86 ∧ k = 4) → ¬ (d = 90 ∧ c ≤ k ∧ k < c + 4) → m' d k = m d k) → hxn xs n yp_m167 2 [(0, .inr (.inl 86)), (1, .inl v), (2, .inl (3 - (i : Int)))] [] m' Q := by
  intro e
  induction e with
  | zero =>
    intro i hi m' h1 h2 h3
    have e : i = 4 := by omega
    subst e
    exact hx_dn (hr167_2 (by omega) (fun _ => h m' h1 h2 h3) (fun c => absurd c (by omega)))
  | succ e ih =>
    intro i hi m' h1 h2 h3
    refine hx_dn (hr167_2 (by omega) (fun c => absurd c (by omega)) (fun _ => ?_))
    have e1 : 3 - (i : Int) + (-1) = 3 - ((i + 1 : Nat) : Int) := by omega
    have e2 : 8 * (3 - (i : Int)) = ((24 - 8 * i : Nat) : Int) := by omega
    have e3 := tb_same hv (i := i) (by omega)
    rw [e2, e1, h1, Int.toNat_natCast, gx_w_id (by omega) (by omega)]
    refine ih (i + 1) (by omega) _ ?_ (fun j hj => ?_) (fun d k a b => ?_)
    · rw [gx_u_self]
      omega
    · by_cases e : j = i
      · rw [e, gx_u_ne (by omega), gx_u_self]
        exact e3
      · rw [gx_u_ne (by omega), gx_u_ne (by omega)]
        exact h2 j (by omega)
    · rw [gx_u_ne (by omega), gx_u_ne (by omega)]
      exact h3 d k a b
/-- the twenty bytes -/
def fxv (x1 x2 x3 x4 x5 : Int) (q : Nat) : Int := if q = 0 then x1 else if q = 1 then x2 else if q = 2 then x3 else if q = 3 then x4 else x5
def fB (X : Nat → Int) (j : Nat) : Int := tb4 (X (j / 4)) (j % 4)
def fPc (X : Nat → Int) (c : Nat) (m : gx_M) (q : Nat) (m' : gx_M) : Prop := m' 1 1 = ((c + 4 * q : Nat) : Int) ∧ (∀ j, j < 4 * q → m' 2 (c + j) = fB X j) ∧ ∀ d k, ¬ (d = 1 ∧ k = 1) → ¬ (d = 2 ∧ c ≤ k ∧ k < c + 20) → m' d k = m d k
def fPr (X : Nat → Int) (c : Nat) (m : gx_M) (q : Nat) (m' : gx_M) : Prop := m' 86 4 = ((c + 4 * q : Nat) : Int) ∧ (∀ j, j < 4 * q → gx_and (m' 90 (c + j)) 255 = fB X j) ∧ ∀ d k, ¬ (d = 86 ∧ k = 4) → ¬ (d = 90 ∧ c ≤ k ∧ k < c + 20) → m' d k = m d k
theorem fPc_s {X : Nat → Int} {c q : Nat} {m0 : gx_M} (hc : c + 20 ≤ 260) (hq : q < 5) (hP : fPc X c m0 q m) (h : ∀ m', fPc X c m0 (q + 1) m' → Q none m') : hxn xs n yp_m21 0 [(0, .inr (.inl 1)), (1, .inl (X q))] [] m Q := by
  obtain ⟨p1, p2, p3⟩ := hP
  refine hx_dn (hr21_0 ?_)
  refine hl21 (c := c + 4 * q) (m := m) (by omega) (fun m' h1 h2 h3 => h m' ⟨by rw [h1]; omega, fun j hj => ?_, fun d k a b => ?_⟩) 4 0 rfl m p1 (fun j hj => absurd hj (by omega)) (fun _ _ _ _ => rfl)
  · by_cases e : j < 4 * q
    · rw [h3 2 (c + j) (by omega) (by omega)]
      exact p2 j e
    · have h4 := h2 (j - 4 * q) (by omega)
      have e1 : c + 4 * q + (j - 4 * q) = c + j := by omega
      have e2 : j / 4 = q := by omega
      have e3 : j % 4 = j - 4 * q := by omega
      rw [e1] at h4
      rw [h4]
      unfold fB
      rw [e2, e3]
  · rw [h3 d k a (by omega)]
    exact p3 d k a b
theorem fPr_s {X : Nat → Int} {c q : Nat} {m0 : gx_M} (hX : hB (X q)) (hc : c + 20 ≤ 260) (hq : q < 5) (hP : fPr X c m0 q m) (h : ∀ m', fPr X c m0 (q + 1) m' → Q none m') : hxn xs n yp_m167 0 [(0, .inr (.inl 86)), (1, .inl (X q))] [] m Q := by
  obtain ⟨p1, p2, p3⟩ := hP
  refine hx_dn (hr167_0 ?_)
  refine hl167 hX (c := c + 4 * q) (m := m) (by omega) (fun m' h1 h2 h3 => h m' ⟨by rw [h1]; omega, fun j hj => ?_, fun d k a b => ?_⟩) 4 0 rfl m p1 (fun j hj => absurd hj (by omega)) (fun _ _ _ _ => rfl)
  · by_cases e : j < 4 * q
    · rw [h3 90 (c + j) (by omega) (by omega)]
      exact p2 j e
    · have h4 := h2 (j - 4 * q) (by omega)
      have e1 : c + 4 * q + (j - 4 * q) = c + j := by omega
      have e2 : j / 4 = q := by omega
      have e3 : j % 4 = j - 4 * q := by omega
      rw [e1] at h4
      rw [h4]
      unfold fB
      rw [e2, e3]
  · rw [h3 d k a (by omega)]
    exact p3 d k a b
theorem hw_feed {x1 x2 x3 x4 x5 : Int} (b1 : hB x1) (b2 : hB x2) (b3 : hB x3) (b4 : hB x4) (b5 : hB x5) (hR : hTp m) : hxn xs n yp_m20 0 [(0, .inr (.inl 0)), (1, .inl x1), (2, .inl x2), (3, .inl x3), (4, .inl x4), (5, .inl x5)] [] m (fun r1 m1 => ∃ v, r1 = some (.inl v) ∧ hxn xs n yp_m166 0 [(0, .inr (.inl 86)), (1, .inl x1), (2, .inl x2), (3, .inl x3), (4, .inl x4), (5, .inl x5)] [] m1 (fun r2 m2 => r2 = some (.inl v) ∧ hTp m2)) := by
  obtain ⟨h1, h2, h3, h4⟩ := hR
  obtain ⟨c, hc⟩ : ∃ c : Nat, m 1 1 = (c : Int) := ⟨(m 1 1).toNat, by omega⟩
  have hc2 : m 86 4 = (c : Int) := by rw [← h3]; exact hc
  have ew : gx_w (m 1 1 + 20) = m 1 1 + 20 := gx_w_id (by omega) (by omega)
  refine hx_dn (hr20_0 (fun g => ?_) (fun g => ?_))
  · rw [ew] at g
    have h20 : c + 20 ≤ 260 := by omega
    obtain ⟨X, hX⟩ : ∃ X, X = fxv x1 x2 x3 x4 x5 := ⟨_, rfl⟩
    have X0 : X 0 = x1 := by rw [hX]; rfl
    have X1 : X 1 = x2 := by rw [hX]; rfl
    have X2 : X 2 = x3 := by rw [hX]; rfl
    have X3 : X 3 = x4 := by rw [hX]; rfl
    have X4 : X 4 = x5 := by rw [hX]; rfl
    rw [← X0, ← X1, ← X2, ← X3, ← X4]
    refine fPc_s (m0 := m) h20 (by decide) ⟨by rw [hc]; rfl, fun j hj => absurd hj (by omega), fun _ _ _ _ => rfl⟩ (fun m1 p1 => ?_)
    refine hx_dn (hr20_26 (fPc_s h20 (by decide) p1 (fun m2 p2 => ?_)))
    refine hx_dn (hr20_34 (fPc_s h20 (by decide) p2 (fun m3 p3 => ?_)))
    refine hx_dn (hr20_42 (fPc_s h20 (by decide) p3 (fun m4 p4 => ?_)))
    refine hx_dn (hr20_51 (fPc_s h20 (by decide) p4 (fun m5 p5 => ?_)))
    obtain ⟨u1, u2, u3⟩ := p5
    refine hx_dn (hr20_60 ⟨_, rfl, ?_⟩)
    have hc5 : m5 86 4 = (c : Int) := by rw [u3 86 4 (by omega) (by omega)]; exact hc2
    have ew5 : gx_w (m5 86 4 + 20) = m5 86 4 + 20 := gx_w_id (by omega) (by omega)
    refine hx_dn (hr166_0 (fun _ => ?_) (fun g => absurd g (by rw [ew5]; omega)))
    refine fPr_s (m0 := m5) (by rw [X0]; exact b1) h20 (by decide) ⟨by rw [hc5]; rfl, fun j hj => absurd hj (by omega), fun _ _ _ _ => rfl⟩ (fun n1 q1 => ?_)
    refine hx_dn (hr166_20 (fPr_s (by rw [X1]; exact b2) h20 (by decide) q1 (fun n2 q2 => ?_)))
    refine hx_dn (hr166_25 (fPr_s (by rw [X2]; exact b3) h20 (by decide) q2 (fun n3 q3 => ?_)))
    refine hx_dn (hr166_30 (fPr_s (by rw [X3]; exact b4) h20 (by decide) q3 (fun n4 q4 => ?_)))
    refine hx_dn (hr166_36 (fPr_s (by rw [X4]; exact b5) h20 (by decide) q4 (fun n5 q5 => ?_)))
    obtain ⟨w1, w2, w3⟩ := q5
    have e11 : n5 1 1 = ((c + 4 * 5 : Nat) : Int) := by rw [w3 1 1 (by omega) (by omega)]; exact u1
    refine hx_dn (hr166_42 ⟨by rw [w1, u1], by omega, by omega, by rw [w1, e11], fun k hk => ?_⟩)
    rw [e11] at hk
    by_cases e : k < c
    · rw [w3 90 k (by omega) (by omega), w3 2 k (by omega) (by omega), u3 90 k (by omega) (by omega), u3 2 k (by omega) (by omega)]
      exact h4 k (by omega)
    · have e1 : c + (k - c) = k := by omega
      have a1 := w2 (k - c) (by omega)
      have a2 := u2 (k - c) (by omega)
      rw [e1] at a1 a2
      rw [a1, w3 2 k (by omega) (by omega), a2]
  · rw [ew] at g
    refine ⟨-1, rfl, ?_⟩
    have ew5 : gx_w (m 86 4 + 20) = m 86 4 + 20 := gx_w_id (by omega) (by omega)
    exact hx_dn (hr166_0 (fun g => absurd g (by rw [ew5]; omega)) (fun _ => ⟨rfl, h1, h2, h3, h4⟩))
end FD
end
section
/-! law, by both -/
theorem hw_law {xs : List Int32} {n : Nat} {m : gx_M} {a : Int} (hR : hTp m) : hxn xs n yp_m22 0 [(0, .inr (.inl 0)), (1, .inl a)] [] m (fun r1 m1 => ∃ v, r1 = some (.inl v) ∧ hxn xs n yp_m168 0 [(0, .inr (.inl 86)), (1, .inl a)] [] m1 (fun r2 m2 => r2 = some (.inl v) ∧ hTp m2)) := by
  have hR' := hR
  obtain ⟨h1, h2, h3, h4⟩ := hR
  by_cases hN : 1 ≤ a ∧ a ≤ 240 ∧ a ≤ m 1 1
  · obtain ⟨N, rfl⟩ : ∃ N : Nat, a = (N : Int) := ⟨a.toNat, by omega⟩
    refine c22 (by omega) hN.2.2 (fun K CL m1 ok lw z f => ?_) (fun f m1 wr z fl => ?_)
    · have e4 : m1 86 4 = m 86 4 := f 86 4 (by decide) (by decide) (by decide) (by decide) (by decide) (by decide) (by omega) (by decide) (by decide) (by decide) (by decide) (by decide) (by decide) (by decide) (by decide) (by decide) (by omega)
      refine ⟨_, rfl, r168T (T := m 2) (by omega) (by omega) (fun k hk => ?_) ok (fun m2 lw2 z2 g => ⟨rfl, ?_⟩)⟩
      · rw [f 90 k (by decide) (by decide) (by decide) (by decide) (by decide) (by decide) (by omega) (by decide) (by decide) (by decide) (by decide) (by decide) (by decide) (by decide) (by decide) (by decide) (by omega)]
        exact h4 k (by omega)
      · have e1 : m2 1 1 = 0 := by
          rw [g.1 1 1 (by decide) (by decide) (by decide) (by decide) (by decide) (by decide) (by decide) (by decide) (by decide) (by decide) (by decide) (by decide)]
          exact z
        exact ⟨by omega, by omega, by omega, fun k hk => absurd hk (by omega)⟩
    · have e4 : m1 86 4 = m 86 4 := fl 86 4 (by decide) (by decide) (by decide) (by decide) (by decide) (by decide) (by decide) (by decide) (by decide) (by omega)
      refine ⟨_, rfl, r168F (T := m 2) (by omega) (by omega) (fun k hk => ?_) wr (fun m2 z2 g => ⟨rfl, ?_⟩)⟩
      · rw [fl 90 k (by decide) (by decide) (by decide) (by decide) (by decide) (by decide) (by decide) (by decide) (by decide) (by omega)]
        exact h4 k (by omega)
      · have e1 : m2 1 1 = 0 := by
          rw [g.1 1 1 (by decide) (by decide) (by decide) (by decide) (by decide) (by decide) (by decide)]
          exact z
        exact ⟨by omega, by omega, by omega, fun k hk => absurd hk (by omega)⟩
  · exact c22n hN ⟨-1, rfl, r168n (by rw [← h3]; exact hN) ⟨rfl, hR'⟩⟩
end
