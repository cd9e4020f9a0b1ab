/-! numbers by intervals -/
theorem ax_lo (x : Int32) : -2147483648 ≤ x.toInt := by have := Int32.le_toInt x; omega
theorem ax_hi (x : Int32) : x.toInt ≤ 2147483647 := by have := Int32.toInt_lt x; omega
theorem ax_loL (x : Int64) : -9223372036854775808 ≤ x.toInt := by have := Int64.le_toInt x; omega
theorem ax_hiL (x : Int64) : x.toInt ≤ 9223372036854775807 := by have := Int64.toInt_lt x; omega
theorem ax_top_ok {xs : List Int32} (x : Int32) : ax_g xs ax_top (.int x) := ⟨x, rfl, ax_lo x, ax_hi x⟩
theorem ax_topL_ok {xs : List Int32} (x : Int64) : ax_g xs ax_topL (.long x) := ⟨x, rfl, ax_loL x, ax_hiL x⟩
theorem ax_bm {t : Int} (h1 : -2147483648 ≤ t) (h2 : t ≤ 2147483647) : t.bmod (2 ^ 32) = t := by
  rw [Int.bmod_def]
  split <;> omega
theorem ax_rg_ok {xs : List Int32} {t l h : Int} {x : Int32} (hx : x.toInt = t.bmod (2 ^ 32)) (h1 : l ≤ t) (h2 : t ≤ h) : ax_g xs (ax_rg l h) (.int x) := by
  unfold ax_rg
  by_cases hr : -2147483648 ≤ l ∧ h ≤ 2147483647
  · rw [if_pos hr]
    rw [ax_bm (by omega) (by omega)] at hx
    exact ⟨x, rfl, by rw [hx]; exact h1, by rw [hx]; exact h2⟩
  · rw [if_neg hr]
    exact ax_top_ok x
theorem ax_one (x : Int32) {p : Int × Int} (h1 : p.1 ≤ x.toInt) (h2 : x.toInt ≤ p.2) (h : p.1 = p.2) : x = Int32.ofInt p.1 := by
  have e : x.toInt = p.1 := by omega
  rw [← e, Int32.ofInt_toInt]
theorem ax_oneL (x : Int64) {l h : Int} (h1 : l ≤ x.toInt) (h2 : x.toInt ≤ h) (hh : l = h) : x = Int64.ofInt l := by
  have e : x.toInt = l := by omega
  rw [← e, Int64.ofInt_toInt]
/-- an operation of the reader is one of numbers -/
def ax_okI (xs : List Int32) (g : ax_N → ax_V → ax_V → Option ax_V) (f : Int32 → Int32 → Option Int32) : Prop := ∀ (env : ax_N) (a b r : ax_V) (v u : Value), ax_env xs env → ax_g xs a v → ax_g xs b u → g env a b = some r → ∃ x y z : Int32, v = .int x ∧ u = .int y ∧ f x y = some z ∧ ax_g xs r (.int z)
theorem ax_two {xs : List Int32} {env : ax_N} {a b r : ax_V} {v u : Value} {k : Int × Int → Int × Int → Option ax_V} (he : ax_env xs env) (ha : ax_g xs a v) (hb : ax_g xs b u) (h : (match ax_iv env a, ax_iv env b with | some p, some q => k p q | _, _ => none) = some r) : ∃ (x y : Int32) (p q : Int × Int), v = .int x ∧ u = .int y ∧ p.1 ≤ x.toInt ∧ x.toInt ≤ p.2 ∧ q.1 ≤ y.toInt ∧ y.toInt ≤ q.2 ∧ k p q = some r ∧ ax_iv env a = some p ∧ ax_iv env b = some q := by
  split at h
  · rename_i p q hp hq
    obtain ⟨x, e1, h1, h2⟩ := ax_iv_ok he ha hp
    obtain ⟨y, e2, h3, h4⟩ := ax_iv_ok he hb hq
    exact ⟨x, y, p, q, e1, e2, h1, h2, h3, h4, h, hp, hq⟩
  · cases h
theorem ax_ex_ok {xs : List Int32} {f : Int32 → Int32 → Option Int32} {p q : Int × Int} {r : ax_V} {x y : Int32} (h : ax_ex f p q = some r) (h1 : p.1 ≤ x.toInt) (h2 : x.toInt ≤ p.2) (h3 : q.1 ≤ y.toInt) (h4 : y.toInt ≤ q.2) : ∃ z, f x y = some z ∧ ax_g xs r (.int z) := by
  unfold ax_ex at h
  by_cases hp : p.1 = p.2 ∧ q.1 = q.2
  · rw [if_pos hp, ← ax_one x h1 h2 hp.1, ← ax_one y h3 h4 hp.2] at h
    cases hf : f x y with
    | none => rw [hf] at h; cases h
    | some z => rw [hf] at h; cases h; exact ⟨z, rfl, z, rfl, Int.le_refl _, Int.le_refl _⟩
  · rw [if_neg hp] at h; cases h
theorem ax_or_ok {xs : List Int32} {f : Int32 → Int32 → Option Int32} {p q : Int × Int} {r : ax_V} {o : Option ax_V} {x y : Int32} (h : (ax_ex f p q).or o = some r) (h1 : p.1 ≤ x.toInt) (h2 : x.toInt ≤ p.2) (h3 : q.1 ≤ y.toInt) (h4 : y.toInt ≤ q.2) (ho : o = some r → ∃ z, f x y = some z ∧ ax_g xs r (.int z)) : ∃ z, f x y = some z ∧ ax_g xs r (.int z) := by
  cases he : ax_ex f p q with
  | none => rw [he] at h; exact ho h
  | some r' =>
    rw [he] at h
    have e : r' = r := by simpa using h
    subst e
    exact ax_ex_ok he h1 h2 h3 h4
theorem ax_top_or {xs : List Int32} {z : Int32} {r : ax_V} (h : some ax_top = some r) : ax_g xs r (.int z) := by cases h; exact ax_top_ok z
theorem ax_iadd_ok (xs : List Int32) : ax_okI xs ax_iadd (fun x y => some (x + y)) := fun env a b r v u he ha hb h => by
  obtain ⟨x, y, p, q, e1, e2, h1, h2, h3, h4, hk, -⟩ := ax_two he ha hb h
  cases hk
  exact ⟨x, y, _, e1, e2, rfl, ax_rg_ok (Int32.toInt_add x y) (by omega) (by omega)⟩
theorem ax_isub_ok (xs : List Int32) : ax_okI xs ax_isub (fun x y => some (x - y)) := fun env a b r v u he ha hb h => by
  obtain ⟨x, y, p, q, e1, e2, h1, h2, h3, h4, hk, -⟩ := ax_two he ha hb h
  cases hk
  exact ⟨x, y, _, e1, e2, rfl, ax_rg_ok (Int32.toInt_sub x y) (by omega) (by omega)⟩
theorem ax_imul_ok (xs : List Int32) : ax_okI xs ax_imul (fun x y => some (x * y)) := fun env a b r v u he ha hb h => by
  obtain ⟨x, y, p, q, e1, e2, h1, h2, h3, h4, hk, -⟩ := ax_two he ha hb h
  refine ⟨x, y, _, e1, e2, rfl, ?_⟩
  by_cases hp : 0 ≤ p.1 ∧ 0 ≤ q.1
  · rw [if_pos hp] at hk
    cases hk
    exact ax_rg_ok (Int32.toInt_mul x y) (Int.mul_le_mul h1 h3 hp.2 (by omega)) (Int.mul_le_mul h2 h4 (by omega) (by omega))
  · rw [if_neg hp] at hk
    obtain ⟨z, hz, hg⟩ := ax_or_ok (xs := xs) (x := x) (y := y) hk h1 h2 h3 h4 (fun h => ⟨_, rfl, ax_top_or h⟩)
    cases hz
    exact hg
theorem ax_and_bd (x y : Int32) (h : 0 ≤ y.toInt) : 0 ≤ (x &&& y).toInt ∧ (x &&& y).toInt ≤ y.toInt := by
  have e1 : (x &&& y).toInt = (x.toBitVec &&& y.toBitVec).toInt := rfl
  have e2 : y.toInt = y.toBitVec.toInt := rfl
  have hl := y.toBitVec.isLt
  have hand : (x.toBitVec &&& y.toBitVec).toNat ≤ y.toBitVec.toNat := by rw [BitVec.toNat_and]; exact Nat.and_le_right
  rw [e2, BitVec.toInt_eq_toNat_cond] at h
  rw [e1, e2, BitVec.toInt_eq_toNat_cond, BitVec.toInt_eq_toNat_cond]
  by_cases hy : 2 * y.toBitVec.toNat < 2 ^ 32
  · rw [if_pos hy, if_pos (by omega)]
    omega
  · rw [if_neg hy] at h
    omega
theorem ax_m1 (x : Int32) : x &&& (-1) = x := by
  apply Int32.toBitVec_inj.mp
  show x.toBitVec &&& (BitVec.allOnes 32) = x.toBitVec
  exact BitVec.and_allOnes
theorem ax_iand_ok (xs : List Int32) : ax_okI xs ax_iand (fun x y => some (x &&& y)) := fun env a b r v u he ha hb h => by
  obtain ⟨x, y, p, q, e1, e2, h1, h2, h3, h4, hk, -⟩ := ax_two he ha hb h
  refine ⟨x, y, _, e1, e2, rfl, ?_⟩
  by_cases hq : q.1 = -1 ∧ q.2 = -1
  · rw [if_pos hq] at hk
    cases hk
    have hy : y = -1 := by
      have := ax_one y h3 h4 (by omega)
      rw [this, hq.1]; rfl
    rw [hy, ax_m1, ← e1]
    exact ha
  · rw [if_neg hq] at hk
    obtain ⟨z, hz, hg⟩ := ax_or_ok (xs := xs) (x := x) (y := y) hk h1 h2 h3 h4 (fun h => by
      refine ⟨_, rfl, ?_⟩
      by_cases hc : q.1 = q.2 ∧ 0 ≤ q.1
      · rw [if_pos hc] at h
        cases h
        have := ax_and_bd x y (by omega)
        exact ⟨_, rfl, this.1, by show _ ≤ q.2; omega⟩
      · rw [if_neg hc] at h
        exact ax_top_or h)
    cases hz
    exact hg
theorem ax_gen_ok (xs : List Int32) (f : Int32 → Int32 → Int32) : ax_okI xs (ax_gen f) (fun x y => some (f x y)) := fun env a b r v u he ha hb h => by
  obtain ⟨x, y, p, q, e1, e2, h1, h2, h3, h4, hk, -⟩ := ax_two he ha hb h
  obtain ⟨z, hz, hg⟩ := ax_or_ok (xs := xs) (x := x) (y := y) hk h1 h2 h3 h4 (fun h => ⟨_, rfl, ax_top_or h⟩)
  exact ⟨x, y, z, e1, e2, hz, hg⟩
theorem ax_ishr_ok (xs : List Int32) : ax_okI xs ax_ishr (fun x y => some (x >>> (y &&& 31))) := fun env a b r v u he ha hb h => by
  obtain ⟨x, y, p, q, e1, e2, h1, h2, h3, h4, hk, -⟩ := ax_two he ha hb h
  by_cases hp : p.1 = 0 ∧ p.2 = 0
  · rw [if_pos hp] at hk
    cases hk
    have hx : x = 0 := by
      have := ax_one x h1 h2 (by omega)
      rw [this, hp.1]; rfl
    refine ⟨x, y, _, e1, e2, rfl, ?_⟩
    rw [hx]
    have e : (0 : Int32) >>> (y &&& 31) = 0 := by
      apply Int32.toBitVec_inj.mp
      show (0#32).sshiftRight' _ = 0#32
      simp [BitVec.sshiftRight']
    rw [e]
    exact ⟨0, rfl, by decide, by decide⟩
  · rw [if_neg hp] at hk
    obtain ⟨z, hz, hg⟩ := ax_or_ok (xs := xs) (x := x) (y := y) hk h1 h2 h3 h4 (fun h => ⟨_, rfl, ax_top_or h⟩)
    exact ⟨x, y, z, e1, e2, hz, hg⟩
theorem ax_quo_ok (xs : List Int32) (f : Int32 → Int32 → Option Int32) (hf : ∀ x y : Int32, ¬ y = 0 → ∃ z, f x y = some z) : ax_okI xs (ax_quo f) f := fun env a b r v u he ha hb h => by
  obtain ⟨x, y, p, q, e1, e2, h1, h2, h3, h4, hk, -⟩ := ax_two he ha hb h
  by_cases hq : 0 < q.1 ∨ q.2 < 0
  · rw [if_pos hq] at hk
    have hy : ¬ y = 0 := fun h => by rw [h, Int32.toInt_zero] at h3 h4; omega
    obtain ⟨z0, hz0⟩ := hf x y hy
    obtain ⟨z, hz, hg⟩ := ax_or_ok (xs := xs) (x := x) (y := y) hk h1 h2 h3 h4 (fun h => ⟨z0, hz0, ax_top_or h⟩)
    exact ⟨x, y, z, e1, e2, hz, hg⟩
  · rw [if_neg hq] at hk; cases hk
theorem ax_g1 {xs : List Int32} {a : ax_V} {v : Value} (h : ax_g xs a v) (ha : a.1 = 1) : ∃ x : Int64, v = .long x ∧ a.2.1 ≤ x.toInt ∧ x.toInt ≤ a.2.2 := by
  obtain ⟨t, l, hh⟩ := a
  dsimp only at ha
  subst ha
  exact h
theorem ax_lex_ok {xs : List Int32} {f : Int64 → Int64 → Int64} {a b r : ax_V} {v u : Value} (ha : ax_g xs a v) (hb : ax_g xs b u) (h : ax_lex f a b = some r) : ∃ x y : Int64, v = .long x ∧ u = .long y ∧ ax_g xs r (.long (f x y)) := by
  unfold ax_lex at h
  by_cases h1 : a.1 = 1 ∧ b.1 = 1
  · rw [if_pos h1] at h
    obtain ⟨x, e1, g1, g2⟩ := ax_g1 ha h1.1
    obtain ⟨y, e2, g3, g4⟩ := ax_g1 hb h1.2
    refine ⟨x, y, e1, e2, ?_⟩
    by_cases h2 : a.2.1 = a.2.2 ∧ b.2.1 = b.2.2
    · rw [if_pos h2, ← ax_oneL x g1 g2 h2.1, ← ax_oneL y g3 g4 h2.2] at h
      cases h
      exact ⟨_, rfl, Int.le_refl _, Int.le_refl _⟩
    · rw [if_neg h2] at h
      cases h
      exact ax_topL_ok _
  · rw [if_neg h1] at h; cases h
theorem ax_lsh_ok {xs : List Int32} {env : ax_N} {f : Int64 → Int32 → Int64} (hf : ∀ y, f 0 y = 0) (he : ax_env xs env) {a b r : ax_V} {v u : Value} (ha : ax_g xs a v) (hb : ax_g xs b u) (h : ax_lsh f env a b = some r) : ∃ (x : Int64) (y : Int32), v = .long x ∧ u = .int y ∧ ax_g xs r (.long (f x y)) := by
  unfold ax_lsh at h
  by_cases h1 : a.1 = 1
  · rw [if_pos h1] at h
    obtain ⟨x, e1, g1, g2⟩ := ax_g1 ha h1
    split at h
    · rename_i q hq
      obtain ⟨y, e2, g3, g4⟩ := ax_iv_ok he hb hq
      refine ⟨x, y, e1, e2, ?_⟩
      by_cases h0 : a.2.1 = 0 ∧ a.2.2 = 0
      · rw [if_pos h0] at h
        cases h
        have hx : x = 0 := by
          have := ax_oneL x g1 g2 (by omega)
          rw [this, h0.1]; rfl
        rw [hx, hf]
        exact ⟨0, rfl, by decide, by decide⟩
      · rw [if_neg h0] at h
        by_cases h2 : a.2.1 = a.2.2 ∧ q.1 = q.2
        · rw [if_pos h2, ← ax_oneL x g1 g2 h2.1, ← ax_one y g3 g4 h2.2] at h
          cases h
          exact ⟨_, rfl, Int.le_refl _, Int.le_refl _⟩
        · rw [if_neg h2] at h
          cases h
          exact ax_topL_ok _
    · cases h
  · rw [if_neg h1] at h; cases h
theorem ax_lshl0 (y : Int32) : (0 : Int64) <<< (y.toInt64 &&& 63) = 0 := by
  apply Int64.toBitVec_inj.mp
  show (0#64) <<< _ = 0#64
  simp
theorem ax_lushr0 (y : Int32) : ((0 : Int64).toUInt64 >>> (y.toInt64.toUInt64 &&& Int64.toUInt64 63)).toInt64 = 0 := by
  apply Int64.toBitVec_inj.mp
  show (0#64) >>> _ = 0#64
  simp
/-! branches -/
theorem ax_upd_ok {xs : List Int32} {env : ax_N} {a : ax_V} {p : Int × Int} {x : Int32} (he : ax_env xs env) (hg : ax_g xs a (.int x)) (h1 : p.1 ≤ x.toInt) (h2 : x.toInt ≤ p.2) : ax_env xs (ax_upd env a p) := by
  unfold ax_upd
  by_cases h4 : a.1 = 4
  · rw [if_pos h4]
    obtain ⟨t, k, z⟩ := a
    dsimp only at h4
    subst h4
    have e : Value.int x = .int (ax_var xs k.toNat) := hg
    injection e with e
    intro i q hq
    by_cases hi : i = k.toNat
    · subst hi
      have hl : k.toNat < env.length := by
        have := (List.getElem?_eq_some_iff.mp hq).1
        rwa [List.length_set] at this
      dsimp only at hq
      rw [List.getElem?_set_self hl] at hq
      cases hq
      rw [← e]
      exact ⟨h1, h2⟩
    · dsimp only at hq
      rw [List.getElem?_set_ne (Ne.symm hi)] at hq
      exact he i q hq
  · rw [if_neg h4]; exact he
def ax_in (p : Int × Int) (x : Int) : Prop := p.1 ≤ x ∧ x ≤ p.2
theorem ax_ltT_ok {p q : Int × Int} {x y : Int} (hp : ax_in p x) (hq : ax_in q y) (h : x < y) : ax_in (ax_ltT p q).1 x ∧ ax_in (ax_ltT p q).2 y := by
  unfold ax_in ax_ltT at *
  dsimp only
  omega
theorem ax_ltF_ok {p q : Int × Int} {x y : Int} (hp : ax_in p x) (hq : ax_in q y) (h : ¬ x < y) : ax_in (ax_ltF p q).1 x ∧ ax_in (ax_ltF p q).2 y := by
  unfold ax_in ax_ltF at *
  dsimp only
  omega
theorem ax_eqT_ok {p q : Int × Int} {x y : Int} (hp : ax_in p x) (hq : ax_in q y) (h : x = y) : ax_in (ax_eqT p q).1 x ∧ ax_in (ax_eqT p q).2 y := by
  unfold ax_in ax_eqT at *
  dsimp only
  omega
theorem ax_neq_ok {p q : Int × Int} {x y : Int} (hp : ax_in p x) (hq : ax_in q y) (h : ¬ x = y) : ax_in (ax_neq p q) x := by
  unfold ax_in ax_neq at *
  by_cases hc : q.1 = q.2
  · rw [if_pos hc]
    dsimp only
    constructor <;> split <;> omega
  · rw [if_neg hc]
    exact hp
theorem ax_eqF_ok {p q : Int × Int} {x y : Int} (hp : ax_in p x) (hq : ax_in q y) (h : ¬ x = y) : ax_in (ax_eqF p q).1 x ∧ ax_in (ax_eqF p q).2 y := ⟨ax_neq_ok hp hq h, ax_neq_ok hq hp (fun e => h e.symm)⟩
theorem ax_cut_ok (k : ClassFile.Cond) {p q : Int × Int} {x y : Int32} (hp : ax_in p x.toInt) (hq : ax_in q y.toInt) : ax_in (ax_cut k (sx_cond k x y) p q).1 x.toInt ∧ ax_in (ax_cut k (sx_cond k x y) p q).2 y.toInt := by
  cases k
  · by_cases h : x = y
    · have e : sx_cond .eq x y = true := by simp [sx_cond, h]
      rw [e]; exact ax_eqT_ok hp hq (by rw [h])
    · have e : sx_cond .eq x y = false := by simp [sx_cond, h]
      rw [e]; exact ax_eqF_ok hp hq (fun c => h (Int32.toInt_inj.mp c))
  · by_cases h : x = y
    · have e : sx_cond .ne x y = false := by simp [sx_cond, h]
      rw [e]; exact ax_eqT_ok hp hq (by rw [h])
    · have e : sx_cond .ne x y = true := by simp [sx_cond, h]
      rw [e]; exact ax_eqF_ok hp hq (fun c => h (Int32.toInt_inj.mp c))
  · by_cases h : x < y
    · have e : sx_cond .lt x y = true := by simp [sx_cond, h]
      rw [e]; exact ax_ltT_ok hp hq (Int32.lt_iff_toInt_lt.mp h)
    · have e : sx_cond .lt x y = false := by simp only [sx_cond, h, decide_false]
      rw [e]; exact ax_ltF_ok hp hq (fun c => h (Int32.lt_iff_toInt_lt.mpr c))
  · by_cases h : y ≤ x
    · have e : sx_cond .ge x y = true := by simp [sx_cond, h]
      rw [e]
      have := Int32.le_iff_toInt_le.mp h
      exact ax_ltF_ok hp hq (by omega)
    · have e : sx_cond .ge x y = false := by simp only [sx_cond, h, decide_false]
      rw [e]
      have : ¬ y.toInt ≤ x.toInt := fun c => h (Int32.le_iff_toInt_le.mpr c)
      exact ax_ltT_ok hp hq (by omega)
  · by_cases h : y < x
    · have e : sx_cond .gt x y = true := by simp [sx_cond, h]
      rw [e]
      exact (ax_ltT_ok hq hp (Int32.lt_iff_toInt_lt.mp h)).symm
    · have e : sx_cond .gt x y = false := by simp only [sx_cond, h, decide_false]
      rw [e]
      exact (ax_ltF_ok hq hp (fun c => h (Int32.lt_iff_toInt_lt.mpr c))).symm
  · by_cases h : x ≤ y
    · have e : sx_cond .le x y = true := by simp [sx_cond, h]
      rw [e]
      have := Int32.le_iff_toInt_le.mp h
      exact (ax_ltF_ok hq hp (by omega)).symm
    · have e : sx_cond .le x y = false := by simp only [sx_cond, h, decide_false]
      rw [e]
      have : ¬ x.toInt ≤ y.toInt := fun c => h (Int32.le_iff_toInt_le.mpr c)
      exact (ax_ltT_ok hq hp (by omega)).symm
