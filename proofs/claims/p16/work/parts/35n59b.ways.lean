/-! persons, years, the seed, days: the whole state behind both -/
section WB
variable {xs : List Int32} {n : Nat} {m : gx_M}
theorem hPL_x {m m' : gx_M} (h : ∀ c k, c ≠ 0 → (c < 5 ∨ 17 < c) → c ≠ 87 → m' c k = m c k) : hAg hPL m m' := by
  intro q hq k h1 h2
  simp only [hPL, List.mem_cons, List.not_mem_nil, or_false] at hq
  rcases hq with rfl | rfl | rfl | rfl | rfl | rfl | rfl | rfl | rfl | rfl | rfl | rfl | rfl <;> exact h _ _ (by decide) (by decide) (by decide)
/-- a new state, where the book and the row alone were written -/
theorem hWr_s {s' : Nat → Int} {m' : gx_M} (h : hWr xs m) (f : ∀ c k, c ≠ 0 → (c < 5 ∨ 17 < c) → c ≠ 87 → m' c k = m c k) (f0 : ∀ k, m' 0 k = m 0 k) (h1 : sOK s') (h2 : sBk 5 s' m') (e : m' 87 = s') : hWr xs m' := by
  unfold hWr
  have e89 : m' 89 = m 89 := funext (fun k => f 89 k (by decide) (by decide) (by decide))
  rw [e, e89]
  exact hWs_mk h h1 h2 (f0 12) (f0 13) (f 86 47 (by decide) (by decide) (by decide)) (f 86 44 (by decide) (by decide) (by decide)) (fun c c1 c2 => funext (fun k => f c k (by omega) (by omega) (by omega))) (hPL_x f)
theorem or_bit {X P p : Nat} (hX : X < 256) (hP : P < 8) (hp : p < 8) : gx_and (gx_shr (gx_or (X : Int) (gx_shl 1 (P : Int))) (p : Int)) 1 = if (X.testBit p || decide (P = p)) = true then 1 else 0 := by
  have h2 : 2 ^ P < 256 := by
    have : P = 0 ∨ P = 1 ∨ P = 2 ∨ P = 3 ∨ P = 4 ∨ P = 5 ∨ P = 6 ∨ P = 7 := by omega
    rcases this with rfl | rfl | rfl | rfl | rfl | rfl | rfl | rfl <;> decide
  have h3 : X ||| 2 ^ P < 2 ^ 8 := Nat.or_lt_two_pow hX h2
  rw [hshl_one P (by omega), hor_nat (by omega) (by omega), hibit (by omega) (by omega), Nat.testBit_or, Nat.testBit_two_pow]
theorem or_bd {X P : Nat} (hX : X < 256) (hP : P < 8) : 0 ≤ gx_or (X : Int) (gx_shl 1 (P : Int)) ∧ gx_or (X : Int) (gx_shl 1 (P : Int)) ≤ 255 := by
  have h2 : 2 ^ P < 256 := by
    have : P = 0 ∨ P = 1 ∨ P = 2 ∨ P = 3 ∨ P = 4 ∨ P = 5 ∨ P = 6 ∨ P = 7 := by omega
    rcases this with rfl | rfl | rfl | rfl | rfl | rfl | rfl | rfl <;> decide
  have h3 : X ||| 2 ^ P < 2 ^ 8 := Nat.or_lt_two_pow hX h2
  rw [hshl_one P (by omega), hor_nat (by omega) (by omega)]
  omega
theorem ww_person {x1 x2 : Int} (hR : hWr xs m) : hxn xs n yp_m11 0 [(0, .inr (.inl 0)), (1, .inl x1), (2, .inl x2)] [] m (fun _ m1 => hxn xs n yp_m161 0 [(0, .inr (.inl 86)), (1, .inl x1), (2, .inl x2)] [] m1 (fun _ m2 => hWr xs m2)) := by
  have hno : (¬ (0 ≤ x1 ∧ x1 ≤ 7) ∨ ¬ (0 ≤ x2 ∧ x2 ≤ 99999)) → hxn xs n yp_m161 0 [(0, .inr (.inl 86)), (1, .inl x1), (2, .inl x2)] [] m (fun _ m2 => hWr xs m2) := fun hn =>
    hx_dn (hr161_0 (fun a b => absurd hn (by omega)) (fun _ _ => hR) (fun _ => hR))
  refine hx_dn (hr11_0 (fun _ => hno (by omega)) (fun _ _ => hno (by omega)) (fun _ _ _ => hno (by omega)) (fun a b c d => ?_) (fun _ _ _ _ => hno (by omega)))
  refine hx_dn (hr161_0 (fun _ _ => ?_) (fun _ hn => absurd hn (by omega)) (fun hn => absurd hn (by omega)))
  obtain ⟨P, rfl⟩ : ∃ P : Nat, x1 = (P : Int) := ⟨x1.toNat, by omega⟩
  have hP : P < 8 := by omega
  rw [Int.toNat_natCast, w1120 hP]
  have hs := hR.1
  have hB := hR.2.1
  have hT := hs.2.2.2.1
  obtain ⟨X, hX⟩ : ∃ X : Nat, m 87 1128 = (X : Int) := ⟨(m 87 1128).toNat, by omega⟩
  have hX2 : X < 256 := by omega
  have e5 : m 5 0 = m 87 1128 := sB5_ppl hB
  have e6 : gx_u (gx_u m 5 0 (gx_or (m 5 0) (gx_shl 1 (P : Int)))) 6 P x2 87 1128 = m 87 1128 := by
    rw [gx_u_ne (by omega), gx_u_ne (by omega)]
  rw [e6, e5]
  have k1 : sOK (su (m 87) 1128 (gx_or (m 87 1128) (gx_shl 1 (P : Int)))) := by
    refine sK_ppl (by rw [hX]; exact or_bd hX2 hP) (fun p hp c => ?_) hs
    rw [hX, or_bit hX2 hP hp] at c
    left
    rw [hX, hibit (by omega) (by omega)]
    cases hb : X.testBit p with
    | false => rfl
    | true =>
      rw [hb, Bool.true_or] at c
      exact absurd c (by decide)
  refine hWr_s hR (fun c k b1 b2 b3 => ?_) (fun k => ?_) (sK_coin hP (by omega) (fun c => ?_) k1) ?_ (by rw [gx_su, gx_su, gx_u_off (by decide), gx_u_off (by decide)])
  · rw [gx_u_off b3, gx_u_off b3, gx_u_off (by omega), gx_u_off (by omega)]
  · rw [gx_u_off (by decide), gx_u_off (by decide), gx_u_off (by decide), gx_u_off (by decide)]
  · rw [su_self, hX, or_bit hX2 hP hP, decide_eq_true (rfl : P = P), Bool.or_true] at c
    exact absurd c (by decide)
  · refine sBk_c (m := gx_u (gx_u m 5 0 (gx_or (m 87 1128) (gx_shl 1 (P : Int)))) 6 P x2) (fun c c1 c2 => ?_) (sU_coin (b := 5) hP (sU_ppl (b := 5) hB))
    rw [gx_u_off (by omega), gx_u_off (by omega)]
/-! a year -/
def yearS (s : Nat → Int) (Y : Nat) (x2 x3 x4 x5 x6 x7 : Int) : Nat → Int := su (su (su (su (su (su (su (su (su (su (su (su (su s (440 + Y) 1) (0 + Y) x2) (40 + Y) x3) (80 + Y) x4) (120 + Y) x5) (160 + Y) x6) (200 + Y) x7) (240 + Y) x3) (280 + Y) (-2)) (320 + Y) 0) (360 + Y) 0) (400 + Y) 1) (480 + 16 * Y) x3
theorem yearS_at {s : Nat → Int} {Y : Nat} (hY : Y < 40) {x2 x3 x4 x5 x6 x7 : Int} (k : Nat) : yearS s Y x2 x3 x4 x5 x6 x7 k = if k = 480 + 16 * Y then x3 else if k = 400 + Y then 1 else if k = 360 + Y then 0 else if k = 320 + Y then 0 else if k = 280 + Y then -2 else if k = 240 + Y then x3 else if k = 200 + Y then x7 else if k = 160 + Y then x6 else if k = 120 + Y then x5 else if k = 80 + Y then x4 else if k = 40 + Y then x3 else if k = Y then x2 else if k = 440 + Y then 1 else s k := by
  unfold yearS su
  rw [Nat.zero_add]
theorem yearS_c {s : Nat → Int} {Y : Nat} (hY : Y < 40) {g x2 x3 x4 x5 x6 x7 : Int} : sGo (su (su (su (su (su (su (su (su (su s (280 + Y) g) Y x2) (80 + Y) x4) (120 + Y) x5) (200 + Y) x7) (440 + Y) 1) (160 + Y) x6) (40 + Y) x3) (400 + Y) 0) Y x3 = yearS s Y x2 x3 x4 x5 x6 x7 := by
  unfold sGo
  rw [su_self, if_neg (by decide)]
  funext k
  rw [yearS_at hY]
  unfold sPwn
  have e0 : (0 : Int).toNat = 0 := rfl
  rw [e0]
  by_cases c1 : k = 480 + 16 * Y
  · rw [if_pos c1, su_ne (by omega), c1, Nat.add_zero, su_self]
  rw [if_neg c1]
  by_cases c2 : k = 400 + Y
  · rw [if_pos c2, c2, su_self]
    rfl
  rw [if_neg c2, su_ne c2, su_ne (by omega)]
  by_cases c3 : k = 360 + Y
  · rw [if_pos c3, c3, su_self]
  rw [if_neg c3, su_ne c3]
  by_cases c4 : k = 320 + Y
  · rw [if_pos c4, c4, su_self]
  rw [if_neg c4, su_ne c4]
  by_cases c5 : k = 280 + Y
  · rw [if_pos c5, c5, su_self]
  rw [if_neg c5, su_ne c5]
  by_cases c6 : k = 240 + Y
  · rw [if_pos c6, c6, su_self]
  rw [if_neg c6, su_ne c6, su_ne c2]
  by_cases c7 : k = 200 + Y
  · rw [if_pos c7, c7, su_ne (by omega), su_ne (by omega), su_ne (by omega), su_self]
  rw [if_neg c7]
  by_cases c8 : k = 160 + Y
  · rw [if_pos c8, c8, su_ne (by omega), su_self]
  rw [if_neg c8]
  by_cases c9 : k = 120 + Y
  · rw [if_pos c9, c9, su_ne (by omega), su_ne (by omega), su_ne (by omega), su_ne (by omega), su_self]
  rw [if_neg c9]
  by_cases c10 : k = 80 + Y
  · rw [if_pos c10, c10, su_ne (by omega), su_ne (by omega), su_ne (by omega), su_ne (by omega), su_ne (by omega), su_self]
  rw [if_neg c10]
  by_cases c11 : k = 40 + Y
  · rw [if_pos c11, c11, su_self]
  rw [if_neg c11, su_ne c11, su_ne c8]
  by_cases c12 : k = Y
  · rw [if_pos c12, c12, su_ne (by omega), su_ne (by omega), su_ne (by omega), su_ne (by omega), su_self]
  rw [if_neg c12]
  by_cases c13 : k = 440 + Y
  · rw [if_pos c13, c13, su_self]
  rw [if_neg c13, su_ne c13, su_ne c7, su_ne c9, su_ne c10, su_ne c12, su_ne c5]
theorem yearS_ok {s : Nat → Int} (hs : sOK s) {Y : Nat} (hY : Y < 40) {x2 x3 x4 x5 x6 x7 : Int} (h2 : 0 ≤ x2 ∧ x2 ≤ 99) (h3 : 0 ≤ x3 ∧ x3 ≤ 7) (h4 : 0 ≤ x4 ∧ x4 ≤ 4095) (h5 : 0 ≤ x5 ∧ x5 ≤ 255) (h6 : x6 = 0 ∨ x6 = 1) (h7 : 0 ≤ x7 ∧ x7 ≤ 9) : sOK (yearS s Y x2 x3 x4 x5 x6 x7) := by
  unfold yearS
  rw [Nat.zero_add]
  exact sK_hand (by omega) h3 (sK_many hY (by decide) (sK_due hY (by decide) (sK_lent hY (by decide) (sK_hold hY (.inl rfl) (sK_own hY h3 (sK_mark hY h7 (sK_deed hY h6 (sK_met hY h5 (sK_skl hY h4 (sK_livr hY h3 (sK_date hY h2 (sK_there hY (.inr rfl) hs))))))))))))
theorem c12W {Q : hQ} {s : Nat → Int} (hs : sOK s) (hB : sBk 5 s m) {x1 x2 x3 x4 x5 x6 x7 : Int} (h1 : ∀ (Y : Nat) (m1 : gx_M), x1 = Y → Y < 40 → yrOK s x1 x2 x3 x4 x5 x7 → sBk 5 (yearS s Y x2 x3 x4 x5 (if x6 = 0 then 0 else 1) x7) m1 → bFr 5 m m1 → Q (some (.inl 1)) m1) (h0 : ¬ yrOK s x1 x2 x3 x4 x5 x7 → Q (some (.inl 0)) m) : hxn xs n yp_m12 0 [(0, .inr (.inl 0)), (1, .inl x1), (2, .inl x2), (3, .inl x3), (4, .inl x4), (5, .inl x5), (6, .inl x6), (7, .inl x7)] [] m Q := by
  have hs' : m 5 0 = s 1128 := sB5_ppl hB
  have hp : cPers 5 m x3 ↔ aPers s x3 := cP_iff hB
  have no : ∀ {P : Prop}, P → (yrOK s x1 x2 x3 x4 x5 x7 → ¬ P) → Q (some (.inl 0)) m := fun hP h => h0 (fun ok => h ok hP)
  refine hx_dn (hr12_0 (fun c => no c (fun ok => by have := ok.1; omega)) (fun _ c => no c (fun ok => by have := ok.1; omega)) (fun _ _ c => no c (fun ok => by have := ok.2.1; omega)) (fun _ _ _ c => no c (fun ok => by have := ok.2.1; omega)) (fun _ _ _ _ c => no c (fun ok => by have := ok.2.2.2.2.2.2.2; omega)) (fun _ _ _ _ _ _ c => no c (fun ok => by have := ok.2.2.2.1; omega)) (fun _ _ _ _ _ _ _ c => no c (fun ok => by have := ok.2.2.2.1; omega)) (fun a1 a2 a3 a4 a5 a6 a7 a8 a9 a10 a11 => ?_) (fun _ _ _ _ _ _ _ _ _ _ c => no c (fun ok => by
    have := ok.2.2.2.2.2.1
    have := hb01 x5 x3
    omega)) (fun _ _ _ _ _ _ _ _ _ c => no c (fun ok => by
    have h5 := ok.2.2.2.2.1
    have h7 := ok.2.2.2.2.2.2.1
    exact fun hn => hn ⟨h5.1, h5.2, by rw [hs']; exact h7⟩)) (fun _ _ _ _ _ _ _ _ c => no c (fun ok => fun hn => hn (hp.mpr ok.2.2.1))) (fun _ _ _ _ _ c => no c (fun ok => by have := ok.2.2.2.2.2.2.2; omega)))
  obtain ⟨Y, rfl⟩ : ∃ Y : Nat, x1 = Y := ⟨x1.toNat, by omega⟩
  have hY : Y < 40 := by omega
  have hok : yrOK s Y x2 x3 x4 x5 x7 := ⟨by omega, by omega, hp.mp a9, by omega, ⟨a10.1, a10.2.1⟩, by have := hb01 x5 x3; omega, by rw [← hs']; exact a10.2.2, by omega⟩
  rw [Int.toNat_natCast]
  have hg : sBk 5 (su s (280 + Y) (m 13 Y)) m := by
    obtain ⟨g1, g2, g3, g4⟩ := hB
    have mk : ∀ B : Nat, (B = 440 ∨ B = 160) → hmask (fun y => decide (su s (280 + Y) (m 13 Y) (B + y) = 1)) 40 = hmask (fun y => decide (s (B + y) = 1)) 40 := fun B hB' => hmask_ext 40 (fun j hj => by rw [su_ne (by omega)])
    refine ⟨⟨by rw [su_ne (by omega)]; exact g1.1, by rw [mk 440 (.inl rfl)]; exact g1.2.1, by rw [mk 160 (.inr rfl)]; exact g1.2.2.1, by rw [su_ne (by omega)]; exact g1.2.2.2.1, by rw [su_ne (by omega)]; exact g1.2.2.2.2⟩, fun p hp => by rw [su_ne (by omega)]; exact g2 p hp, fun y hy => ?_, fun k hk => by rw [su_ne (by omega)]; exact g4 k hk⟩
    obtain ⟨q1, q2, q3, q4⟩ := g3 y hy
    rw [su_ne (j := y) (by omega), su_ne (j := 40 + y) (by omega), su_ne (j := 80 + y) (by omega), su_ne (j := 120 + y) (by omega), su_ne (j := 200 + y) (by omega), su_ne (j := 240 + y) (by omega), su_ne (j := 320 + y) (by omega), su_ne (j := 360 + y) (by omega), su_ne (j := 400 + y) (by omega), su_ne (j := 440 + y) (by omega)]
    refine ⟨q1, q2, fun ht => ?_, q4⟩
    by_cases e : y = Y
    · subst e
      rw [su_self]
    · rw [su_ne (by omega)]
      exact q3 ht
  have b4 : sBk 5 (su (su (su (su (su s (280 + Y) (m 13 Y)) Y x2) (80 + Y) x4) (120 + Y) x5) (200 + Y) x7) (gx_u (gx_u (gx_u (gx_u m 7 Y x2) 9 Y x4) 10 Y x5) 11 Y x7) := sU_mark (b := 5) hY (sU_met (b := 5) hY (sU_skl (b := 5) hY (sU_date (b := 5) hY hg)))
  have f4 : bFr 5 m (gx_u (gx_u (gx_u (gx_u m 7 Y x2) 9 Y x4) 10 Y x5) 11 Y x7) := bFr_t (bFr_t (bFr_t (bFr_u (by decide)) (bFr_u (by decide))) (bFr_u (by decide))) (bFr_u (by decide))
  have e13 : (gx_u (gx_u (gx_u (gx_u m 7 Y x2) 9 Y x4) 10 Y x5) 11 Y x7) (5 + 8) Y = (su (su (su (su (su s (280 + Y) (m 13 Y)) Y x2) (80 + Y) x4) (120 + Y) x5) (200 + Y) x7) (280 + Y) := by
    rw [gx_u_ne (by omega), gx_u_ne (by omega), gx_u_ne (by omega), gx_u_ne (by omega), su_ne (by omega), su_ne (by omega), su_ne (by omega), su_ne (by omega), su_self]
  generalize gx_u (gx_u (gx_u (gx_u m 7 Y x2) 9 Y x4) 10 Y x5) 11 Y x7 = M at b4 f4 e13 ⊢
  have fin : ∀ m1, sBk 5 (yearS s Y x2 x3 x4 x5 (if x6 = 0 then 0 else 1) x7) m1 → bFr 5 m m1 → hxn xs n yp_m12 137 [] (hrs none ++ []) m1 Q := fun m1 hm1 f1 => hx_dn (hr12_137 (h1 Y m1 rfl hY hok hm1 f1))
  have end15 : ∀ (x : Int) (M2 : gx_M), x = (if x6 = 0 then 0 else 1) → sBk 5 (su (su (su (su (su (su (su (su (su s (280 + Y) (m 13 Y)) Y x2) (80 + Y) x4) (120 + Y) x5) (200 + Y) x7) (440 + Y) 1) (160 + Y) x) (40 + Y) x3) (400 + Y) 0) M2 → bFr 5 m M2 → hxn xs n yp_m16 0 [(0, .inr (.inl 5)), (1, .inl (Y : Int)), (2, .inl x3)] [] M2 (fun r m' => hxn xs n yp_m15 74 [] (hrs r ++ []) m' (fun r m' => hxn xs n yp_m12 137 [] (hrs r ++ []) m' Q)) := fun x M2 hx b f => by
    refine cd16 hY (by rw [su_self]; decide) b (by rw [su_ne (by omega), su_ne (by omega), su_ne (by omega), su_self]) (fun m1 q1 q2 => ?_)
    rw [yearS_c hY, hx] at q1
    exact hx_dn (hr15_74 (fin m1 q1 (bFr_t f q2)))
  have by1 := sU_yrs1 (b := 5) hY e13 b4
  refine hx_dn (hr15_0 (fun c => absurd c (by omega)) (fun _ _ c => ?_) (fun _ _ c => ?_) (fun _ c => absurd c (by omega)))
  · rw [Int.toNat_natCast]
    refine end15 0 _ (by rw [if_pos c]) ?_ ?_
    · exact sU_many (b := 5) hY (sU_livr (b := 5) hY (by
        have := sU_dds0 (b := 5) hY by1
        rw [gx_u_ne (by decide)] at this
        exact this))
    · exact bFr_t f4 (bFr_t (bFr_t (bFr_t (bFr_u (by decide)) (bFr_u (by decide))) (bFr_u (by decide))) (bFr_u (by decide)))
  · rw [Int.toNat_natCast]
    refine end15 1 _ (by rw [if_neg c]) ?_ ?_
    · exact sU_many (b := 5) hY (sU_livr (b := 5) hY (by
        have := sU_dds1 (b := 5) hY by1
        rw [gx_u_ne (by decide)] at this
        exact this))
    · exact bFr_t f4 (bFr_t (bFr_t (bFr_t (bFr_u (by decide)) (bFr_u (by decide))) (bFr_u (by decide))) (bFr_u (by decide)))
theorem yrM_87 {Y : Nat} (hY : Y < 40) {x2 x3 x4 x5 x6 x7 : Int} : yrM m (Y : Int) x2 x3 x4 x5 x6 x7 87 = yearS (m 87) Y x2 x3 x4 x5 x6 x7 := by
  have e0 : (gx_w (0 + (Y : Int))).toNat = 0 + Y := wz (by decide) (by omega)
  have e40 : (gx_w (40 + (Y : Int))).toNat = 40 + Y := wz (by decide) (by omega)
  have e80 : (gx_w (80 + (Y : Int))).toNat = 80 + Y := wz (by decide) (by omega)
  have e120 : (gx_w (120 + (Y : Int))).toNat = 120 + Y := wz (by decide) (by omega)
  have e160 : (gx_w (160 + (Y : Int))).toNat = 160 + Y := wz (by decide) (by omega)
  have e200 : (gx_w (200 + (Y : Int))).toNat = 200 + Y := wz (by decide) (by omega)
  have e480 : (gx_w (480 + (gx_w (16 * (Y : Int))))).toNat = 480 + 16 * Y := by
    rw [gx_w_id (x := 16 * (Y : Int)) (by omega) (by omega), gx_w_id (by omega) (by omega)]
    omega
  unfold yrM
  rw [e0, e40, e80, e120, e160, e200, e480, w240 hY, w280 hY, w320 hY, w360 hY, w400 hY, w440 hY]
  rw [gx_su, gx_su, gx_su, gx_su, gx_su, gx_su, gx_su, gx_su, gx_su, gx_su, gx_su, gx_su, gx_su]
  rfl
theorem yrM_o {c : Nat} (hc : c ≠ 87) {x1 x2 x3 x4 x5 x6 x7 : Int} : yrM m x1 x2 x3 x4 x5 x6 x7 c = m c := by
  unfold yrM
  rw [gx_u_off hc, gx_u_off hc, gx_u_off hc, gx_u_off hc, gx_u_off hc, gx_u_off hc, gx_u_off hc, gx_u_off hc, gx_u_off hc, gx_u_off hc, gx_u_off hc, gx_u_off hc, gx_u_off hc]
theorem ww_year {x1 x2 x3 x4 x5 x6 x7 : Int} (hR : hWr xs m) : hxn xs n yp_m12 0 [(0, .inr (.inl 0)), (1, .inl x1), (2, .inl x2), (3, .inl x3), (4, .inl x4), (5, .inl x5), (6, .inl x6), (7, .inl x7)] [] m (fun _ m1 => hxn xs n yp_m163 0 [(0, .inr (.inl 86)), (1, .inl x1), (2, .inl x2), (3, .inl x3), (4, .inl x4), (5, .inl x5), (6, .inl x6), (7, .inl x7)] [] m1 (fun _ m2 => hWr xs m2)) := by
  refine c12W hR.1 hR.2.1 (fun Y m1 e hY hok hB1 f1 => ?_) (fun hn => hs163 (fun ok => absurd ok hn) (fun _ => hR))
  have e87 : m1 87 = m 87 := f1 87 (by decide)
  refine hs163 (fun _ => ?_) (fun hn => absurd (by rw [e87]; exact hok) hn)
  subst e
  obtain ⟨o1, o2, o3, o4, o5, o6, o7, o8⟩ := hok
  refine hWr_s hR (fun c k b1 b2 b3 => ?_) (fun k => ?_) (yearS_ok hR.1 hY o2 ⟨o3.1, by have := o3.2.1; omega⟩ o4 o5 (by split; exact .inl rfl; exact .inr rfl) o8) (sBk_c (fun c c1 c2 => yrM_o (by omega)) hB1) (by rw [yrM_87 hY, e87])
  · rw [yrM_o b3, f1 c (by omega)]
  · rw [yrM_o (by decide), f1 0 (by decide)]
theorem ww_seed {x1 : Int} (hR : hWr xs m) : hxn xs n yp_m153 0 [(0, .inr (.inl 0)), (1, .inl x1)] [] m (fun _ m1 => hxn xs n yp_m268 0 [(0, .inr (.inl 86)), (1, .inl x1)] [] m1 (fun _ m2 => hWr xs m2)) := by
  refine hx_dn (hr153_0 (fun c => ?_) (fun c d => ?_) (fun c d => ?_))
  · exact hx_dn (hr268_0 (fun c2 => absurd c2 (by omega)) (fun _ => hR))
  · refine hx_dn (hr268_0 (fun _ => ?_) (fun c2 => absurd c2 (by omega)))
    refine hWr_s hR (fun c k b1 b2 b3 => ?_) (fun k => ?_) (sK_lot (by omega) hR.1) (sBk_c (fun c c1 c2 => gx_u_off (by omega)) (sU_lot (b := 5) hR.2.1)) (by rw [gx_su, gx_u_off (by decide)])
    · rw [gx_u_off b3, gx_u_off (by omega)]
    · rw [gx_u_off (by decide), gx_u_off (by decide)]
  · exact hx_dn (hr268_0 (fun c2 => absurd c2 (by omega)) (fun _ => hR))
end WB
